noncomputable def fX7_putExpression_J73 (N : Nat) (p0 : Nat) (p1 : Int32) (v3 : Int32) (s : zS) : Option (Unit × zS) := zbn (fX7_putTree N p0 ((s.1 3004) - 1) 1 0 s) (fun x13 s14 => if v3 = 0 then some ((), s14) else zbn (fX7_putByte N 41 s14) (fun x16 s17 => some ((), s17)))
set_option maxHeartbeats 400000 in
set_option maxRecDepth 100000 in
theorem tX7_putExpression_J73 {g : zGl} (hok : zGok g) (d : Nat) (hd : 121 ≤ d) (N : Nat) (p0 : Nat) (p1 : Int32) (hp0 : zBk p0) {mc ms n0 : Nat} (v3 : Int32) {s s' : zS} {w : Unit} (hf : fX7_putExpression_J73 N p0 p1 v3 s = some (w, s')) : zW g mX7_putExpression d mc ms n0 (zret none (zHp s')) 0 0 (zHp s) [some (.ref 30), some (.ref p0), some (.int p1), some (.int v3)] [] 73 := by
  unfold fX7_putExpression_J73 at hf
  refine z_aload_n dX7_putExpression_73 rfl ?_
  refine z_aload_n dX7_putExpression_74 rfl ?_
  refine z_aload_n dX7_putExpression_75 rfl ?_
  refine z_getf dX7_putExpression_76 fX7_113 (at_Teller s) rfl ?_
  refine z_iconst 1 dX7_putExpression_79 (by decide +kernel) ?_
  refine z_isub dX7_putExpression_80 ?_
  refine z_iconst 1 dX7_putExpression_81 (by decide +kernel) ?_
  refine z_iconst 0 dX7_putExpression_82 (by decide +kernel) ?_
  obtain ⟨x13, s14, q15, hf⟩ := zbn_of hf
  refine z_cV (as := [_, _, _, _]) hok dX7_putExpression_83 kX7_128 (tX7_putTree hok (d - 1) (by omega) N p0 ((s.1 3004) - 1) 1 0 hp0 q15) rfl (at_Teller s) rfl rfl (by omega) (Nat.le_of_ble_eq_true rfl) (Nat.zero_le _) (Nat.zero_le _) rfl ?_
  refine z_iload_n dX7_putExpression_86 rfl ?_
  refine z_if_eq 96 dX7_putExpression_87 (by decide) (fun c87 => ?_) (fun c87 => ?_)
  · have hf := zifp hf c87
    cases hf
    exact z_vret rfl dX7_putExpression_96 (Nat.zero_le _) (Nat.zero_le _) ⟨rfl, rfl⟩
  · have hf := zifn hf c87
    refine z_aload_n dX7_putExpression_90 rfl ?_
    refine z_bipush 41 dX7_putExpression_91 (by decide +kernel) ?_
    obtain ⟨x16, s17, q18, hf⟩ := zbn_of hf
    refine z_cV (as := [_]) hok dX7_putExpression_93 kX7_34 (tX7_putByte hok (d - 1) N 41  q18) rfl (at_Teller s14) rfl rfl (by omega) (Nat.le_of_ble_eq_true rfl) (Nat.zero_le _) (Nat.zero_le _) rfl ?_
    cases hf
    exact z_vret rfl dX7_putExpression_96 (Nat.zero_le _) (Nat.zero_le _) ⟨rfl, rfl⟩
noncomputable def fX7_putExpression (N : Nat) (p0 : Nat) (p1 : Int32) (s : zS) : Option (Unit × zS) := zbn (fX6_cell N (p0 + 3) p1 2 0 s) (fun x1 s2 => zbn (fX6_cell N (p0 + 3) p1 3 0 s2) (fun x4 s5 => zbn (fX6_cell N (p0 + 3) p1 4 0 (zsc s5 3003 x4)) (fun x7 s8 => zbn (fX7_findBegins N p0 (zsc s8 3004 (if 60 < x7 then 60 else x7))) (fun x10 s11 => if x1 = 0 then fX7_putExpression_J73 N p0 p1 x1 s11 else zbn (fX7_putByte N 37 s11) (fun x19 s20 => zbn (fX2_nameOf N x1 s20) (fun x22 s23 => zbn (fX7_putText N x22 s23) (fun x25 s26 => zbn (fX7_putByte N 40 s26) (fun x28 s29 => fX7_putExpression_J73 N p0 p1 x1 s29))))))))
set_option maxHeartbeats 400000 in
set_option maxRecDepth 100000 in
theorem tX7_putExpression {g : zGl} (hok : zGok g) (d : Nat) (hd : 121 ≤ d) (N : Nat) (p0 : Nat) (p1 : Int32) (hp0 : zBk p0) {s s' : zS} {w : Unit} (hf : fX7_putExpression N p0 p1 s = some (w, s')) : zMet g mX7_putExpression d 0 0 [.ref 30, .ref p0, .int p1] (zHp s) (zret none (zHp s')) := by
  refine zMet.ofW (by decide +kernel) (Nat.le_of_ble_eq_true rfl) ?_
  show zW g mX7_putExpression d 0 0 51 _ 0 0 (zHp s) [some (.ref 30), some (.ref p0), some (.int p1), none] [] 0
  unfold fX7_putExpression at hf
  refine z_aload_n dX7_putExpression_0 rfl ?_
  refine z_getN hok dX7_putExpression_1 fX7_73 (at_Book s p0 hp0) rfl ?_
  refine z_iload_n dX7_putExpression_4 rfl ?_
  refine z_iconst 2 dX7_putExpression_5 (by decide +kernel) ?_
  refine z_iconst 0 dX7_putExpression_6 (by decide +kernel) ?_
  obtain ⟨x1, s2, q3, hf⟩ := zbn_of hf
  refine z_cV (as := [_, _, _]) hok dX7_putExpression_7 kX7_24 (tX6_cell hok (d - 1) N (p0 + 3) p1 2 0 (zBk_t p0 hp0).2.1 q3) rfl (at_Table s (p0 + 3) (zBk_t p0 hp0).2.1) rfl rfl (by omega) (Nat.le_of_ble_eq_true rfl) (Nat.zero_le _) (Nat.zero_le _) rfl ?_
  refine z_istore_n (ls' := [_, _, _, _]) dX7_putExpression_10 (by decide) rfl ?_
  refine z_aload_n dX7_putExpression_11 rfl ?_
  refine z_aload_n dX7_putExpression_12 rfl ?_
  refine z_getN hok dX7_putExpression_13 fX7_73 (at_Book s2 p0 hp0) rfl ?_
  refine z_iload_n dX7_putExpression_16 rfl ?_
  refine z_iconst 3 dX7_putExpression_17 (by decide +kernel) ?_
  refine z_iconst 0 dX7_putExpression_18 (by decide +kernel) ?_
  obtain ⟨x4, s5, q6, hf⟩ := zbn_of hf
  refine z_cV (as := [_, _, _]) hok dX7_putExpression_19 kX7_24 (tX6_cell hok (d - 1) N (p0 + 3) p1 3 0 (zBk_t p0 hp0).2.1 q6) rfl (at_Table s2 (p0 + 3) (zBk_t p0 hp0).2.1) rfl rfl (by omega) (Nat.le_of_ble_eq_true rfl) (Nat.zero_le _) (Nat.zero_le _) rfl ?_
  refine z_putf dX7_putExpression_22 fX7_105 wX7_3 (at_Teller s5) (Nat.le_of_ble_eq_true rfl) (fun _ => rfl) (fun _ => rfl) (st_Teller_3 s5 x4) ?_
  refine z_aload_n dX7_putExpression_25 rfl ?_
  refine z_aload_n dX7_putExpression_26 rfl ?_
  refine z_getN hok dX7_putExpression_27 fX7_73 (at_Book (zsc s5 3003 x4) p0 hp0) rfl ?_
  refine z_iload_n dX7_putExpression_30 rfl ?_
  refine z_iconst 4 dX7_putExpression_31 (by decide +kernel) ?_
  refine z_iconst 0 dX7_putExpression_32 (by decide +kernel) ?_
  obtain ⟨x7, s8, q9, hf⟩ := zbn_of hf
  refine z_cV (as := [_, _, _]) hok dX7_putExpression_33 kX7_24 (tX6_cell hok (d - 1) N (p0 + 3) p1 4 0 (zBk_t p0 hp0).2.1 q9) rfl (at_Table (zsc s5 3003 x4) (p0 + 3) (zBk_t p0 hp0).2.1) rfl rfl (by omega) (Nat.le_of_ble_eq_true rfl) (Nat.zero_le _) (Nat.zero_le _) rfl ?_
  refine z_bipush 60 dX7_putExpression_36 (by decide +kernel) ?_
  refine z_mmin dX7_putExpression_38 kX7_108 (Nat.le_of_ble_eq_true rfl) (Nat.zero_le _) (Nat.zero_le _) ?_
  refine z_putf dX7_putExpression_41 fX7_113 wX7_4 (at_Teller s8) (Nat.le_of_ble_eq_true rfl) (fun _ => rfl) (fun _ => rfl) (st_Teller_4 s8 (if 60 < x7 then 60 else x7)) ?_
  refine z_aload_n dX7_putExpression_44 rfl ?_
  refine z_aload_n dX7_putExpression_45 rfl ?_
  obtain ⟨x10, s11, q12, hf⟩ := zbn_of hf
  refine z_cV (as := [_]) hok dX7_putExpression_46 kX7_116 (tX7_findBegins hok (d - 1) (by omega) N p0 hp0 q12) rfl (at_Teller (zsc s8 3004 (if 60 < x7 then 60 else x7))) rfl rfl (by omega) (Nat.le_of_ble_eq_true rfl) (Nat.zero_le _) (Nat.zero_le _) rfl ?_
  refine z_iload_n dX7_putExpression_49 rfl ?_
  refine z_if_eq 73 dX7_putExpression_50 (by decide) (fun c50 => ?_) (fun c50 => ?_)
  · have hf := zifp hf c50
    refine z_mask (ls' := [_, _, _, _]) [true, true, true, true] rfl ?_
    exact tX7_putExpression_J73 hok d (by omega) N p0 p1 hp0 x1 hf
  · have hf := zifn hf c50
    refine z_aload_n dX7_putExpression_53 rfl ?_
    refine z_bipush 37 dX7_putExpression_54 (by decide +kernel) ?_
    obtain ⟨x19, s20, q21, hf⟩ := zbn_of hf
    refine z_cV (as := [_]) hok dX7_putExpression_56 kX7_34 (tX7_putByte hok (d - 1) N 37  q21) rfl (at_Teller s11) rfl rfl (by omega) (Nat.le_of_ble_eq_true rfl) (Nat.zero_le _) (Nat.zero_le _) rfl ?_
    refine z_aload_n dX7_putExpression_59 rfl ?_
    refine z_iload_n dX7_putExpression_60 rfl ?_
    obtain ⟨x22, s23, q24, hf⟩ := zbn_of hf
    refine z_cS (as := [_]) hok dX7_putExpression_61 kX7_120 (tX2_nameOf hok (d - 1) N x1  q24) rfl rfl (by omega) (Nat.le_of_ble_eq_true rfl) (Nat.zero_le _) (Nat.zero_le _) rfl ?_
    obtain ⟨x25, s26, q27, hf⟩ := zbn_of hf
    refine z_cV (as := [_]) hok dX7_putExpression_64 kX7_46 (tX7_putText hok (d - 1) (by omega) N x22  q27) rfl (at_Teller s23) rfl rfl (by omega) (Nat.le_of_ble_eq_true rfl) (Nat.zero_le _) (Nat.zero_le _) rfl ?_
    refine z_aload_n dX7_putExpression_67 rfl ?_
    refine z_bipush 40 dX7_putExpression_68 (by decide +kernel) ?_
    obtain ⟨x28, s29, q30, hf⟩ := zbn_of hf
    refine z_cV (as := [_]) hok dX7_putExpression_70 kX7_34 (tX7_putByte hok (d - 1) N 40  q30) rfl (at_Teller s26) rfl rfl (by omega) (Nat.le_of_ble_eq_true rfl) (Nat.zero_le _) (Nat.zero_le _) rfl ?_
    refine z_mask (ls' := [_, _, _, _]) [true, true, true, true] rfl ?_
    exact tX7_putExpression_J73 hok d (by omega) N p0 p1 hp0 x1 hf

noncomputable def fX7_putOperand (N : Nat) (p0 : Nat) (p1 : Int32) (s : zS) : Option (Unit × zS) := zbn (fX6_cell N (p0 + 3) p1 0 (-1) s) (fun x1 s2 => if x1 = 3 then zbn (fX7_putString N p0 p1 s2) (fun x28 s29 => if x1 = 2 then zbn (fX7_putByte N 40 s29) (fun x31 s32 => zbn (fX7_putRegister N p0 p1 s32) (fun x34 s35 => zbn (fX7_putByte N 41 s35) (fun x37 s38 => some ((), s38)))) else some ((), s29)) else if x1 = 1 then zbn (fX7_putRegister N p0 p1 s2) (fun x16 s17 => if x1 = 2 then zbn (fX7_putByte N 40 s17) (fun x19 s20 => zbn (fX7_putRegister N p0 p1 s20) (fun x22 s23 => zbn (fX7_putByte N 41 s23) (fun x25 s26 => some ((), s26)))) else some ((), s17)) else zbn (fX7_putExpression N p0 p1 s2) (fun x4 s5 => if x1 = 2 then zbn (fX7_putByte N 40 s5) (fun x7 s8 => zbn (fX7_putRegister N p0 p1 s8) (fun x10 s11 => zbn (fX7_putByte N 41 s11) (fun x13 s14 => some ((), s14)))) else some ((), s5)))
set_option maxHeartbeats 400000 in
set_option maxRecDepth 100000 in
theorem tX7_putOperand {g : zGl} (hok : zGok g) (d : Nat) (hd : 122 ≤ d) (N : Nat) (p0 : Nat) (p1 : Int32) (hp0 : zBk p0) {s s' : zS} {w : Unit} (hf : fX7_putOperand N p0 p1 s = some (w, s')) : zMet g mX7_putOperand d 0 0 [.ref 30, .ref p0, .int p1] (zHp s) (zret none (zHp s')) := by
  refine zMet.ofW (by decide +kernel) (Nat.le_of_ble_eq_true rfl) ?_
  show zW g mX7_putOperand d 0 0 51 _ 0 0 (zHp s) [some (.ref 30), some (.ref p0), some (.int p1), none] [] 0
  unfold fX7_putOperand at hf
  refine z_aload_n dX7_putOperand_0 rfl ?_
  refine z_getN hok dX7_putOperand_1 fX7_73 (at_Book s p0 hp0) rfl ?_
  refine z_iload_n dX7_putOperand_4 rfl ?_
  refine z_iconst 0 dX7_putOperand_5 (by decide +kernel) ?_
  refine z_iconst (-1) dX7_putOperand_6 (by decide +kernel) ?_
  obtain ⟨x1, s2, q3, hf⟩ := zbn_of hf
  refine z_cV (as := [_, _, _]) hok dX7_putOperand_7 kX7_24 (tX6_cell hok (d - 1) N (p0 + 3) p1 0 (-1) (zBk_t p0 hp0).2.1 q3) rfl (at_Table s (p0 + 3) (zBk_t p0 hp0).2.1) rfl rfl (by omega) (Nat.le_of_ble_eq_true rfl) (Nat.zero_le _) (Nat.zero_le _) rfl ?_
  refine z_istore_n (ls' := [_, _, _, _]) dX7_putOperand_10 (by decide) rfl ?_
  refine z_iload_n dX7_putOperand_11 rfl ?_
  refine z_iconst 3 dX7_putOperand_12 (by decide +kernel) ?_
  refine z_icmp_ne 25 dX7_putOperand_13 (by decide) (fun c13 => ?_) (fun c13 => ?_)
  · have hf := zifn hf c13
    refine z_iload_n dX7_putOperand_25 rfl ?_
    refine z_iconst 1 dX7_putOperand_26 (by decide +kernel) ?_
    refine z_icmp_ne 39 dX7_putOperand_27 (by decide) (fun c27 => ?_) (fun c27 => ?_)
    · have hf := zifn hf c27
      refine z_aload_n dX7_putOperand_39 rfl ?_
      refine z_aload_n dX7_putOperand_40 rfl ?_
      refine z_iload_n dX7_putOperand_41 rfl ?_
      obtain ⟨x4, s5, q6, hf⟩ := zbn_of hf
      refine z_cV (as := [_, _]) hok dX7_putOperand_42 kX7_82 (tX7_putExpression hok (d - 1) (by omega) N p0 p1 hp0 q6) rfl (at_Teller s2) rfl rfl (by omega) (Nat.le_of_ble_eq_true rfl) (Nat.zero_le _) (Nat.zero_le _) rfl ?_
      refine z_iload_n dX7_putOperand_45 rfl ?_
      refine z_iconst 2 dX7_putOperand_46 (by decide +kernel) ?_
      refine z_icmp_ne 68 dX7_putOperand_47 (by decide) (fun c47 => ?_) (fun c47 => ?_)
      · have hf := zifn hf c47
        cases hf
        exact z_vret rfl dX7_putOperand_68 (Nat.zero_le _) (Nat.zero_le _) ⟨rfl, rfl⟩
      · have hf := zifp hf c47
        refine z_aload_n dX7_putOperand_50 rfl ?_
        refine z_bipush 40 dX7_putOperand_51 (by decide +kernel) ?_
        obtain ⟨x7, s8, q9, hf⟩ := zbn_of hf
        refine z_cV (as := [_]) hok dX7_putOperand_53 kX7_34 (tX7_putByte hok (d - 1) N 40  q9) rfl (at_Teller s5) rfl rfl (by omega) (Nat.le_of_ble_eq_true rfl) (Nat.zero_le _) (Nat.zero_le _) rfl ?_
        refine z_aload_n dX7_putOperand_56 rfl ?_
        refine z_aload_n dX7_putOperand_57 rfl ?_
        refine z_iload_n dX7_putOperand_58 rfl ?_
        obtain ⟨x10, s11, q12, hf⟩ := zbn_of hf
        refine z_cV (as := [_, _]) hok dX7_putOperand_59 kX7_79 (tX7_putRegister hok (d - 1) (by omega) N p0 p1 hp0 q12) rfl (at_Teller s8) rfl rfl (by omega) (Nat.le_of_ble_eq_true rfl) (Nat.zero_le _) (Nat.zero_le _) rfl ?_
        refine z_aload_n dX7_putOperand_62 rfl ?_
        refine z_bipush 41 dX7_putOperand_63 (by decide +kernel) ?_
        obtain ⟨x13, s14, q15, hf⟩ := zbn_of hf
        refine z_cV (as := [_]) hok dX7_putOperand_65 kX7_34 (tX7_putByte hok (d - 1) N 41  q15) rfl (at_Teller s11) rfl rfl (by omega) (Nat.le_of_ble_eq_true rfl) (Nat.zero_le _) (Nat.zero_le _) rfl ?_
        cases hf
        exact z_vret rfl dX7_putOperand_68 (Nat.zero_le _) (Nat.zero_le _) ⟨rfl, rfl⟩
    · have hf := zifp hf c27
      refine z_aload_n dX7_putOperand_30 rfl ?_
      refine z_aload_n dX7_putOperand_31 rfl ?_
      refine z_iload_n dX7_putOperand_32 rfl ?_
      obtain ⟨x16, s17, q18, hf⟩ := zbn_of hf
      refine z_cV (as := [_, _]) hok dX7_putOperand_33 kX7_79 (tX7_putRegister hok (d - 1) (by omega) N p0 p1 hp0 q18) rfl (at_Teller s2) rfl rfl (by omega) (Nat.le_of_ble_eq_true rfl) (Nat.zero_le _) (Nat.zero_le _) rfl ?_
      refine z_goto 45 dX7_putOperand_36 (by decide) ?_
      refine z_iload_n dX7_putOperand_45 rfl ?_
      refine z_iconst 2 dX7_putOperand_46 (by decide +kernel) ?_
      refine z_icmp_ne 68 dX7_putOperand_47 (by decide) (fun c47 => ?_) (fun c47 => ?_)
      · have hf := zifn hf c47
        cases hf
        exact z_vret rfl dX7_putOperand_68 (Nat.zero_le _) (Nat.zero_le _) ⟨rfl, rfl⟩
      · have hf := zifp hf c47
        refine z_aload_n dX7_putOperand_50 rfl ?_
        refine z_bipush 40 dX7_putOperand_51 (by decide +kernel) ?_
        obtain ⟨x19, s20, q21, hf⟩ := zbn_of hf
        refine z_cV (as := [_]) hok dX7_putOperand_53 kX7_34 (tX7_putByte hok (d - 1) N 40  q21) rfl (at_Teller s17) rfl rfl (by omega) (Nat.le_of_ble_eq_true rfl) (Nat.zero_le _) (Nat.zero_le _) rfl ?_
        refine z_aload_n dX7_putOperand_56 rfl ?_
        refine z_aload_n dX7_putOperand_57 rfl ?_
        refine z_iload_n dX7_putOperand_58 rfl ?_
        obtain ⟨x22, s23, q24, hf⟩ := zbn_of hf
        refine z_cV (as := [_, _]) hok dX7_putOperand_59 kX7_79 (tX7_putRegister hok (d - 1) (by omega) N p0 p1 hp0 q24) rfl (at_Teller s20) rfl rfl (by omega) (Nat.le_of_ble_eq_true rfl) (Nat.zero_le _) (Nat.zero_le _) rfl ?_
        refine z_aload_n dX7_putOperand_62 rfl ?_
        refine z_bipush 41 dX7_putOperand_63 (by decide +kernel) ?_
        obtain ⟨x25, s26, q27, hf⟩ := zbn_of hf
        refine z_cV (as := [_]) hok dX7_putOperand_65 kX7_34 (tX7_putByte hok (d - 1) N 41  q27) rfl (at_Teller s23) rfl rfl (by omega) (Nat.le_of_ble_eq_true rfl) (Nat.zero_le _) (Nat.zero_le _) rfl ?_
        cases hf
        exact z_vret rfl dX7_putOperand_68 (Nat.zero_le _) (Nat.zero_le _) ⟨rfl, rfl⟩
  · have hf := zifp hf c13
    refine z_aload_n dX7_putOperand_16 rfl ?_
    refine z_aload_n dX7_putOperand_17 rfl ?_
    refine z_iload_n dX7_putOperand_18 rfl ?_
    obtain ⟨x28, s29, q30, hf⟩ := zbn_of hf
    refine z_cV (as := [_, _]) hok dX7_putOperand_19 kX7_76 (tX7_putString hok (d - 1) (by omega) N p0 p1 hp0 q30) rfl (at_Teller s2) rfl rfl (by omega) (Nat.le_of_ble_eq_true rfl) (Nat.zero_le _) (Nat.zero_le _) rfl ?_
    refine z_goto 45 dX7_putOperand_22 (by decide) ?_
    refine z_iload_n dX7_putOperand_45 rfl ?_
    refine z_iconst 2 dX7_putOperand_46 (by decide +kernel) ?_
    refine z_icmp_ne 68 dX7_putOperand_47 (by decide) (fun c47 => ?_) (fun c47 => ?_)
    · have hf := zifn hf c47
      cases hf
      exact z_vret rfl dX7_putOperand_68 (Nat.zero_le _) (Nat.zero_le _) ⟨rfl, rfl⟩
    · have hf := zifp hf c47
      refine z_aload_n dX7_putOperand_50 rfl ?_
      refine z_bipush 40 dX7_putOperand_51 (by decide +kernel) ?_
      obtain ⟨x31, s32, q33, hf⟩ := zbn_of hf
      refine z_cV (as := [_]) hok dX7_putOperand_53 kX7_34 (tX7_putByte hok (d - 1) N 40  q33) rfl (at_Teller s29) rfl rfl (by omega) (Nat.le_of_ble_eq_true rfl) (Nat.zero_le _) (Nat.zero_le _) rfl ?_
      refine z_aload_n dX7_putOperand_56 rfl ?_
      refine z_aload_n dX7_putOperand_57 rfl ?_
      refine z_iload_n dX7_putOperand_58 rfl ?_
      obtain ⟨x34, s35, q36, hf⟩ := zbn_of hf
      refine z_cV (as := [_, _]) hok dX7_putOperand_59 kX7_79 (tX7_putRegister hok (d - 1) (by omega) N p0 p1 hp0 q36) rfl (at_Teller s32) rfl rfl (by omega) (Nat.le_of_ble_eq_true rfl) (Nat.zero_le _) (Nat.zero_le _) rfl ?_
      refine z_aload_n dX7_putOperand_62 rfl ?_
      refine z_bipush 41 dX7_putOperand_63 (by decide +kernel) ?_
      obtain ⟨x37, s38, q39, hf⟩ := zbn_of hf
      refine z_cV (as := [_]) hok dX7_putOperand_65 kX7_34 (tX7_putByte hok (d - 1) N 41  q39) rfl (at_Teller s35) rfl rfl (by omega) (Nat.le_of_ble_eq_true rfl) (Nat.zero_le _) (Nat.zero_le _) rfl ?_
      cases hf
      exact z_vret rfl dX7_putOperand_68 (Nat.zero_le _) (Nat.zero_le _) ⟨rfl, rfl⟩

noncomputable def fX7_write_L97S (N : Nat) (p0 : Nat) (p1 : Int32) (rec : Int32 → Int32 → Int32 → zS → Option ((Int32 × zS) ⊕ (zS))) (v5 : Int32) (v6 : Int32) (v7 : Int32) (s : zS) : Option ((Int32 × zS) ⊕ (zS)) := if v6 ≤ v7 then some (.inr (s)) else if v7 = 0 then zbn (fX7_putText N 1000 s) (fun x22 s23 => zbn (fX7_putOperand N p0 (v5 + v7) s23) (fun x25 s26 => rec v5 v6 (v7 + 1) s26)) else zbn (fX7_putText N 1001 s) (fun x16 s17 => zbn (fX7_putOperand N p0 (v5 + v7) s17) (fun x19 s20 => rec v5 v6 (v7 + 1) s20))
noncomputable def fX7_write_L97 (N : Nat) (p0 : Nat) (p1 : Int32) (n : Nat) : Int32 → Int32 → Int32 → zS → Option ((Int32 × zS) ⊕ (zS)) := Nat.rec (motive := fun _ => Int32 → Int32 → Int32 → zS → Option ((Int32 × zS) ⊕ (zS))) (fun _ _ _ _ => none) (fun _ rec => fX7_write_L97S N p0 p1 rec) n
set_option maxHeartbeats 400000 in
set_option maxRecDepth 100000 in
theorem tX7_write_L97 {g : zGl} (hok : zGok g) (d : Nat) (hd : 123 ≤ d) (N : Nat) (p0 : Nat) (p1 : Int32) (hp0 : zBk p0) {mc ms n0 : Nat} {Q : zO → List zE → Prop} (n : Nat) : ∀ (v5 : Int32) (v6 : Int32) (v7 : Int32) (s : zS) (r : (Int32 × zS) ⊕ (zS)) (hf : fX7_write_L97 N p0 p1 n v5 v6 v7 s = some r) (k1 : ∀ w s', r = .inl (w, s') → Q (.inl (some (.int w))) (zHp s')) (k2 : ∀  (s' : zS), r = .inr (s') → zW g mX7_write d mc ms n0 Q 0 0 (zHp s') [some (.ref 30), some (.ref p0), some (.int p1), none, none, none, none, none] [] 136), zW g mX7_write d mc ms n0 Q 0 0 (zHp s) [some (.ref 30), some (.ref p0), some (.int p1), none, none, some (.int v5), some (.int v6), some (.int v7)] [] 97 := by
  induction n with
  | zero => intro v5 v6 v7 s r hf; cases hf
  | succ n ih =>
    intro v5 v6 v7 s r hf k1 k2
    have hrec : ∀ (v5 : Int32) (v6 : Int32) (v7 : Int32) (s : zS) (r1 : (Int32 × zS) ⊕ (zS)), fX7_write_L97 N p0 p1 n v5 v6 v7 s = some r1 → r1 = r → zW g mX7_write d mc ms n0 Q 0 0 (zHp s) [some (.ref 30), some (.ref p0), some (.int p1), none, none, some (.int v5), some (.int v6), some (.int v7)] [] 97 := fun v5 v6 v7 s r1 h e => ih v5 v6 v7 s r1 h (by subst e; exact k1) (by subst e; exact k2)
    have hrec : ∀ (v5 : Int32) (v6 : Int32) (v7 : Int32) (s : zS), fX7_write_L97 N p0 p1 n v5 v6 v7 s = some r → zW g mX7_write d mc ms n0 Q 0 0 (zHp s) [some (.ref 30), some (.ref p0), some (.int p1), none, none, some (.int v5), some (.int v6), some (.int v7)] [] 97 := fun v5 v6 v7 s h => hrec v5 v6 v7 s r h rfl
    have hf : fX7_write_L97S N p0 p1 (fX7_write_L97 N p0 p1 n) v5 v6 v7 s = some r := hf
    unfold fX7_write_L97S at hf
    refine z_iload dX7_write_97 rfl ?_
    refine z_iload dX7_write_99 rfl ?_
    refine z_icmp_ge 136 dX7_write_101 (by decide) (fun c101 => ?_) (fun c101 => ?_)
    · have hf := zifp hf c101
      cases hf
      refine z_mask (ls' := [_, _, _, _, _, _, _, _]) [true, true, true, false, false, false, false, false] rfl ?_
      exact k2  _ rfl
    · have hf := zifn hf c101
      refine z_aload_n dX7_write_104 rfl ?_
      refine z_iload dX7_write_105 rfl ?_
      refine z_if_ne 115 dX7_write_107 (by decide) (fun c107 => ?_) (fun c107 => ?_)
      · have hf := zifn hf c107
        refine z_ldcS 1 hok dX7_write_115 rfl ?_
        obtain ⟨x16, s17, q18, hf⟩ := zbn_of hf
        refine z_cV (as := [_]) hok dX7_write_117 kX7_46 (tX7_putText hok (d - 1) (by omega) N 1001  q18) rfl (at_Teller s) rfl rfl (by omega) (Nat.le_of_ble_eq_true rfl) (Nat.zero_le _) (Nat.zero_le _) rfl ?_
        refine z_aload_n dX7_write_120 rfl ?_
        refine z_aload_n dX7_write_121 rfl ?_
        refine z_iload dX7_write_122 rfl ?_
        refine z_iload dX7_write_124 rfl ?_
        refine z_iadd dX7_write_126 ?_
        obtain ⟨x19, s20, q21, hf⟩ := zbn_of hf
        refine z_cV (as := [_, _]) hok dX7_write_127 kX7_50 (tX7_putOperand hok (d - 1) (by omega) N p0 (v5 + v7) hp0 q21) rfl (at_Teller s17) rfl rfl (by omega) (Nat.le_of_ble_eq_true rfl) (Nat.zero_le _) (Nat.zero_le _) rfl ?_
        refine z_iinc (ls' := [_, _, _, _, _, _, _, _]) (v7 + 1) dX7_write_130 rfl rfl (by decide) rfl ?_
        refine z_goto 97 dX7_write_133 (by decide) ?_
        refine z_mask (ls' := [_, _, _, _, _, _, _, _]) [true, true, true, false, false, true, true, true] rfl ?_
        exact hrec v5 v6 (v7 + 1) s20 hf
      · have hf := zifp hf c107
        refine z_ldcS 0 hok dX7_write_110 rfl ?_
        refine z_goto 117 dX7_write_112 (by decide) ?_
        obtain ⟨x22, s23, q24, hf⟩ := zbn_of hf
        refine z_cV (as := [_]) hok dX7_write_117 kX7_46 (tX7_putText hok (d - 1) (by omega) N 1000  q24) rfl (at_Teller s) rfl rfl (by omega) (Nat.le_of_ble_eq_true rfl) (Nat.zero_le _) (Nat.zero_le _) rfl ?_
        refine z_aload_n dX7_write_120 rfl ?_
        refine z_aload_n dX7_write_121 rfl ?_
        refine z_iload dX7_write_122 rfl ?_
        refine z_iload dX7_write_124 rfl ?_
        refine z_iadd dX7_write_126 ?_
        obtain ⟨x25, s26, q27, hf⟩ := zbn_of hf
        refine z_cV (as := [_, _]) hok dX7_write_127 kX7_50 (tX7_putOperand hok (d - 1) (by omega) N p0 (v5 + v7) hp0 q27) rfl (at_Teller s23) rfl rfl (by omega) (Nat.le_of_ble_eq_true rfl) (Nat.zero_le _) (Nat.zero_le _) rfl ?_
        refine z_iinc (ls' := [_, _, _, _, _, _, _, _]) (v7 + 1) dX7_write_130 rfl rfl (by decide) rfl ?_
        refine z_goto 97 dX7_write_133 (by decide) ?_
        refine z_mask (ls' := [_, _, _, _, _, _, _, _]) [true, true, true, false, false, true, true, true] rfl ?_
        exact hrec v5 v6 (v7 + 1) s26 hf
noncomputable def fX7_write_J70 (N : Nat) (p0 : Nat) (p1 : Int32)  (s : zS) : Option (Int32 × zS) := zbn (fX6_cell N (p0 + 1) p1 2 0 s) (fun x10 s11 => zbn (fX6_cell N (p0 + 1) p1 3 0 s11) (fun x13 s14 => zbl (fX7_write_L97 N p0 p1 N x10 x13 0 s14) (fun x => some x) (fun s31 => some (s31.1 3001, s31))))
set_option maxHeartbeats 400000 in
set_option maxRecDepth 100000 in
theorem tX7_write_J70 {g : zGl} (hok : zGok g) (d : Nat) (hd : 123 ≤ d) (N : Nat) (p0 : Nat) (p1 : Int32) (hp0 : zBk p0) {mc ms n0 : Nat}  {s s' : zS} {w : Int32} (hf : fX7_write_J70 N p0 p1  s = some (w, s')) : zW g mX7_write d mc ms n0 (zret (some (.int w)) (zHp s')) 0 0 (zHp s) [some (.ref 30), some (.ref p0), some (.int p1), none, none, none, none, none] [] 70 := by
  unfold fX7_write_J70 at hf
  refine z_aload_n dX7_write_70 rfl ?_
  refine z_getN hok dX7_write_71 fX7_18 (at_Book s p0 hp0) rfl ?_
  refine z_iload_n dX7_write_74 rfl ?_
  refine z_iconst 2 dX7_write_75 (by decide +kernel) ?_
  refine z_iconst 0 dX7_write_76 (by decide +kernel) ?_
  obtain ⟨x10, s11, q12, hf⟩ := zbn_of hf
  refine z_cV (as := [_, _, _]) hok dX7_write_77 kX7_24 (tX6_cell hok (d - 1) N (p0 + 1) p1 2 0 (zBk_t p0 hp0).1 q12) rfl (at_Table s (p0 + 1) (zBk_t p0 hp0).1) rfl rfl (by omega) (Nat.le_of_ble_eq_true rfl) (Nat.zero_le _) (Nat.zero_le _) rfl ?_
  refine z_istore (ls' := [_, _, _, _, _, _, _, _]) dX7_write_80 (by decide) rfl ?_
  refine z_aload_n dX7_write_82 rfl ?_
  refine z_getN hok dX7_write_83 fX7_18 (at_Book s11 p0 hp0) rfl ?_
  refine z_iload_n dX7_write_86 rfl ?_
  refine z_iconst 3 dX7_write_87 (by decide +kernel) ?_
  refine z_iconst 0 dX7_write_88 (by decide +kernel) ?_
  obtain ⟨x13, s14, q15, hf⟩ := zbn_of hf
  refine z_cV (as := [_, _, _]) hok dX7_write_89 kX7_24 (tX6_cell hok (d - 1) N (p0 + 1) p1 3 0 (zBk_t p0 hp0).1 q15) rfl (at_Table s11 (p0 + 1) (zBk_t p0 hp0).1) rfl rfl (by omega) (Nat.le_of_ble_eq_true rfl) (Nat.zero_le _) (Nat.zero_le _) rfl ?_
  refine z_istore (ls' := [_, _, _, _, _, _, _, _]) dX7_write_92 (by decide) rfl ?_
  refine z_iconst 0 dX7_write_94 (by decide +kernel) ?_
  refine z_istore (ls' := [_, _, _, _, _, _, _, _]) dX7_write_95 (by decide) rfl ?_
  refine z_mask (ls' := [_, _, _, _, _, _, _, _]) [true, true, true, false, false, true, true, true] rfl ?_
  rcases zbl_of hf with ⟨lr29, le30, hf⟩ | ⟨lr29, le30, hf⟩
  · cases hf
    exact tX7_write_L97 hok d (by omega) N p0 p1 hp0 N x10 x13 0 s14 _ le30 (fun w1 s1 hh => by cases hh; exact ⟨rfl, rfl⟩) (fun  _ hh => by cases hh)
  · obtain ⟨s31, rfl⟩ : ∃ z, z = lr29 := ⟨_, rfl⟩
    refine tX7_write_L97 hok d (by omega) N p0 p1 hp0 N x10 x13 0 s14 _ le30 (fun w1 s1 hh => by cases hh) (fun  _ hh => ?_)
    cases hh
    refine z_aload_n dX7_write_136 rfl ?_
    refine z_getf dX7_write_137 fX7_30 (at_Teller s31) rfl ?_
    cases hf
    exact z_iret rfl dX7_write_140 (Nat.zero_le _) (Nat.zero_le _) ⟨rfl, rfl⟩
noncomputable def fX7_write_J59 (N : Nat) (p0 : Nat) (p1 : Int32) (v3 : Int32) (s : zS) : Option (Int32 × zS) := if v3 = 2 then fX7_write_J70 N p0 p1  s else zbn (fX7_putByte N 58 s) (fun x32 s33 => fX7_write_J70 N p0 p1  s33)
set_option maxHeartbeats 400000 in
set_option maxRecDepth 100000 in
theorem tX7_write_J59 {g : zGl} (hok : zGok g) (d : Nat) (hd : 123 ≤ d) (N : Nat) (p0 : Nat) (p1 : Int32) (hp0 : zBk p0) {mc ms n0 : Nat} (v3 : Int32) {s s' : zS} {w : Int32} (hf : fX7_write_J59 N p0 p1 v3 s = some (w, s')) : zW g mX7_write d mc ms n0 (zret (some (.int w)) (zHp s')) 0 0 (zHp s) [some (.ref 30), some (.ref p0), some (.int p1), some (.int v3), none, none, none, none] [] 59 := by
  unfold fX7_write_J59 at hf
  refine z_iload_n dX7_write_59 rfl ?_
  refine z_iconst 2 dX7_write_60 (by decide +kernel) ?_
  refine z_icmp_eq 70 dX7_write_61 (by decide) (fun c61 => ?_) (fun c61 => ?_)
  · have hf := zifp hf c61
    refine z_mask (ls' := [_, _, _, _, _, _, _, _]) [true, true, true, false, false, false, false, false] rfl ?_
    exact tX7_write_J70 hok d (by omega) N p0 p1 hp0  hf
  · have hf := zifn hf c61
    refine z_aload_n dX7_write_64 rfl ?_
    refine z_bipush 58 dX7_write_65 (by decide +kernel) ?_
    obtain ⟨x32, s33, q34, hf⟩ := zbn_of hf
    refine z_cV (as := [_]) hok dX7_write_67 kX7_34 (tX7_putByte hok (d - 1) N 58  q34) rfl (at_Teller s) rfl rfl (by omega) (Nat.le_of_ble_eq_true rfl) (Nat.zero_le _) (Nat.zero_le _) rfl ?_
    refine z_mask (ls' := [_, _, _, _, _, _, _, _]) [true, true, true, false, false, false, false, false] rfl ?_
    exact tX7_write_J70 hok d (by omega) N p0 p1 hp0  hf
noncomputable def fX7_write (N : Nat) (p0 : Nat) (p1 : Int32) (s : zS) : Option (Int32 × zS) := zbn (fX6_cell N (p0 + 1) p1 0 (-1) s) (fun x1 s2 => if x1 = (-1) then some ((-1), s2) else zbn (fX6_cell N (p0 + 1) p1 1 0 (zsc s2 3001 0)) (fun x4 s5 => if x1 = 1 then zbn (fX7_putByte N (48 + x4) s5) (fun x35 s36 => fX7_write_J59 N p0 p1 x1 s36) else zbn (fX7_putName N p0 x4 s5) (fun x7 s8 => fX7_write_J59 N p0 p1 x1 s8)))
set_option maxHeartbeats 400000 in
set_option maxRecDepth 100000 in
theorem tX7_write {g : zGl} (hok : zGok g) (d : Nat) (hd : 123 ≤ d) (N : Nat) (p0 : Nat) (p1 : Int32) (hp0 : zBk p0) {s s' : zS} {w : Int32} (hf : fX7_write N p0 p1 s = some (w, s')) : zMet g mX7_write d 0 0 [.ref 30, .ref p0, .int p1] (zHp s) (zret (some (.int w)) (zHp s')) := by
  refine zMet.ofW (by decide +kernel) (Nat.le_of_ble_eq_true rfl) ?_
  show zW g mX7_write d 0 0 51 _ 0 0 (zHp s) [some (.ref 30), some (.ref p0), some (.int p1), none, none, none, none, none] [] 0
  unfold fX7_write at hf
  refine z_aload_n dX7_write_0 rfl ?_
  refine z_getN hok dX7_write_1 fX7_18 (at_Book s p0 hp0) rfl ?_
  refine z_iload_n dX7_write_4 rfl ?_
  refine z_iconst 0 dX7_write_5 (by decide +kernel) ?_
  refine z_iconst (-1) dX7_write_6 (by decide +kernel) ?_
  obtain ⟨x1, s2, q3, hf⟩ := zbn_of hf
  refine z_cV (as := [_, _, _]) hok dX7_write_7 kX7_24 (tX6_cell hok (d - 1) N (p0 + 1) p1 0 (-1) (zBk_t p0 hp0).1 q3) rfl (at_Table s (p0 + 1) (zBk_t p0 hp0).1) rfl rfl (by omega) (Nat.le_of_ble_eq_true rfl) (Nat.zero_le _) (Nat.zero_le _) rfl ?_
  refine z_istore_n (ls' := [_, _, _, _, _, _, _, _]) dX7_write_10 (by decide) rfl ?_
  refine z_iload_n dX7_write_11 rfl ?_
  refine z_iconst (-1) dX7_write_12 (by decide +kernel) ?_
  refine z_icmp_ne 18 dX7_write_13 (by decide) (fun c13 => ?_) (fun c13 => ?_)
  · have hf := zifn hf c13
    refine z_aload_n dX7_write_18 rfl ?_
    refine z_iconst 0 dX7_write_19 (by decide +kernel) ?_
    refine z_putf dX7_write_20 fX7_30 wX7_1 (at_Teller s2) (Nat.le_of_ble_eq_true rfl) (fun _ => rfl) (fun _ => rfl) (st_Teller_1 s2 0) ?_
    refine z_aload_n dX7_write_23 rfl ?_
    refine z_getN hok dX7_write_24 fX7_18 (at_Book (zsc s2 3001 0) p0 hp0) rfl ?_
    refine z_iload_n dX7_write_27 rfl ?_
    refine z_iconst 1 dX7_write_28 (by decide +kernel) ?_
    refine z_iconst 0 dX7_write_29 (by decide +kernel) ?_
    obtain ⟨x4, s5, q6, hf⟩ := zbn_of hf
    refine z_cV (as := [_, _, _]) hok dX7_write_30 kX7_24 (tX6_cell hok (d - 1) N (p0 + 1) p1 1 0 (zBk_t p0 hp0).1 q6) rfl (at_Table (zsc s2 3001 0) (p0 + 1) (zBk_t p0 hp0).1) rfl rfl (by omega) (Nat.le_of_ble_eq_true rfl) (Nat.zero_le _) (Nat.zero_le _) rfl ?_
    refine z_istore (ls' := [_, _, _, _, _, _, _, _]) dX7_write_33 (by decide) rfl ?_
    refine z_iload_n dX7_write_35 rfl ?_
    refine z_iconst 1 dX7_write_36 (by decide +kernel) ?_
    refine z_icmp_ne 52 dX7_write_37 (by decide) (fun c37 => ?_) (fun c37 => ?_)
    · have hf := zifn hf c37
      refine z_aload_n dX7_write_52 rfl ?_
      refine z_aload_n dX7_write_53 rfl ?_
      refine z_iload dX7_write_54 rfl ?_
      obtain ⟨x7, s8, q9, hf⟩ := zbn_of hf
      refine z_cV (as := [_, _]) hok dX7_write_56 kX7_38 (tX7_putName hok (d - 1) (by omega) N p0 x4 hp0 q9) rfl (at_Teller s5) rfl rfl (by omega) (Nat.le_of_ble_eq_true rfl) (Nat.zero_le _) (Nat.zero_le _) rfl ?_
      refine z_mask (ls' := [_, _, _, _, _, _, _, _]) [true, true, true, true, false, false, false, false] rfl ?_
      exact tX7_write_J59 hok d (by omega) N p0 p1 hp0 x1 hf
    · have hf := zifp hf c37
      refine z_aload_n dX7_write_40 rfl ?_
      refine z_bipush 48 dX7_write_41 (by decide +kernel) ?_
      refine z_iload dX7_write_43 rfl ?_
      refine z_iadd dX7_write_45 ?_
      obtain ⟨x35, s36, q37, hf⟩ := zbn_of hf
      refine z_cV (as := [_]) hok dX7_write_46 kX7_34 (tX7_putByte hok (d - 1) N (48 + x4)  q37) rfl (at_Teller s5) rfl rfl (by omega) (Nat.le_of_ble_eq_true rfl) (Nat.zero_le _) (Nat.zero_le _) rfl ?_
      refine z_goto 59 dX7_write_49 (by decide) ?_
      refine z_mask (ls' := [_, _, _, _, _, _, _, _]) [true, true, true, true, false, false, false, false] rfl ?_
      exact tX7_write_J59 hok d (by omega) N p0 p1 hp0 x1 hf
  · have hf := zifp hf c13
    refine z_iconst (-1) dX7_write_16 (by decide +kernel) ?_
    cases hf
    exact z_iret rfl dX7_write_17 (Nat.zero_le _) (Nat.zero_le _) ⟨rfl, rfl⟩

