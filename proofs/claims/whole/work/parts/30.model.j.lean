noncomputable def fX10_sayOperand_J112 (N : Nat) (p0 : Int32) (v2 : Int32) (s : zS) : Option (Unit × zS) := if zga v2 (zlen 38) = true then if (s.2.1 38 v2.toNatClampNeg) = 2 then zbn (fX10_say N 40 s) (fun x11 s12 => if zga (v2 + 1) (zlen 38) = true then zbn (fX10_sayRegister N (s12.2.1 38 (v2 + 1).toNatClampNeg) s12) (fun x15 s16 => zbn (fX10_say N 41 s16) (fun x18 s19 => some ((), s19))) else none) else some ((), s) else none
set_option maxHeartbeats 400000 in
set_option maxRecDepth 100000 in
theorem tX10_sayOperand_J112 {g : zGl} (hok : zGok g) (d : Nat) (hd : 4 ≤ d) (N : Nat) (p0 : Int32)  {mc ms n0 : Nat} (v2 : Int32) {s s' : zS} {w : Unit} (hf : fX10_sayOperand_J112 N p0 v2 s = some (w, s')) : zW g mX10_sayOperand d mc ms n0 (zret none (zHp s')) 0 0 (zHp s) [some (.ref 33), some (.int p0), some (.int v2)] [] 112 := by
  unfold fX10_sayOperand_J112 at hf
  refine z_aload_n dX10_sayOperand_112 rfl ?_
  refine z_getf dX10_sayOperand_113 fX10_22 (at_Model s) rfl ?_
  refine z_iload_n dX10_sayOperand_116 rfl ?_
  obtain ⟨hi10, hf⟩ := zifs hf
  refine z_iald dX10_sayOperand_117 (at_arr s 38 (by decide)) (zga_in hi10) ?_
  refine z_iconst 2 dX10_sayOperand_118 (by decide +kernel) ?_
  refine z_icmp_ne 146 dX10_sayOperand_119 (by decide) (fun c119 => ?_) (fun c119 => ?_)
  · have hf := zifn hf c119
    cases hf
    exact z_vret rfl dX10_sayOperand_146 (Nat.zero_le _) (Nat.zero_le _) ⟨rfl, rfl⟩
  · have hf := zifp hf c119
    refine z_aload_n dX10_sayOperand_122 rfl ?_
    refine z_bipush 40 dX10_sayOperand_123 (by decide +kernel) ?_
    obtain ⟨x11, s12, q13, hf⟩ := zbn_of hf
    refine z_cV (as := [_]) hok dX10_sayOperand_125 kX10_256 (tX10_say hok (d - 1) N 40  q13) rfl (at_Model s) rfl rfl (by omega) (Nat.le_of_ble_eq_true rfl) (Nat.zero_le _) (Nat.zero_le _) rfl ?_
    refine z_aload_n dX10_sayOperand_128 rfl ?_
    refine z_aload_n dX10_sayOperand_129 rfl ?_
    refine z_getf dX10_sayOperand_130 fX10_22 (at_Model s12) rfl ?_
    refine z_iload_n dX10_sayOperand_133 rfl ?_
    refine z_iconst 1 dX10_sayOperand_134 (by decide +kernel) ?_
    refine z_iadd dX10_sayOperand_135 ?_
    obtain ⟨hi14, hf⟩ := zifs hf
    refine z_iald dX10_sayOperand_136 (at_arr s12 38 (by decide)) (zga_in hi14) ?_
    obtain ⟨x15, s16, q17, hf⟩ := zbn_of hf
    refine z_cV (as := [_]) hok dX10_sayOperand_137 kX10_290 (tX10_sayRegister hok (d - 1) (by omega) N (s12.2.1 38 (v2 + 1).toNatClampNeg)  q17) rfl (at_Model s12) rfl rfl (by omega) (Nat.le_of_ble_eq_true rfl) (Nat.zero_le _) (Nat.zero_le _) rfl ?_
    refine z_aload_n dX10_sayOperand_140 rfl ?_
    refine z_bipush 41 dX10_sayOperand_141 (by decide +kernel) ?_
    obtain ⟨x18, s19, q20, hf⟩ := zbn_of hf
    refine z_cV (as := [_]) hok dX10_sayOperand_143 kX10_256 (tX10_say hok (d - 1) N 41  q20) rfl (at_Model s16) rfl rfl (by omega) (Nat.le_of_ble_eq_true rfl) (Nat.zero_le _) (Nat.zero_le _) rfl ?_
    cases hf
    exact z_vret rfl dX10_sayOperand_146 (Nat.zero_le _) (Nat.zero_le _) ⟨rfl, rfl⟩
noncomputable def fX10_sayOperand_J75 (N : Nat) (p0 : Int32) (v2 : Int32) (s : zS) : Option (Unit × zS) := if zga (v2 + 3) (zlen 38) = true then if zga (v2 + 4) (zlen 38) = true then zbn (fX10_sayItems N (s.2.1 38 (v2 + 3).toNatClampNeg) (s.2.1 38 (v2 + 4).toNatClampNeg) s) (fun x6 s7 => if zga (v2 + 2) (zlen 38) = true then if (s7.2.1 38 (v2 + 2).toNatClampNeg) ≤ 0 then fX10_sayOperand_J112 N p0 v2 s7 else zbn (fX10_say N 41 s7) (fun x21 s22 => fX10_sayOperand_J112 N p0 v2 s22) else none) else none else none
set_option maxHeartbeats 400000 in
set_option maxRecDepth 100000 in
theorem tX10_sayOperand_J75 {g : zGl} (hok : zGok g) (d : Nat) (hd : 4 ≤ d) (N : Nat) (p0 : Int32)  {mc ms n0 : Nat} (v2 : Int32) {s s' : zS} {w : Unit} (hf : fX10_sayOperand_J75 N p0 v2 s = some (w, s')) : zW g mX10_sayOperand d mc ms n0 (zret none (zHp s')) 0 0 (zHp s) [some (.ref 33), some (.int p0), some (.int v2)] [] 75 := by
  unfold fX10_sayOperand_J75 at hf
  refine z_aload_n dX10_sayOperand_75 rfl ?_
  refine z_aload_n dX10_sayOperand_76 rfl ?_
  refine z_getf dX10_sayOperand_77 fX10_22 (at_Model s) rfl ?_
  refine z_iload_n dX10_sayOperand_80 rfl ?_
  refine z_iconst 3 dX10_sayOperand_81 (by decide +kernel) ?_
  refine z_iadd dX10_sayOperand_82 ?_
  obtain ⟨hi4, hf⟩ := zifs hf
  refine z_iald dX10_sayOperand_83 (at_arr s 38 (by decide)) (zga_in hi4) ?_
  refine z_aload_n dX10_sayOperand_84 rfl ?_
  refine z_getf dX10_sayOperand_85 fX10_22 (at_Model s) rfl ?_
  refine z_iload_n dX10_sayOperand_88 rfl ?_
  refine z_iconst 4 dX10_sayOperand_89 (by decide +kernel) ?_
  refine z_iadd dX10_sayOperand_90 ?_
  obtain ⟨hi5, hf⟩ := zifs hf
  refine z_iald dX10_sayOperand_91 (at_arr s 38 (by decide)) (zga_in hi5) ?_
  obtain ⟨x6, s7, q8, hf⟩ := zbn_of hf
  refine z_cV (as := [_, _]) hok dX10_sayOperand_92 kX10_299 (tX10_sayItems hok (d - 1) (by omega) N (s.2.1 38 (v2 + 3).toNatClampNeg) (s.2.1 38 (v2 + 4).toNatClampNeg)  q8) rfl (at_Model s) rfl rfl (by omega) (Nat.le_of_ble_eq_true rfl) (Nat.zero_le _) (Nat.zero_le _) rfl ?_
  refine z_aload_n dX10_sayOperand_95 rfl ?_
  refine z_getf dX10_sayOperand_96 fX10_22 (at_Model s7) rfl ?_
  refine z_iload_n dX10_sayOperand_99 rfl ?_
  refine z_iconst 2 dX10_sayOperand_100 (by decide +kernel) ?_
  refine z_iadd dX10_sayOperand_101 ?_
  obtain ⟨hi9, hf⟩ := zifs hf
  refine z_iald dX10_sayOperand_102 (at_arr s7 38 (by decide)) (zga_in hi9) ?_
  refine z_if_le 112 dX10_sayOperand_103 (by decide) (fun c103 => ?_) (fun c103 => ?_)
  · have hf := zifp hf c103
    refine z_mask (ls' := [_, _, _]) [true, true, true] rfl ?_
    exact tX10_sayOperand_J112 hok d (by omega) N p0  v2 hf
  · have hf := zifn hf c103
    refine z_aload_n dX10_sayOperand_106 rfl ?_
    refine z_bipush 41 dX10_sayOperand_107 (by decide +kernel) ?_
    obtain ⟨x21, s22, q23, hf⟩ := zbn_of hf
    refine z_cV (as := [_]) hok dX10_sayOperand_109 kX10_256 (tX10_say hok (d - 1) N 41  q23) rfl (at_Model s7) rfl rfl (by omega) (Nat.le_of_ble_eq_true rfl) (Nat.zero_le _) (Nat.zero_le _) rfl ?_
    refine z_mask (ls' := [_, _, _]) [true, true, true] rfl ?_
    exact tX10_sayOperand_J112 hok d (by omega) N p0  v2 hf
noncomputable def fX10_sayOperand (N : Nat) (p0 : Int32) (s : zS) : Option (Unit × zS) := if zga (5600 + (7 * p0)) (zlen 38) = true then if (s.2.1 38 (5600 + (7 * p0)).toNatClampNeg) = 1 then if zga ((5600 + (7 * p0)) + 1) (zlen 38) = true then zbn (fX10_sayRegister N (s.2.1 38 ((5600 + (7 * p0)) + 1).toNatClampNeg) s) (fun x32 s33 => some ((), s33)) else none else if zga (5600 + (7 * p0)) (zlen 38) = true then if (s.2.1 38 (5600 + (7 * p0)).toNatClampNeg) = 3 then zbn (fX10_sayString N p0 s) (fun x28 s29 => some ((), s29)) else if zga ((5600 + (7 * p0)) + 2) (zlen 38) = true then if (s.2.1 38 ((5600 + (7 * p0)) + 2).toNatClampNeg) ≤ 0 then fX10_sayOperand_J75 N p0 (5600 + (7 * p0)) s else if zga ((5600 + (7 * p0)) + 2) (zlen 38) = true then zbn (fX10_sayMark N (s.2.1 38 ((5600 + (7 * p0)) + 2).toNatClampNeg) s) (fun x25 s26 => fX10_sayOperand_J75 N p0 (5600 + (7 * p0)) s26) else none else none else none else none
set_option maxHeartbeats 400000 in
set_option maxRecDepth 100000 in
theorem tX10_sayOperand {g : zGl} (hok : zGok g) (d : Nat) (hd : 4 ≤ d) (N : Nat) (p0 : Int32)  {s s' : zS} {w : Unit} (hf : fX10_sayOperand N p0 s = some (w, s')) : zMet g mX10_sayOperand d 0 0 [.ref 33, .int p0] (zHp s) (zret none (zHp s')) := by
  refine zMet.ofW (by decide +kernel) (Nat.le_of_ble_eq_true rfl) ?_
  show zW g mX10_sayOperand d 0 0 51 _ 0 0 (zHp s) [some (.ref 33), some (.int p0), none] [] 0
  unfold fX10_sayOperand at hf
  refine z_sipush 5600 dX10_sayOperand_0 (by decide +kernel) ?_
  refine z_bipush 7 dX10_sayOperand_3 (by decide +kernel) ?_
  refine z_iload_n dX10_sayOperand_5 rfl ?_
  refine z_imul dX10_sayOperand_6 ?_
  refine z_iadd dX10_sayOperand_7 ?_
  refine z_istore_n (ls' := [_, _, _]) dX10_sayOperand_8 (by decide) rfl ?_
  refine z_aload_n dX10_sayOperand_9 rfl ?_
  refine z_getf dX10_sayOperand_10 fX10_22 (at_Model s) rfl ?_
  refine z_iload_n dX10_sayOperand_13 rfl ?_
  obtain ⟨hi1, hf⟩ := zifs hf
  refine z_iald dX10_sayOperand_14 (at_arr s 38 (by decide)) (zga_in hi1) ?_
  refine z_iconst 1 dX10_sayOperand_15 (by decide +kernel) ?_
  refine z_icmp_ne 34 dX10_sayOperand_16 (by decide) (fun c16 => ?_) (fun c16 => ?_)
  · have hf := zifn hf c16
    refine z_aload_n dX10_sayOperand_34 rfl ?_
    refine z_getf dX10_sayOperand_35 fX10_22 (at_Model s) rfl ?_
    refine z_iload_n dX10_sayOperand_38 rfl ?_
    obtain ⟨hi2, hf⟩ := zifs hf
    refine z_iald dX10_sayOperand_39 (at_arr s 38 (by decide)) (zga_in hi2) ?_
    refine z_iconst 3 dX10_sayOperand_40 (by decide +kernel) ?_
    refine z_icmp_ne 52 dX10_sayOperand_41 (by decide) (fun c41 => ?_) (fun c41 => ?_)
    · have hf := zifn hf c41
      refine z_aload_n dX10_sayOperand_52 rfl ?_
      refine z_getf dX10_sayOperand_53 fX10_22 (at_Model s) rfl ?_
      refine z_iload_n dX10_sayOperand_56 rfl ?_
      refine z_iconst 2 dX10_sayOperand_57 (by decide +kernel) ?_
      refine z_iadd dX10_sayOperand_58 ?_
      obtain ⟨hi3, hf⟩ := zifs hf
      refine z_iald dX10_sayOperand_59 (at_arr s 38 (by decide)) (zga_in hi3) ?_
      refine z_if_le 75 dX10_sayOperand_60 (by decide) (fun c60 => ?_) (fun c60 => ?_)
      · have hf := zifp hf c60
        refine z_mask (ls' := [_, _, _]) [true, true, true] rfl ?_
        exact tX10_sayOperand_J75 hok d (by omega) N p0  (5600 + (7 * p0)) hf
      · have hf := zifn hf c60
        refine z_aload_n dX10_sayOperand_63 rfl ?_
        refine z_aload_n dX10_sayOperand_64 rfl ?_
        refine z_getf dX10_sayOperand_65 fX10_22 (at_Model s) rfl ?_
        refine z_iload_n dX10_sayOperand_68 rfl ?_
        refine z_iconst 2 dX10_sayOperand_69 (by decide +kernel) ?_
        refine z_iadd dX10_sayOperand_70 ?_
        obtain ⟨hi24, hf⟩ := zifs hf
        refine z_iald dX10_sayOperand_71 (at_arr s 38 (by decide)) (zga_in hi24) ?_
        obtain ⟨x25, s26, q27, hf⟩ := zbn_of hf
        refine z_cV (as := [_]) hok dX10_sayOperand_72 kX10_296 (tX10_sayMark hok (d - 1) (by omega) N (s.2.1 38 ((5600 + (7 * p0)) + 2).toNatClampNeg)  q27) rfl (at_Model s) rfl rfl (by omega) (Nat.le_of_ble_eq_true rfl) (Nat.zero_le _) (Nat.zero_le _) rfl ?_
        refine z_mask (ls' := [_, _, _]) [true, true, true] rfl ?_
        exact tX10_sayOperand_J75 hok d (by omega) N p0  (5600 + (7 * p0)) hf
    · have hf := zifp hf c41
      refine z_aload_n dX10_sayOperand_44 rfl ?_
      refine z_iload_n dX10_sayOperand_45 rfl ?_
      obtain ⟨x28, s29, q30, hf⟩ := zbn_of hf
      refine z_cV (as := [_]) hok dX10_sayOperand_46 kX10_293 (tX10_sayString hok (d - 1) (by omega) N p0  q30) rfl (at_Model s) rfl rfl (by omega) (Nat.le_of_ble_eq_true rfl) (Nat.zero_le _) (Nat.zero_le _) rfl ?_
      refine z_goto 146 dX10_sayOperand_49 (by decide) ?_
      cases hf
      exact z_vret rfl dX10_sayOperand_146 (Nat.zero_le _) (Nat.zero_le _) ⟨rfl, rfl⟩
  · have hf := zifp hf c16
    refine z_aload_n dX10_sayOperand_19 rfl ?_
    refine z_aload_n dX10_sayOperand_20 rfl ?_
    refine z_getf dX10_sayOperand_21 fX10_22 (at_Model s) rfl ?_
    refine z_iload_n dX10_sayOperand_24 rfl ?_
    refine z_iconst 1 dX10_sayOperand_25 (by decide +kernel) ?_
    refine z_iadd dX10_sayOperand_26 ?_
    obtain ⟨hi31, hf⟩ := zifs hf
    refine z_iald dX10_sayOperand_27 (at_arr s 38 (by decide)) (zga_in hi31) ?_
    obtain ⟨x32, s33, q34, hf⟩ := zbn_of hf
    refine z_cV (as := [_]) hok dX10_sayOperand_28 kX10_290 (tX10_sayRegister hok (d - 1) (by omega) N (s.2.1 38 ((5600 + (7 * p0)) + 1).toNatClampNeg)  q34) rfl (at_Model s) rfl rfl (by omega) (Nat.le_of_ble_eq_true rfl) (Nat.zero_le _) (Nat.zero_le _) rfl ?_
    refine z_goto 146 dX10_sayOperand_31 (by decide) ?_
    cases hf
    exact z_vret rfl dX10_sayOperand_146 (Nat.zero_le _) (Nat.zero_le _) ⟨rfl, rfl⟩

noncomputable def fX10_tell_J113 (N : Nat) (p0 : Int32) (rec : Int32 → Int32 → zS → Option ((Int32 × zS) ⊕ (zS))) (v2 : Int32) (v3 : Int32) (s : zS) : Option ((Int32 × zS) ⊕ (zS)) := zbn (fX10_say N 32 s) (fun x9 s10 => if zga (v2 + 2) (zlen 37) = true then zbn (fX10_sayOperand N ((s10.2.1 37 (v2 + 2).toNatClampNeg) + v3) s10) (fun x13 s14 => rec v2 (v3 + 1) s14) else none)
set_option maxHeartbeats 400000 in
set_option maxRecDepth 100000 in
theorem tX10_tell_J113 {g : zGl} (hok : zGok g) (d : Nat) (hd : 5 ≤ d) (N : Nat) (p0 : Int32)  {mc ms n0 : Nat} {Q : zO → List zE → Prop} (rec : Int32 → Int32 → zS → Option ((Int32 × zS) ⊕ (zS))) (r : (Int32 × zS) ⊕ (zS)) (k1 : ∀ w s', r = .inl (w, s') → Q (.inl (some (.int w))) (zHp s')) (k2 : ∀  (s' : zS), r = .inr (s') → zW g mX10_tell d mc ms n0 Q 0 0 (zHp s') [some (.ref 33), some (.int p0), none, none] [] 139) (hrec : ∀ (v2 : Int32) (v3 : Int32) (s : zS), rec v2 v3 s = some r → zW g mX10_tell d mc ms n0 Q 0 0 (zHp s) [some (.ref 33), some (.int p0), some (.int v2), some (.int v3)] [] 91) (v2 : Int32) (v3 : Int32) (s : zS) (hf : fX10_tell_J113 N p0 rec v2 v3 s = some r) : zW g mX10_tell d mc ms n0 Q 0 0 (zHp s) [some (.ref 33), some (.int p0), some (.int v2), some (.int v3)] [] 113 := by
  unfold fX10_tell_J113 at hf
  refine z_aload_n dX10_tell_113 rfl ?_
  refine z_bipush 32 dX10_tell_114 (by decide +kernel) ?_
  obtain ⟨x9, s10, q11, hf⟩ := zbn_of hf
  refine z_cV (as := [_]) hok dX10_tell_116 kX10_256 (tX10_say hok (d - 1) N 32  q11) rfl (at_Model s) rfl rfl (by omega) (Nat.le_of_ble_eq_true rfl) (Nat.zero_le _) (Nat.zero_le _) rfl ?_
  refine z_aload_n dX10_tell_119 rfl ?_
  refine z_aload_n dX10_tell_120 rfl ?_
  refine z_getf dX10_tell_121 fX10_19 (at_Model s10) rfl ?_
  refine z_iload_n dX10_tell_124 rfl ?_
  refine z_iconst 2 dX10_tell_125 (by decide +kernel) ?_
  refine z_iadd dX10_tell_126 ?_
  obtain ⟨hi12, hf⟩ := zifs hf
  refine z_iald dX10_tell_127 (at_arr s10 37 (by decide)) (zga_in hi12) ?_
  refine z_iload_n dX10_tell_128 rfl ?_
  refine z_iadd dX10_tell_129 ?_
  obtain ⟨x13, s14, q15, hf⟩ := zbn_of hf
  refine z_cV (as := [_]) hok dX10_tell_130 kX10_302 (tX10_sayOperand hok (d - 1) (by omega) N ((s10.2.1 37 (v2 + 2).toNatClampNeg) + v3)  q15) rfl (at_Model s10) rfl rfl (by omega) (Nat.le_of_ble_eq_true rfl) (Nat.zero_le _) (Nat.zero_le _) rfl ?_
  refine z_iinc (ls' := [_, _, _, _]) (v3 + 1) dX10_tell_133 rfl rfl (by decide) rfl ?_
  refine z_goto 91 dX10_tell_136 (by decide) ?_
  refine z_mask (ls' := [_, _, _, _]) [true, true, true, true] rfl ?_
  exact hrec v2 (v3 + 1) s14 hf
noncomputable def fX10_tell_L91S (N : Nat) (p0 : Int32) (rec : Int32 → Int32 → zS → Option ((Int32 × zS) ⊕ (zS))) (v2 : Int32) (v3 : Int32) (s : zS) : Option ((Int32 × zS) ⊕ (zS)) := if zga (v2 + 3) (zlen 37) = true then if (s.2.1 37 (v2 + 3).toNatClampNeg) ≤ v3 then some (.inr (s)) else if v3 ≤ 0 then fX10_tell_J113 N p0 rec v2 v3 s else zbn (fX10_say N 44 s) (fun x16 s17 => fX10_tell_J113 N p0 rec v2 v3 s17) else none
noncomputable def fX10_tell_L91 (N : Nat) (p0 : Int32) (n : Nat) : Int32 → Int32 → zS → Option ((Int32 × zS) ⊕ (zS)) := Nat.rec (motive := fun _ => Int32 → Int32 → zS → Option ((Int32 × zS) ⊕ (zS))) (fun _ _ _ => none) (fun _ rec => fX10_tell_L91S N p0 rec) n
set_option maxHeartbeats 400000 in
set_option maxRecDepth 100000 in
theorem tX10_tell_L91 {g : zGl} (hok : zGok g) (d : Nat) (hd : 5 ≤ d) (N : Nat) (p0 : Int32)  {mc ms n0 : Nat} {Q : zO → List zE → Prop} (n : Nat) : ∀ (v2 : Int32) (v3 : Int32) (s : zS) (r : (Int32 × zS) ⊕ (zS)) (hf : fX10_tell_L91 N p0 n v2 v3 s = some r) (k1 : ∀ w s', r = .inl (w, s') → Q (.inl (some (.int w))) (zHp s')) (k2 : ∀  (s' : zS), r = .inr (s') → zW g mX10_tell d mc ms n0 Q 0 0 (zHp s') [some (.ref 33), some (.int p0), none, none] [] 139), zW g mX10_tell d mc ms n0 Q 0 0 (zHp s) [some (.ref 33), some (.int p0), some (.int v2), some (.int v3)] [] 91 := by
  induction n with
  | zero => intro v2 v3 s r hf; cases hf
  | succ n ih =>
    intro v2 v3 s r hf k1 k2
    have hrec : ∀ (v2 : Int32) (v3 : Int32) (s : zS) (r1 : (Int32 × zS) ⊕ (zS)), fX10_tell_L91 N p0 n v2 v3 s = some r1 → r1 = r → zW g mX10_tell d mc ms n0 Q 0 0 (zHp s) [some (.ref 33), some (.int p0), some (.int v2), some (.int v3)] [] 91 := fun v2 v3 s r1 h e => ih v2 v3 s r1 h (by subst e; exact k1) (by subst e; exact k2)
    have hrec : ∀ (v2 : Int32) (v3 : Int32) (s : zS), fX10_tell_L91 N p0 n v2 v3 s = some r → zW g mX10_tell d mc ms n0 Q 0 0 (zHp s) [some (.ref 33), some (.int p0), some (.int v2), some (.int v3)] [] 91 := fun v2 v3 s h => hrec v2 v3 s r h rfl
    have hf : fX10_tell_L91S N p0 (fX10_tell_L91 N p0 n) v2 v3 s = some r := hf
    unfold fX10_tell_L91S at hf
    refine z_iload_n dX10_tell_91 rfl ?_
    refine z_aload_n dX10_tell_92 rfl ?_
    refine z_getf dX10_tell_93 fX10_19 (at_Model s) rfl ?_
    refine z_iload_n dX10_tell_96 rfl ?_
    refine z_iconst 3 dX10_tell_97 (by decide +kernel) ?_
    refine z_iadd dX10_tell_98 ?_
    obtain ⟨hi8, hf⟩ := zifs hf
    refine z_iald dX10_tell_99 (at_arr s 37 (by decide)) (zga_in hi8) ?_
    refine z_icmp_ge 139 dX10_tell_100 (by decide) (fun c100 => ?_) (fun c100 => ?_)
    · have hf := zifp hf c100
      cases hf
      refine z_mask (ls' := [_, _, _, _]) [true, true, false, false] rfl ?_
      exact k2  _ rfl
    · have hf := zifn hf c100
      refine z_iload_n dX10_tell_103 rfl ?_
      refine z_if_le 113 dX10_tell_104 (by decide) (fun c104 => ?_) (fun c104 => ?_)
      · have hf := zifp hf c104
        refine z_mask (ls' := [_, _, _, _]) [true, true, true, true] rfl ?_
        exact tX10_tell_J113 hok d (by omega) N p0  _ r k1 k2 hrec v2 v3 s hf
      · have hf := zifn hf c104
        refine z_aload_n dX10_tell_107 rfl ?_
        refine z_bipush 44 dX10_tell_108 (by decide +kernel) ?_
        obtain ⟨x16, s17, q18, hf⟩ := zbn_of hf
        refine z_cV (as := [_]) hok dX10_tell_110 kX10_256 (tX10_say hok (d - 1) N 44  q18) rfl (at_Model s) rfl rfl (by omega) (Nat.le_of_ble_eq_true rfl) (Nat.zero_le _) (Nat.zero_le _) rfl ?_
        refine z_mask (ls' := [_, _, _, _]) [true, true, true, true] rfl ?_
        exact tX10_tell_J113 hok d (by omega) N p0  _ r k1 k2 hrec v2 v3 s17 hf
noncomputable def fX10_tell_J89 (N : Nat) (p0 : Int32) (v2 : Int32) (s : zS) : Option (Int32 × zS) := zbl (fX10_tell_L91 N p0 N v2 0 s) (fun x => some x) (fun s22 => some (s22.1 3329, s22))
set_option maxHeartbeats 400000 in
set_option maxRecDepth 100000 in
theorem tX10_tell_J89 {g : zGl} (hok : zGok g) (d : Nat) (hd : 5 ≤ d) (N : Nat) (p0 : Int32)  {mc ms n0 : Nat} (v2 : Int32) {s s' : zS} {w : Int32} (hf : fX10_tell_J89 N p0 v2 s = some (w, s')) : zW g mX10_tell d mc ms n0 (zret (some (.int w)) (zHp s')) 0 0 (zHp s) [some (.ref 33), some (.int p0), some (.int v2), none] [] 89 := by
  unfold fX10_tell_J89 at hf
  refine z_iconst 0 dX10_tell_89 (by decide +kernel) ?_
  refine z_istore_n (ls' := [_, _, _, _]) dX10_tell_90 (by decide) rfl ?_
  refine z_mask (ls' := [_, _, _, _]) [true, true, true, true] rfl ?_
  rcases zbl_of hf with ⟨lr20, le21, hf⟩ | ⟨lr20, le21, hf⟩
  · cases hf
    exact tX10_tell_L91 hok d (by omega) N p0  N v2 0 s _ le21 (fun w1 s1 hh => by cases hh; exact ⟨rfl, rfl⟩) (fun  _ hh => by cases hh)
  · obtain ⟨s22, rfl⟩ : ∃ z, z = lr20 := ⟨_, rfl⟩
    refine tX10_tell_L91 hok d (by omega) N p0  N v2 0 s _ le21 (fun w1 s1 hh => by cases hh) (fun  _ hh => ?_)
    cases hh
    refine z_aload_n dX10_tell_139 rfl ?_
    refine z_getf dX10_tell_140 fX10_249 (at_Model s22) rfl ?_
    cases hf
    exact z_iret rfl dX10_tell_143 (Nat.zero_le _) (Nat.zero_le _) ⟨rfl, rfl⟩
noncomputable def fX10_tell_J73 (N : Nat) (p0 : Int32) (v2 : Int32) (s : zS) : Option (Int32 × zS) := if zga v2 (zlen 37) = true then if 2 ≤ (s.2.1 37 v2.toNatClampNeg) then fX10_tell_J89 N p0 v2 s else zbn (fX10_say N 58 s) (fun x23 s24 => fX10_tell_J89 N p0 v2 s24) else none
set_option maxHeartbeats 400000 in
set_option maxRecDepth 100000 in
theorem tX10_tell_J73 {g : zGl} (hok : zGok g) (d : Nat) (hd : 5 ≤ d) (N : Nat) (p0 : Int32)  {mc ms n0 : Nat} (v2 : Int32) {s s' : zS} {w : Int32} (hf : fX10_tell_J73 N p0 v2 s = some (w, s')) : zW g mX10_tell d mc ms n0 (zret (some (.int w)) (zHp s')) 0 0 (zHp s) [some (.ref 33), some (.int p0), some (.int v2), none] [] 73 := by
  unfold fX10_tell_J73 at hf
  refine z_aload_n dX10_tell_73 rfl ?_
  refine z_getf dX10_tell_74 fX10_19 (at_Model s) rfl ?_
  refine z_iload_n dX10_tell_77 rfl ?_
  obtain ⟨hi7, hf⟩ := zifs hf
  refine z_iald dX10_tell_78 (at_arr s 37 (by decide)) (zga_in hi7) ?_
  refine z_iconst 2 dX10_tell_79 (by decide +kernel) ?_
  refine z_icmp_ge 89 dX10_tell_80 (by decide) (fun c80 => ?_) (fun c80 => ?_)
  · have hf := zifp hf c80
    refine z_mask (ls' := [_, _, _, _]) [true, true, true, false] rfl ?_
    exact tX10_tell_J89 hok d (by omega) N p0  v2 hf
  · have hf := zifn hf c80
    refine z_aload_n dX10_tell_83 rfl ?_
    refine z_bipush 58 dX10_tell_84 (by decide +kernel) ?_
    obtain ⟨x23, s24, q25, hf⟩ := zbn_of hf
    refine z_cV (as := [_]) hok dX10_tell_86 kX10_256 (tX10_say hok (d - 1) N 58  q25) rfl (at_Model s) rfl rfl (by omega) (Nat.le_of_ble_eq_true rfl) (Nat.zero_le _) (Nat.zero_le _) rfl ?_
    refine z_mask (ls' := [_, _, _, _]) [true, true, true, false] rfl ?_
    exact tX10_tell_J89 hok d (by omega) N p0  v2 hf
noncomputable def fX10_tell (N : Nat) (p0 : Int32) (s : zS) : Option (Int32 × zS) := if p0 < 0 then some ((-1), (zsc s 3300 0)) else if zga 4 (zlen 36) = true then if p0 < (s.2.1 36 (4 : Int32).toNatClampNeg) then if zga (2400 + (6 * p0)) (zlen 37) = true then if (s.2.1 37 (2400 + (6 * p0)).toNatClampNeg) = 1 then if zga ((2400 + (6 * p0)) + 1) (zlen 37) = true then zbn (fX10_sayNumber N ((s.2.1 37 ((2400 + (6 * p0)) + 1).toNatClampNeg).toInt64) (zsc (zsc s 3300 0) 3329 0)) (fun x27 s28 => fX10_tell_J73 N p0 (2400 + (6 * p0)) s28) else none else if zga ((2400 + (6 * p0)) + 1) (zlen 37) = true then zbn (fX10_sayName N (s.2.1 37 ((2400 + (6 * p0)) + 1).toNatClampNeg) (zsc (zsc s 3300 0) 3329 0)) (fun x4 s5 => fX10_tell_J73 N p0 (2400 + (6 * p0)) s5) else none else none else some ((-1), (zsc s 3300 0)) else none
set_option maxHeartbeats 400000 in
set_option maxRecDepth 100000 in
theorem tX10_tell {g : zGl} (hok : zGok g) (d : Nat) (hd : 5 ≤ d) (N : Nat) (p0 : Int32)  {s s' : zS} {w : Int32} (hf : fX10_tell N p0 s = some (w, s')) : zMet g mX10_tell d 0 0 [.ref 33, .int p0] (zHp s) (zret (some (.int w)) (zHp s')) := by
  refine zMet.ofW (by decide +kernel) (Nat.le_of_ble_eq_true rfl) ?_
  show zW g mX10_tell d 0 0 51 _ 0 0 (zHp s) [some (.ref 33), some (.int p0), none, none] [] 0
  unfold fX10_tell at hf
  refine z_aload_n dX10_tell_0 rfl ?_
  refine z_iconst 0 dX10_tell_1 (by decide +kernel) ?_
  refine z_putf dX10_tell_2 fX10_62 wX10_0 (at_Model s) (Nat.le_of_ble_eq_true rfl) (fun _ => rfl) (fun _ => rfl) (st_Model_0 s 0) ?_
  refine z_iload_n dX10_tell_5 rfl ?_
  refine z_if_lt 19 dX10_tell_6 (by decide) (fun c6 => ?_) (fun c6 => ?_)
  · have hf := zifp hf c6
    refine z_iconst (-1) dX10_tell_19 (by decide +kernel) ?_
    cases hf
    exact z_iret rfl dX10_tell_20 (Nat.zero_le _) (Nat.zero_le _) ⟨rfl, rfl⟩
  · have hf := zifn hf c6
    refine z_iload_n dX10_tell_9 rfl ?_
    refine z_aload_n dX10_tell_10 rfl ?_
    refine z_getf dX10_tell_11 fX10_16 (at_Model (zsc s 3300 0)) rfl ?_
    refine z_iconst 4 dX10_tell_14 (by decide +kernel) ?_
    obtain ⟨hi1, hf⟩ := zifs hf
    refine z_iald dX10_tell_15 (at_arr (zsc s 3300 0) 36 (by decide)) (zga_in hi1) ?_
    refine z_icmp_lt 21 dX10_tell_16 (by decide) (fun c16 => ?_) (fun c16 => ?_)
    · have hf := zifp hf c16
      refine z_aload_n dX10_tell_21 rfl ?_
      refine z_iconst 0 dX10_tell_22 (by decide +kernel) ?_
      refine z_putf dX10_tell_23 fX10_249 wX10_29 (at_Model (zsc s 3300 0)) (Nat.le_of_ble_eq_true rfl) (fun _ => rfl) (fun _ => rfl) (st_Model_29 (zsc s 3300 0) 0) ?_
      refine z_sipush 2400 dX10_tell_26 (by decide +kernel) ?_
      refine z_bipush 6 dX10_tell_29 (by decide +kernel) ?_
      refine z_iload_n dX10_tell_31 rfl ?_
      refine z_imul dX10_tell_32 ?_
      refine z_iadd dX10_tell_33 ?_
      refine z_istore_n (ls' := [_, _, _, _]) dX10_tell_34 (by decide) rfl ?_
      refine z_aload_n dX10_tell_35 rfl ?_
      refine z_getf dX10_tell_36 fX10_19 (at_Model (zsc (zsc s 3300 0) 3329 0)) rfl ?_
      refine z_iload_n dX10_tell_39 rfl ?_
      obtain ⟨hi2, hf⟩ := zifs hf
      refine z_iald dX10_tell_40 (at_arr (zsc (zsc s 3300 0) 3329 0) 37 (by decide)) (zga_in hi2) ?_
      refine z_iconst 1 dX10_tell_41 (by decide +kernel) ?_
      refine z_icmp_ne 61 dX10_tell_42 (by decide) (fun c42 => ?_) (fun c42 => ?_)
      · have hf := zifn hf c42
        refine z_aload_n dX10_tell_61 rfl ?_
        refine z_aload_n dX10_tell_62 rfl ?_
        refine z_getf dX10_tell_63 fX10_19 (at_Model (zsc (zsc s 3300 0) 3329 0)) rfl ?_
        refine z_iload_n dX10_tell_66 rfl ?_
        refine z_iconst 1 dX10_tell_67 (by decide +kernel) ?_
        refine z_iadd dX10_tell_68 ?_
        obtain ⟨hi3, hf⟩ := zifs hf
        refine z_iald dX10_tell_69 (at_arr (zsc (zsc s 3300 0) 3329 0) 37 (by decide)) (zga_in hi3) ?_
        obtain ⟨x4, s5, q6, hf⟩ := zbn_of hf
        refine z_cV (as := [_]) hok dX10_tell_70 kX10_274 (tX10_sayName hok (d - 1) (by omega) N (s.2.1 37 ((2400 + (6 * p0)) + 1).toNatClampNeg)  q6) rfl (at_Model (zsc (zsc s 3300 0) 3329 0)) rfl rfl (by omega) (Nat.le_of_ble_eq_true rfl) (Nat.zero_le _) (Nat.zero_le _) rfl ?_
        refine z_mask (ls' := [_, _, _, _]) [true, true, true, false] rfl ?_
        exact tX10_tell_J73 hok d (by omega) N p0  (2400 + (6 * p0)) hf
      · have hf := zifp hf c42
        refine z_aload_n dX10_tell_45 rfl ?_
        refine z_aload_n dX10_tell_46 rfl ?_
        refine z_getf dX10_tell_47 fX10_19 (at_Model (zsc (zsc s 3300 0) 3329 0)) rfl ?_
        refine z_iload_n dX10_tell_50 rfl ?_
        refine z_iconst 1 dX10_tell_51 (by decide +kernel) ?_
        refine z_iadd dX10_tell_52 ?_
        obtain ⟨hi26, hf⟩ := zifs hf
        refine z_iald dX10_tell_53 (at_arr (zsc (zsc s 3300 0) 3329 0) 37 (by decide)) (zga_in hi26) ?_
        refine z_i2l dX10_tell_54 ?_
        obtain ⟨x27, s28, q29, hf⟩ := zbn_of hf
        refine z_cV (as := [_]) hok dX10_tell_55 kX10_259 (tX10_sayNumber hok (d - 1) (by omega) N ((s.2.1 37 ((2400 + (6 * p0)) + 1).toNatClampNeg).toInt64)  q29) rfl (at_Model (zsc (zsc s 3300 0) 3329 0)) rfl rfl (by omega) (Nat.le_of_ble_eq_true rfl) (Nat.zero_le _) (Nat.zero_le _) rfl ?_
        refine z_goto 73 dX10_tell_58 (by decide) ?_
        refine z_mask (ls' := [_, _, _, _]) [true, true, true, false] rfl ?_
        exact tX10_tell_J73 hok d (by omega) N p0  (2400 + (6 * p0)) hf
    · have hf := zifn hf c16
      refine z_iconst (-1) dX10_tell_19 (by decide +kernel) ?_
      cases hf
      exact z_iret rfl dX10_tell_20 (Nat.zero_le _) (Nat.zero_le _) ⟨rfl, rfl⟩

noncomputable def fX10_letter (N : Nat) (p0 : Int32) (s : zS) : Option (Int32 × zS) := if p0 < 0 then some ((-1), (zsc s 3300 0)) else if (s.1 3329) ≤ p0 then some ((-1), (zsc s 3300 0)) else if zga p0 (zlen 44) = true then some (s.2.1 44 p0.toNatClampNeg, (zsc s 3300 0)) else none
set_option maxHeartbeats 400000 in
set_option maxRecDepth 100000 in
theorem tX10_letter {g : zGl} (hok : zGok g) (d : Nat)  (N : Nat) (p0 : Int32)  {s s' : zS} {w : Int32} (hf : fX10_letter N p0 s = some (w, s')) : zMet g mX10_letter d 0 0 [.ref 33, .int p0] (zHp s) (zret (some (.int w)) (zHp s')) := by
  refine zMet.ofW (by decide +kernel) (Nat.le_of_ble_eq_true rfl) ?_
  show zW g mX10_letter d 0 0 51 _ 0 0 (zHp s) [some (.ref 33), some (.int p0)] [] 0
  unfold fX10_letter at hf
  refine z_aload_n dX10_letter_0 rfl ?_
  refine z_iconst 0 dX10_letter_1 (by decide +kernel) ?_
  refine z_putf dX10_letter_2 fX10_62 wX10_0 (at_Model s) (Nat.le_of_ble_eq_true rfl) (fun _ => rfl) (fun _ => rfl) (st_Model_0 s 0) ?_
  refine z_iload_n dX10_letter_5 rfl ?_
  refine z_if_lt 26 dX10_letter_6 (by decide) (fun c6 => ?_) (fun c6 => ?_)
  · have hf := zifp hf c6
    refine z_iconst (-1) dX10_letter_26 (by decide +kernel) ?_
    cases hf
    exact z_iret rfl dX10_letter_27 (Nat.zero_le _) (Nat.zero_le _) ⟨rfl, rfl⟩
  · have hf := zifn hf c6
    refine z_iload_n dX10_letter_9 rfl ?_
    refine z_aload_n dX10_letter_10 rfl ?_
    refine z_getf dX10_letter_11 fX10_249 (at_Model (zsc s 3300 0)) rfl ?_
    refine z_icmp_ge 26 dX10_letter_14 (by decide) (fun c14 => ?_) (fun c14 => ?_)
    · have hf := zifp hf c14
      refine z_iconst (-1) dX10_letter_26 (by decide +kernel) ?_
      cases hf
      exact z_iret rfl dX10_letter_27 (Nat.zero_le _) (Nat.zero_le _) ⟨rfl, rfl⟩
    · have hf := zifn hf c14
      refine z_aload_n dX10_letter_17 rfl ?_
      refine z_getf dX10_letter_18 fX10_44 (at_Model (zsc s 3300 0)) rfl ?_
      refine z_iload_n dX10_letter_21 rfl ?_
      obtain ⟨hi1, hf⟩ := zifs hf
      refine z_iald dX10_letter_22 (at_arr (zsc s 3300 0) 44 (by decide)) (zga_in hi1) ?_
      refine z_goto 27 dX10_letter_23 (by decide) ?_
      cases hf
      exact z_iret rfl dX10_letter_27 (Nat.zero_le _) (Nat.zero_le _) ⟨rfl, rfl⟩

