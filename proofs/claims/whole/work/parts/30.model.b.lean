noncomputable def fX10_inside (N : Nat) (p0 : Int32) (p1 : Int32) (s : zS) : Option (Int32 × zS) := zbn (fX10_at N p0 s) (fun x1 s2 => if p0 < (s2.1 3303) then if x1 = 92 then zbn (fX10_at N (p0 + 1) (zsc s2 3318 (p0 + 1))) (fun x4 s5 => if (p0 + 1) < (s5.1 3303) then if x4 = 110 then some (10, (zsc s5 3318 (p0 + 2))) else if x4 = 116 then some (9, (zsc s5 3318 (p0 + 2))) else if x4 = 48 then some (0, (zsc s5 3318 (p0 + 2))) else if x4 = 92 then some (x4, (zsc s5 3318 (p0 + 2))) else if x4 = 39 then some (x4, (zsc s5 3318 (p0 + 2))) else if x4 = 34 then some (x4, (zsc s5 3318 (p0 + 2))) else some ((-1), (zsc s5 3318 (p0 + 2))) else some ((-1), (zsc s5 3318 (p0 + 2)))) else if x1 < 32 then some ((-1), (zsc s2 3318 (p0 + 1))) else if 127 ≤ x1 then some ((-1), (zsc s2 3318 (p0 + 1))) else if x1 = p1 then some ((-1), (zsc s2 3318 (p0 + 1))) else some (x1, (zsc s2 3318 (p0 + 1))) else some ((-1), (zsc s2 3318 (p0 + 1))))
set_option maxHeartbeats 400000 in
set_option maxRecDepth 100000 in
theorem tX10_inside {g : zGl} (hok : zGok g) (d : Nat) (hd : 1 ≤ d) (N : Nat) (p0 : Int32) (p1 : Int32)  {s s' : zS} {w : Int32} (hf : fX10_inside N p0 p1 s = some (w, s')) : zMet g mX10_inside d 0 0 [.ref 33, .int p0, .int p1] (zHp s) (zret (some (.int w)) (zHp s')) := by
  refine zMet.ofW (by decide +kernel) (Nat.le_of_ble_eq_true rfl) ?_
  show zW g mX10_inside d 0 0 51 _ 0 0 (zHp s) [some (.ref 33), some (.int p0), some (.int p1), none, none] [] 0
  unfold fX10_inside at hf
  refine z_aload_n dX10_inside_0 rfl ?_
  refine z_iload_n dX10_inside_1 rfl ?_
  obtain ⟨x1, s2, q3, hf⟩ := zbn_of hf
  refine z_cV (as := [_]) hok dX10_inside_2 kX10_113 (tX10_at hok (d - 1) N p0  q3) rfl (at_Model s) rfl rfl (by omega) (Nat.le_of_ble_eq_true rfl) (Nat.zero_le _) (Nat.zero_le _) rfl ?_
  refine z_istore_n (ls' := [_, _, _, _, _]) dX10_inside_5 (by decide) rfl ?_
  refine z_aload_n dX10_inside_6 rfl ?_
  refine z_iload_n dX10_inside_7 rfl ?_
  refine z_iconst 1 dX10_inside_8 (by decide +kernel) ?_
  refine z_iadd dX10_inside_9 ?_
  refine z_putf dX10_inside_10 fX10_88 wX10_18 (at_Model s2) (Nat.le_of_ble_eq_true rfl) (fun _ => rfl) (fun _ => rfl) (st_Model_18 s2 (p0 + 1)) ?_
  refine z_iload_n dX10_inside_13 rfl ?_
  refine z_aload_n dX10_inside_14 rfl ?_
  refine z_getf dX10_inside_15 fX10_69 (at_Model (zsc s2 3318 (p0 + 1))) rfl ?_
  refine z_icmp_lt 23 dX10_inside_18 (by decide) (fun c18 => ?_) (fun c18 => ?_)
  · have hf := zifp hf c18
    refine z_iload_n dX10_inside_23 rfl ?_
    refine z_bipush 92 dX10_inside_24 (by decide +kernel) ?_
    refine z_icmp_eq 52 dX10_inside_26 (by decide) (fun c26 => ?_) (fun c26 => ?_)
    · have hf := zifp hf c26
      refine z_aload_n dX10_inside_52 rfl ?_
      refine z_iload_n dX10_inside_53 rfl ?_
      refine z_iconst 1 dX10_inside_54 (by decide +kernel) ?_
      refine z_iadd dX10_inside_55 ?_
      obtain ⟨x4, s5, q6, hf⟩ := zbn_of hf
      refine z_cV (as := [_]) hok dX10_inside_56 kX10_113 (tX10_at hok (d - 1) N (p0 + 1)  q6) rfl (at_Model (zsc s2 3318 (p0 + 1))) rfl rfl (by omega) (Nat.le_of_ble_eq_true rfl) (Nat.zero_le _) (Nat.zero_le _) rfl ?_
      refine z_istore (ls' := [_, _, _, _, _]) dX10_inside_59 (by decide) rfl ?_
      refine z_aload_n dX10_inside_61 rfl ?_
      refine z_iload_n dX10_inside_62 rfl ?_
      refine z_iconst 2 dX10_inside_63 (by decide +kernel) ?_
      refine z_iadd dX10_inside_64 ?_
      refine z_putf dX10_inside_65 fX10_88 wX10_18 (at_Model s5) (Nat.le_of_ble_eq_true rfl) (fun _ => rfl) (fun _ => rfl) (st_Model_18 s5 (p0 + 2)) ?_
      refine z_iload_n dX10_inside_68 rfl ?_
      refine z_iconst 1 dX10_inside_69 (by decide +kernel) ?_
      refine z_iadd dX10_inside_70 ?_
      refine z_aload_n dX10_inside_71 rfl ?_
      refine z_getf dX10_inside_72 fX10_69 (at_Model (zsc s5 3318 (p0 + 2))) rfl ?_
      refine z_icmp_lt 80 dX10_inside_75 (by decide) (fun c75 => ?_) (fun c75 => ?_)
      · have hf := zifp hf c75
        refine z_iload dX10_inside_80 rfl ?_
        refine z_bipush 110 dX10_inside_82 (by decide +kernel) ?_
        refine z_icmp_ne 92 dX10_inside_84 (by decide) (fun c84 => ?_) (fun c84 => ?_)
        · have hf := zifn hf c84
          refine z_iload dX10_inside_92 rfl ?_
          refine z_bipush 116 dX10_inside_94 (by decide +kernel) ?_
          refine z_icmp_ne 104 dX10_inside_96 (by decide) (fun c96 => ?_) (fun c96 => ?_)
          · have hf := zifn hf c96
            refine z_iload dX10_inside_104 rfl ?_
            refine z_bipush 48 dX10_inside_106 (by decide +kernel) ?_
            refine z_icmp_ne 115 dX10_inside_108 (by decide) (fun c108 => ?_) (fun c108 => ?_)
            · have hf := zifn hf c108
              refine z_iload dX10_inside_115 rfl ?_
              refine z_bipush 92 dX10_inside_117 (by decide +kernel) ?_
              refine z_icmp_eq 136 dX10_inside_119 (by decide) (fun c119 => ?_) (fun c119 => ?_)
              · have hf := zifp hf c119
                refine z_iload dX10_inside_136 rfl ?_
                refine z_goto 142 dX10_inside_138 (by decide) ?_
                cases hf
                exact z_iret rfl dX10_inside_142 (Nat.zero_le _) (Nat.zero_le _) ⟨rfl, rfl⟩
              · have hf := zifn hf c119
                refine z_iload dX10_inside_122 rfl ?_
                refine z_bipush 39 dX10_inside_124 (by decide +kernel) ?_
                refine z_icmp_eq 136 dX10_inside_126 (by decide) (fun c126 => ?_) (fun c126 => ?_)
                · have hf := zifp hf c126
                  refine z_iload dX10_inside_136 rfl ?_
                  refine z_goto 142 dX10_inside_138 (by decide) ?_
                  cases hf
                  exact z_iret rfl dX10_inside_142 (Nat.zero_le _) (Nat.zero_le _) ⟨rfl, rfl⟩
                · have hf := zifn hf c126
                  refine z_iload dX10_inside_129 rfl ?_
                  refine z_bipush 34 dX10_inside_131 (by decide +kernel) ?_
                  refine z_icmp_ne 141 dX10_inside_133 (by decide) (fun c133 => ?_) (fun c133 => ?_)
                  · have hf := zifn hf c133
                    refine z_iconst (-1) dX10_inside_141 (by decide +kernel) ?_
                    cases hf
                    exact z_iret rfl dX10_inside_142 (Nat.zero_le _) (Nat.zero_le _) ⟨rfl, rfl⟩
                  · have hf := zifp hf c133
                    refine z_iload dX10_inside_136 rfl ?_
                    refine z_goto 142 dX10_inside_138 (by decide) ?_
                    cases hf
                    exact z_iret rfl dX10_inside_142 (Nat.zero_le _) (Nat.zero_le _) ⟨rfl, rfl⟩
            · have hf := zifp hf c108
              refine z_iconst 0 dX10_inside_111 (by decide +kernel) ?_
              refine z_goto 142 dX10_inside_112 (by decide) ?_
              cases hf
              exact z_iret rfl dX10_inside_142 (Nat.zero_le _) (Nat.zero_le _) ⟨rfl, rfl⟩
          · have hf := zifp hf c96
            refine z_bipush 9 dX10_inside_99 (by decide +kernel) ?_
            refine z_goto 142 dX10_inside_101 (by decide) ?_
            cases hf
            exact z_iret rfl dX10_inside_142 (Nat.zero_le _) (Nat.zero_le _) ⟨rfl, rfl⟩
        · have hf := zifp hf c84
          refine z_bipush 10 dX10_inside_87 (by decide +kernel) ?_
          refine z_goto 142 dX10_inside_89 (by decide) ?_
          cases hf
          exact z_iret rfl dX10_inside_142 (Nat.zero_le _) (Nat.zero_le _) ⟨rfl, rfl⟩
      · have hf := zifn hf c75
        refine z_iconst (-1) dX10_inside_78 (by decide +kernel) ?_
        cases hf
        exact z_iret rfl dX10_inside_79 (Nat.zero_le _) (Nat.zero_le _) ⟨rfl, rfl⟩
    · have hf := zifn hf c26
      refine z_iload_n dX10_inside_29 rfl ?_
      refine z_bipush 32 dX10_inside_30 (by decide +kernel) ?_
      refine z_icmp_lt 50 dX10_inside_32 (by decide) (fun c32 => ?_) (fun c32 => ?_)
      · have hf := zifp hf c32
        refine z_iconst (-1) dX10_inside_50 (by decide +kernel) ?_
        cases hf
        exact z_iret rfl dX10_inside_51 (Nat.zero_le _) (Nat.zero_le _) ⟨rfl, rfl⟩
      · have hf := zifn hf c32
        refine z_iload_n dX10_inside_35 rfl ?_
        refine z_bipush 127 dX10_inside_36 (by decide +kernel) ?_
        refine z_icmp_ge 50 dX10_inside_38 (by decide) (fun c38 => ?_) (fun c38 => ?_)
        · have hf := zifp hf c38
          refine z_iconst (-1) dX10_inside_50 (by decide +kernel) ?_
          cases hf
          exact z_iret rfl dX10_inside_51 (Nat.zero_le _) (Nat.zero_le _) ⟨rfl, rfl⟩
        · have hf := zifn hf c38
          refine z_iload_n dX10_inside_41 rfl ?_
          refine z_iload_n dX10_inside_42 rfl ?_
          refine z_icmp_eq 50 dX10_inside_43 (by decide) (fun c43 => ?_) (fun c43 => ?_)
          · have hf := zifp hf c43
            refine z_iconst (-1) dX10_inside_50 (by decide +kernel) ?_
            cases hf
            exact z_iret rfl dX10_inside_51 (Nat.zero_le _) (Nat.zero_le _) ⟨rfl, rfl⟩
          · have hf := zifn hf c43
            refine z_iload_n dX10_inside_46 rfl ?_
            refine z_goto 51 dX10_inside_47 (by decide) ?_
            cases hf
            exact z_iret rfl dX10_inside_51 (Nat.zero_le _) (Nat.zero_le _) ⟨rfl, rfl⟩
  · have hf := zifn hf c18
    refine z_iconst (-1) dX10_inside_21 (by decide +kernel) ?_
    cases hf
    exact z_iret rfl dX10_inside_22 (Nat.zero_le _) (Nat.zero_le _) ⟨rfl, rfl⟩

noncomputable def fX10_character_J58 (N : Nat)  (v1 : Int32) (s : zS) : Option (Unit × zS) := zbn (fX10_bad N 4 v1 s) (fun x4 s5 => if (s5.1 3315) = 2 then some ((), (zsc (zsc s5 3318 ((s5.1 3318) + 1)) 3317 v1)) else some ((), (zsc s5 3318 ((s5.1 3318) + 1))))
set_option maxHeartbeats 400000 in
set_option maxRecDepth 100000 in
theorem tX10_character_J58 {g : zGl} (hok : zGok g) (d : Nat) (hd : 2 ≤ d) (N : Nat)   {mc ms n0 : Nat} (v1 : Int32) {s s' : zS} {w : Unit} (hf : fX10_character_J58 N  v1 s = some (w, s')) : zW g mX10_character d mc ms n0 (zret none (zHp s')) 0 0 (zHp s) [some (.ref 33), some (.int v1), none] [] 58 := by
  unfold fX10_character_J58 at hf
  refine z_aload_n dX10_character_58 rfl ?_
  refine z_iconst 4 dX10_character_59 (by decide +kernel) ?_
  refine z_iload_n dX10_character_60 rfl ?_
  obtain ⟨x4, s5, q6, hf⟩ := zbn_of hf
  refine z_cV (as := [_, _]) hok dX10_character_61 kX10_91 (tX10_bad hok (d - 1) N 4 v1  q6) rfl (at_Model s) rfl rfl (by omega) (Nat.le_of_ble_eq_true rfl) (Nat.zero_le _) (Nat.zero_le _) rfl ?_
  refine z_aload_n dX10_character_64 rfl ?_
  refine z_dup dX10_character_65 rfl ?_
  refine z_getf dX10_character_66 fX10_88 (at_Model s5) rfl ?_
  refine z_iconst 1 dX10_character_69 (by decide +kernel) ?_
  refine z_iadd dX10_character_70 ?_
  refine z_putf dX10_character_71 fX10_88 wX10_18 (at_Model s5) (Nat.le_of_ble_eq_true rfl) (fun _ => rfl) (fun _ => rfl) (st_Model_18 s5 ((s5.1 3318) + 1)) ?_
  refine z_aload_n dX10_character_74 rfl ?_
  refine z_getf dX10_character_75 fX10_79 (at_Model (zsc s5 3318 ((s5.1 3318) + 1))) rfl ?_
  refine z_iconst 2 dX10_character_78 (by decide +kernel) ?_
  refine z_icmp_ne 87 dX10_character_79 (by decide) (fun c79 => ?_) (fun c79 => ?_)
  · have hf := zifn hf c79
    cases hf
    exact z_vret rfl dX10_character_87 (Nat.zero_le _) (Nat.zero_le _) ⟨rfl, rfl⟩
  · have hf := zifp hf c79
    refine z_aload_n dX10_character_82 rfl ?_
    refine z_iload_n dX10_character_83 rfl ?_
    refine z_putf dX10_character_84 fX10_85 wX10_17 (at_Model (zsc s5 3318 ((s5.1 3318) + 1))) (Nat.le_of_ble_eq_true rfl) (fun _ => rfl) (fun _ => rfl) (st_Model_17 (zsc s5 3318 ((s5.1 3318) + 1)) v1) ?_
    cases hf
    exact z_vret rfl dX10_character_87 (Nat.zero_le _) (Nat.zero_le _) ⟨rfl, rfl⟩
noncomputable def fX10_character (N : Nat)  (s : zS) : Option (Unit × zS) := zbn (fX10_inside N ((s.1 3317) + 1) 39 s) (fun x1 s2 => if x1 = (-1) then fX10_character_J58 N  (s.1 3317) (zsc (zsc s2 3315 2) 3316 x1) else if (s2.1 3303) ≤ (s2.1 3318) then fX10_character_J58 N  (s.1 3317) (zsc (zsc s2 3315 2) 3316 x1) else if zga (s2.1 3318) (zlen 35) = true then if (s2.2.1 35 (s2.1 3318).toNatClampNeg) = 39 then some ((), (zsc (zsc (zsc (zsc s2 3315 2) 3316 x1) 3318 ((s2.1 3318) + 1)) 3317 (s.1 3317))) else fX10_character_J58 N  (s.1 3317) (zsc (zsc s2 3315 2) 3316 x1) else none)
set_option maxHeartbeats 400000 in
set_option maxRecDepth 100000 in
theorem tX10_character {g : zGl} (hok : zGok g) (d : Nat) (hd : 2 ≤ d) (N : Nat)   {s s' : zS} {w : Unit} (hf : fX10_character N  s = some (w, s')) : zMet g mX10_character d 0 0 [.ref 33] (zHp s) (zret none (zHp s')) := by
  refine zMet.ofW (by decide +kernel) (Nat.le_of_ble_eq_true rfl) ?_
  show zW g mX10_character d 0 0 51 _ 0 0 (zHp s) [some (.ref 33), none, none] [] 0
  unfold fX10_character at hf
  refine z_aload_n dX10_character_0 rfl ?_
  refine z_getf dX10_character_1 fX10_85 (at_Model s) rfl ?_
  refine z_istore_n (ls' := [_, _, _]) dX10_character_4 (by decide) rfl ?_
  refine z_aload_n dX10_character_5 rfl ?_
  refine z_aload_n dX10_character_6 rfl ?_
  refine z_getf dX10_character_7 fX10_85 (at_Model s) rfl ?_
  refine z_iconst 1 dX10_character_10 (by decide +kernel) ?_
  refine z_iadd dX10_character_11 ?_
  refine z_bipush 39 dX10_character_12 (by decide +kernel) ?_
  obtain ⟨x1, s2, q3, hf⟩ := zbn_of hf
  refine z_cV (as := [_, _]) hok dX10_character_14 kX10_122 (tX10_inside hok (d - 1) (by omega) N ((s.1 3317) + 1) 39  q3) rfl (at_Model s) rfl rfl (by omega) (Nat.le_of_ble_eq_true rfl) (Nat.zero_le _) (Nat.zero_le _) rfl ?_
  refine z_istore_n (ls' := [_, _, _]) dX10_character_17 (by decide) rfl ?_
  refine z_aload_n dX10_character_18 rfl ?_
  refine z_iconst 2 dX10_character_19 (by decide +kernel) ?_
  refine z_putf dX10_character_20 fX10_79 wX10_15 (at_Model s2) (Nat.le_of_ble_eq_true rfl) (fun _ => rfl) (fun _ => rfl) (st_Model_15 s2 2) ?_
  refine z_aload_n dX10_character_23 rfl ?_
  refine z_iload_n dX10_character_24 rfl ?_
  refine z_putf dX10_character_25 fX10_82 wX10_16 (at_Model (zsc s2 3315 2)) (Nat.le_of_ble_eq_true rfl) (fun _ => rfl) (fun _ => rfl) (st_Model_16 (zsc s2 3315 2) x1) ?_
  refine z_iload_n dX10_character_28 rfl ?_
  refine z_iconst (-1) dX10_character_29 (by decide +kernel) ?_
  refine z_icmp_eq 58 dX10_character_30 (by decide) (fun c30 => ?_) (fun c30 => ?_)
  · have hf := zifp hf c30
    refine z_mask (ls' := [_, _, _]) [true, true, false] rfl ?_
    exact tX10_character_J58 hok d (by omega) N   (s.1 3317) hf
  · have hf := zifn hf c30
    refine z_aload_n dX10_character_33 rfl ?_
    refine z_getf dX10_character_34 fX10_88 (at_Model (zsc (zsc s2 3315 2) 3316 x1)) rfl ?_
    refine z_aload_n dX10_character_37 rfl ?_
    refine z_getf dX10_character_38 fX10_69 (at_Model (zsc (zsc s2 3315 2) 3316 x1)) rfl ?_
    refine z_icmp_ge 58 dX10_character_41 (by decide) (fun c41 => ?_) (fun c41 => ?_)
    · have hf := zifp hf c41
      refine z_mask (ls' := [_, _, _]) [true, true, false] rfl ?_
      exact tX10_character_J58 hok d (by omega) N   (s.1 3317) hf
    · have hf := zifn hf c41
      refine z_aload_n dX10_character_44 rfl ?_
      refine z_getf dX10_character_45 fX10_13 (at_Model (zsc (zsc s2 3315 2) 3316 x1)) rfl ?_
      refine z_aload_n dX10_character_48 rfl ?_
      refine z_getf dX10_character_49 fX10_88 (at_Model (zsc (zsc s2 3315 2) 3316 x1)) rfl ?_
      obtain ⟨hi7, hf⟩ := zifs hf
      refine z_iald dX10_character_52 (at_arr (zsc (zsc s2 3315 2) 3316 x1) 35 (by decide)) (zga_in hi7) ?_
      refine z_bipush 39 dX10_character_53 (by decide +kernel) ?_
      refine z_icmp_eq 64 dX10_character_55 (by decide) (fun c55 => ?_) (fun c55 => ?_)
      · have hf := zifp hf c55
        refine z_aload_n dX10_character_64 rfl ?_
        refine z_dup dX10_character_65 rfl ?_
        refine z_getf dX10_character_66 fX10_88 (at_Model (zsc (zsc s2 3315 2) 3316 x1)) rfl ?_
        refine z_iconst 1 dX10_character_69 (by decide +kernel) ?_
        refine z_iadd dX10_character_70 ?_
        refine z_putf dX10_character_71 fX10_88 wX10_18 (at_Model (zsc (zsc s2 3315 2) 3316 x1)) (Nat.le_of_ble_eq_true rfl) (fun _ => rfl) (fun _ => rfl) (st_Model_18 (zsc (zsc s2 3315 2) 3316 x1) ((s2.1 3318) + 1)) ?_
        refine z_aload_n dX10_character_74 rfl ?_
        refine z_getf dX10_character_75 fX10_79 (at_Model (zsc (zsc (zsc s2 3315 2) 3316 x1) 3318 ((s2.1 3318) + 1))) rfl ?_
        refine z_iconst 2 dX10_character_78 (by decide +kernel) ?_
        refine z_icmp_ne 87 dX10_character_79 (by decide) (fun c79 => ?_) (fun c79 => ?_)
        · exact absurd (show (2 : Int32) = 2 by decide) c79
        · skip
          refine z_aload_n dX10_character_82 rfl ?_
          refine z_iload_n dX10_character_83 rfl ?_
          refine z_putf dX10_character_84 fX10_85 wX10_17 (at_Model (zsc (zsc (zsc s2 3315 2) 3316 x1) 3318 ((s2.1 3318) + 1))) (Nat.le_of_ble_eq_true rfl) (fun _ => rfl) (fun _ => rfl) (st_Model_17 (zsc (zsc (zsc s2 3315 2) 3316 x1) 3318 ((s2.1 3318) + 1)) (s.1 3317)) ?_
          cases hf
          exact z_vret rfl dX10_character_87 (Nat.zero_le _) (Nat.zero_le _) ⟨rfl, rfl⟩
      · have hf := zifn hf c55
        refine z_mask (ls' := [_, _, _]) [true, true, false] rfl ?_
        exact tX10_character_J58 hok d (by omega) N   (s.1 3317) hf

noncomputable def fX10_stringWord_J59 (N : Nat)  (rec : Int32 → Int32 → zS → Option ((Unit × zS) ⊕ (Int32 × zS))) (v1 : Int32) (v3 : Int32) (s : zS) : Option ((Unit × zS) ⊕ (Int32 × zS)) := if zga (s.1 3311) (zlen 48) = true then rec v1 (s.1 3318) (zsc (zsr s 48 (s.1 3311) v3) 3311 ((s.1 3311) + 1)) else none
set_option maxHeartbeats 400000 in
set_option maxRecDepth 100000 in
theorem tX10_stringWord_J59 {g : zGl} (hok : zGok g) (d : Nat) (hd : 2 ≤ d) (N : Nat)   {mc ms n0 : Nat} {Q : zO → List zE → Prop} (rec : Int32 → Int32 → zS → Option ((Unit × zS) ⊕ (Int32 × zS))) (r : (Unit × zS) ⊕ (Int32 × zS)) (k1 : ∀ w s', r = .inl (w, s') → Q (.inl none) (zHp s')) (k2 : ∀ (y2 : Int32) (s' : zS), r = .inr (y2, s') → zW g mX10_stringWord d mc ms n0 Q 0 0 (zHp s') [some (.ref 33), none, some (.int y2), none] [] 87) (hrec : ∀ (v1 : Int32) (v2 : Int32) (s : zS), rec v1 v2 s = some r → zW g mX10_stringWord d mc ms n0 Q 0 0 (zHp s) [some (.ref 33), some (.int v1), some (.int v2), none] [] 22) (v1 : Int32) (v3 : Int32) (s : zS) (hf : fX10_stringWord_J59 N  rec v1 v3 s = some r) : zW g mX10_stringWord d mc ms n0 Q 0 0 (zHp s) [some (.ref 33), some (.int v1), none, some (.int v3)] [] 59 := by
  unfold fX10_stringWord_J59 at hf
  refine z_aload_n dX10_stringWord_59 rfl ?_
  refine z_getf dX10_stringWord_60 fX10_56 (at_Model s) rfl ?_
  refine z_aload_n dX10_stringWord_63 rfl ?_
  refine z_getf dX10_stringWord_64 fX10_126 (at_Model s) rfl ?_
  refine z_iload_n dX10_stringWord_67 rfl ?_
  obtain ⟨hi7, hf⟩ := zifs hf
  refine z_iastore dX10_stringWord_68 (at_arr s 48 (by decide)) (zga_in hi7) (st_arr s 48 (by decide) (s.1 3311) v3) ?_
  refine z_aload_n dX10_stringWord_69 rfl ?_
  refine z_dup dX10_stringWord_70 rfl ?_
  refine z_getf dX10_stringWord_71 fX10_126 (at_Model (zsr s 48 (s.1 3311) v3)) rfl ?_
  refine z_iconst 1 dX10_stringWord_74 (by decide +kernel) ?_
  refine z_iadd dX10_stringWord_75 ?_
  refine z_putf dX10_stringWord_76 fX10_126 wX10_11 (at_Model (zsr s 48 (s.1 3311) v3)) (Nat.le_of_ble_eq_true rfl) (fun _ => rfl) (fun _ => rfl) (st_Model_11 (zsr s 48 (s.1 3311) v3) ((s.1 3311) + 1)) ?_
  refine z_aload_n dX10_stringWord_79 rfl ?_
  refine z_getf dX10_stringWord_80 fX10_88 (at_Model (zsc (zsr s 48 (s.1 3311) v3) 3311 ((s.1 3311) + 1))) rfl ?_
  refine z_istore_n (ls' := [_, _, _, _]) dX10_stringWord_83 (by decide) rfl ?_
  refine z_goto 22 dX10_stringWord_84 (by decide) ?_
  refine z_mask (ls' := [_, _, _, _]) [true, true, true, false] rfl ?_
  exact hrec v1 (s.1 3318) (zsc (zsr s 48 (s.1 3311) v3) 3311 ((s.1 3311) + 1)) hf
noncomputable def fX10_stringWord_L22S (N : Nat)  (rec : Int32 → Int32 → zS → Option ((Unit × zS) ⊕ (Int32 × zS))) (v1 : Int32) (v2 : Int32) (s : zS) : Option ((Unit × zS) ⊕ (Int32 × zS)) := if (s.1 3315) = 4 then zbn (fX10_at N v2 s) (fun x1 s2 => if x1 = 34 then some (.inr (v2, s2)) else zbn (fX10_inside N v2 34 s2) (fun x4 s5 => if x4 = (-1) then zbn (fX10_bad N 4 v1 s5) (fun x8 s9 => fX10_stringWord_J59 N  rec v1 x4 s9) else fX10_stringWord_J59 N  rec v1 x4 s5)) else some (.inr (v2, s))
noncomputable def fX10_stringWord_L22 (N : Nat)  (n : Nat) : Int32 → Int32 → zS → Option ((Unit × zS) ⊕ (Int32 × zS)) := Nat.rec (motive := fun _ => Int32 → Int32 → zS → Option ((Unit × zS) ⊕ (Int32 × zS))) (fun _ _ _ => none) (fun _ rec => fX10_stringWord_L22S N  rec) n
set_option maxHeartbeats 400000 in
set_option maxRecDepth 100000 in
theorem tX10_stringWord_L22 {g : zGl} (hok : zGok g) (d : Nat) (hd : 2 ≤ d) (N : Nat)   {mc ms n0 : Nat} {Q : zO → List zE → Prop} (n : Nat) : ∀ (v1 : Int32) (v2 : Int32) (s : zS) (r : (Unit × zS) ⊕ (Int32 × zS)) (hf : fX10_stringWord_L22 N  n v1 v2 s = some r) (k1 : ∀ w s', r = .inl (w, s') → Q (.inl none) (zHp s')) (k2 : ∀ (y2 : Int32) (s' : zS), r = .inr (y2, s') → zW g mX10_stringWord d mc ms n0 Q 0 0 (zHp s') [some (.ref 33), none, some (.int y2), none] [] 87), zW g mX10_stringWord d mc ms n0 Q 0 0 (zHp s) [some (.ref 33), some (.int v1), some (.int v2), none] [] 22 := by
  induction n with
  | zero => intro v1 v2 s r hf; cases hf
  | succ n ih =>
    intro v1 v2 s r hf k1 k2
    have hrec : ∀ (v1 : Int32) (v2 : Int32) (s : zS) (r1 : (Unit × zS) ⊕ (Int32 × zS)), fX10_stringWord_L22 N  n v1 v2 s = some r1 → r1 = r → zW g mX10_stringWord d mc ms n0 Q 0 0 (zHp s) [some (.ref 33), some (.int v1), some (.int v2), none] [] 22 := fun v1 v2 s r1 h e => ih v1 v2 s r1 h (by subst e; exact k1) (by subst e; exact k2)
    have hrec : ∀ (v1 : Int32) (v2 : Int32) (s : zS), fX10_stringWord_L22 N  n v1 v2 s = some r → zW g mX10_stringWord d mc ms n0 Q 0 0 (zHp s) [some (.ref 33), some (.int v1), some (.int v2), none] [] 22 := fun v1 v2 s h => hrec v1 v2 s r h rfl
    have hf : fX10_stringWord_L22S N  (fX10_stringWord_L22 N  n) v1 v2 s = some r := hf
    unfold fX10_stringWord_L22S at hf
    refine z_aload_n dX10_stringWord_22 rfl ?_
    refine z_getf dX10_stringWord_23 fX10_79 (at_Model s) rfl ?_
    refine z_iconst 4 dX10_stringWord_26 (by decide +kernel) ?_
    refine z_icmp_ne 87 dX10_stringWord_27 (by decide) (fun c27 => ?_) (fun c27 => ?_)
    · have hf := zifn hf c27
      cases hf
      refine z_mask (ls' := [_, _, _, _]) [true, false, true, false] rfl ?_
      exact k2 _ _ rfl
    · have hf := zifp hf c27
      refine z_aload_n dX10_stringWord_30 rfl ?_
      refine z_iload_n dX10_stringWord_31 rfl ?_
      obtain ⟨x1, s2, q3, hf⟩ := zbn_of hf
      refine z_cV (as := [_]) hok dX10_stringWord_32 kX10_113 (tX10_at hok (d - 1) N v2  q3) rfl (at_Model s) rfl rfl (by omega) (Nat.le_of_ble_eq_true rfl) (Nat.zero_le _) (Nat.zero_le _) rfl ?_
      refine z_bipush 34 dX10_stringWord_35 (by decide +kernel) ?_
      refine z_icmp_eq 87 dX10_stringWord_37 (by decide) (fun c37 => ?_) (fun c37 => ?_)
      · have hf := zifp hf c37
        cases hf
        refine z_mask (ls' := [_, _, _, _]) [true, false, true, false] rfl ?_
        exact k2 _ _ rfl
      · have hf := zifn hf c37
        refine z_aload_n dX10_stringWord_40 rfl ?_
        refine z_iload_n dX10_stringWord_41 rfl ?_
        refine z_bipush 34 dX10_stringWord_42 (by decide +kernel) ?_
        obtain ⟨x4, s5, q6, hf⟩ := zbn_of hf
        refine z_cV (as := [_, _]) hok dX10_stringWord_44 kX10_122 (tX10_inside hok (d - 1) (by omega) N v2 34  q6) rfl (at_Model s2) rfl rfl (by omega) (Nat.le_of_ble_eq_true rfl) (Nat.zero_le _) (Nat.zero_le _) rfl ?_
        refine z_istore_n (ls' := [_, _, _, _]) dX10_stringWord_47 (by decide) rfl ?_
        refine z_iload_n dX10_stringWord_48 rfl ?_
        refine z_iconst (-1) dX10_stringWord_49 (by decide +kernel) ?_
        refine z_icmp_ne 59 dX10_stringWord_50 (by decide) (fun c50 => ?_) (fun c50 => ?_)
        · have hf := zifn hf c50
          refine z_mask (ls' := [_, _, _, _]) [true, true, false, true] rfl ?_
          exact tX10_stringWord_J59 hok d (by omega) N   _ r k1 k2 hrec v1 x4 s5 hf
        · have hf := zifp hf c50
          refine z_aload_n dX10_stringWord_53 rfl ?_
          refine z_iconst 4 dX10_stringWord_54 (by decide +kernel) ?_
          refine z_iload_n dX10_stringWord_55 rfl ?_
          obtain ⟨x8, s9, q10, hf⟩ := zbn_of hf
          refine z_cV (as := [_, _]) hok dX10_stringWord_56 kX10_91 (tX10_bad hok (d - 1) N 4 v1  q10) rfl (at_Model s5) rfl rfl (by omega) (Nat.le_of_ble_eq_true rfl) (Nat.zero_le _) (Nat.zero_le _) rfl ?_
          refine z_mask (ls' := [_, _, _, _]) [true, true, false, true] rfl ?_
          exact tX10_stringWord_J59 hok d (by omega) N   _ r k1 k2 hrec v1 x4 s9 hf
noncomputable def fX10_stringWord (N : Nat)  (s : zS) : Option (Unit × zS) := zbl (fX10_stringWord_L22 N  N (s.1 3317) ((s.1 3317) + 1) (zsc (zsc s 3315 4) 3311 0)) (fun x => some x) (fun lq11 => match lq11 with | (y14, s15) => some ((), (zsc s15 3318 (y14 + 1))))
set_option maxHeartbeats 400000 in
set_option maxRecDepth 100000 in
theorem tX10_stringWord {g : zGl} (hok : zGok g) (d : Nat) (hd : 2 ≤ d) (N : Nat)   {s s' : zS} {w : Unit} (hf : fX10_stringWord N  s = some (w, s')) : zMet g mX10_stringWord d 0 0 [.ref 33] (zHp s) (zret none (zHp s')) := by
  refine zMet.ofW (by decide +kernel) (Nat.le_of_ble_eq_true rfl) ?_
  show zW g mX10_stringWord d 0 0 51 _ 0 0 (zHp s) [some (.ref 33), none, none, none] [] 0
  unfold fX10_stringWord at hf
  refine z_aload_n dX10_stringWord_0 rfl ?_
  refine z_getf dX10_stringWord_1 fX10_85 (at_Model s) rfl ?_
  refine z_istore_n (ls' := [_, _, _, _]) dX10_stringWord_4 (by decide) rfl ?_
  refine z_aload_n dX10_stringWord_5 rfl ?_
  refine z_getf dX10_stringWord_6 fX10_85 (at_Model s) rfl ?_
  refine z_iconst 1 dX10_stringWord_9 (by decide +kernel) ?_
  refine z_iadd dX10_stringWord_10 ?_
  refine z_istore_n (ls' := [_, _, _, _]) dX10_stringWord_11 (by decide) rfl ?_
  refine z_aload_n dX10_stringWord_12 rfl ?_
  refine z_iconst 4 dX10_stringWord_13 (by decide +kernel) ?_
  refine z_putf dX10_stringWord_14 fX10_79 wX10_15 (at_Model s) (Nat.le_of_ble_eq_true rfl) (fun _ => rfl) (fun _ => rfl) (st_Model_15 s 4) ?_
  refine z_aload_n dX10_stringWord_17 rfl ?_
  refine z_iconst 0 dX10_stringWord_18 (by decide +kernel) ?_
  refine z_putf dX10_stringWord_19 fX10_126 wX10_11 (at_Model (zsc s 3315 4)) (Nat.le_of_ble_eq_true rfl) (fun _ => rfl) (fun _ => rfl) (st_Model_11 (zsc s 3315 4) 0) ?_
  refine z_mask (ls' := [_, _, _, _]) [true, true, true, false] rfl ?_
  rcases zbl_of hf with ⟨lr12, le13, hf⟩ | ⟨lr12, le13, hf⟩
  · cases hf
    exact tX10_stringWord_L22 hok d (by omega) N   N (s.1 3317) ((s.1 3317) + 1) (zsc (zsc s 3315 4) 3311 0) _ le13 (fun w1 s1 hh => by cases hh; exact ⟨rfl, rfl⟩) (fun _ _ hh => by cases hh)
  · obtain ⟨y14, s15⟩ := lr12
    refine tX10_stringWord_L22 hok d (by omega) N   N (s.1 3317) ((s.1 3317) + 1) (zsc (zsc s 3315 4) 3311 0) _ le13 (fun w1 s1 hh => by cases hh) (fun _ _ hh => ?_)
    cases hh
    refine z_aload_n dX10_stringWord_87 rfl ?_
    refine z_iload_n dX10_stringWord_88 rfl ?_
    refine z_iconst 1 dX10_stringWord_89 (by decide +kernel) ?_
    refine z_iadd dX10_stringWord_90 ?_
    refine z_putf dX10_stringWord_91 fX10_88 wX10_18 (at_Model s15) (Nat.le_of_ble_eq_true rfl) (fun _ => rfl) (fun _ => rfl) (st_Model_18 s15 (y14 + 1)) ?_
    cases hf
    exact z_vret rfl dX10_stringWord_94 (Nat.zero_le _) (Nat.zero_le _) ⟨rfl, rfl⟩

noncomputable def fX10_signWord_J55 (N : Nat) (p0 : Int32)  (s : zS) : Option (Unit × zS) := if (s.1 3315) = 6 then some ((), (zsc (zsc s 3316 1) 3318 ((s.1 3317) + 2))) else if p0 = 60 then some ((), (zsc (zsc s 3316 300) 3318 ((s.1 3317) + 2))) else some ((), (zsc (zsc s 3316 301) 3318 ((s.1 3317) + 2)))
set_option maxHeartbeats 400000 in
set_option maxRecDepth 100000 in
theorem tX10_signWord_J55 {g : zGl} (hok : zGok g) (d : Nat) (hd : 1 ≤ d) (N : Nat) (p0 : Int32)  {mc ms n0 : Nat}  {s s' : zS} {w : Unit} (hf : fX10_signWord_J55 N p0  s = some (w, s')) : zW g mX10_signWord d mc ms n0 (zret none (zHp s')) 0 0 (zHp s) [some (.ref 33), some (.int p0), none] [] 55 := by
  unfold fX10_signWord_J55 at hf
  refine z_aload_n dX10_signWord_55 rfl ?_
  refine z_aload_n dX10_signWord_56 rfl ?_
  refine z_getf dX10_signWord_57 fX10_79 (at_Model s) rfl ?_
  refine z_bipush 6 dX10_signWord_60 (by decide +kernel) ?_
  refine z_icmp_ne 69 dX10_signWord_62 (by decide) (fun c62 => ?_) (fun c62 => ?_)
  · have hf := zifn hf c62
    refine z_iload_n dX10_signWord_69 rfl ?_
    refine z_bipush 60 dX10_signWord_70 (by decide +kernel) ?_
    refine z_icmp_ne 81 dX10_signWord_72 (by decide) (fun c72 => ?_) (fun c72 => ?_)
    · have hf := zifn hf c72
      refine z_sipush 301 dX10_signWord_81 (by decide +kernel) ?_
      refine z_putf dX10_signWord_84 fX10_82 wX10_16 (at_Model s) (Nat.le_of_ble_eq_true rfl) (fun _ => rfl) (fun _ => rfl) (st_Model_16 s 301) ?_
      refine z_aload_n dX10_signWord_87 rfl ?_
      refine z_aload_n dX10_signWord_88 rfl ?_
      refine z_getf dX10_signWord_89 fX10_85 (at_Model (zsc s 3316 301)) rfl ?_
      refine z_iconst 2 dX10_signWord_92 (by decide +kernel) ?_
      refine z_iadd dX10_signWord_93 ?_
      refine z_putf dX10_signWord_94 fX10_88 wX10_18 (at_Model (zsc s 3316 301)) (Nat.le_of_ble_eq_true rfl) (fun _ => rfl) (fun _ => rfl) (st_Model_18 (zsc s 3316 301) ((s.1 3317) + 2)) ?_
      cases hf
      exact z_vret rfl dX10_signWord_97 (Nat.zero_le _) (Nat.zero_le _) ⟨rfl, rfl⟩
    · have hf := zifp hf c72
      refine z_sipush 300 dX10_signWord_75 (by decide +kernel) ?_
      refine z_goto 84 dX10_signWord_78 (by decide) ?_
      refine z_putf dX10_signWord_84 fX10_82 wX10_16 (at_Model s) (Nat.le_of_ble_eq_true rfl) (fun _ => rfl) (fun _ => rfl) (st_Model_16 s 300) ?_
      refine z_aload_n dX10_signWord_87 rfl ?_
      refine z_aload_n dX10_signWord_88 rfl ?_
      refine z_getf dX10_signWord_89 fX10_85 (at_Model (zsc s 3316 300)) rfl ?_
      refine z_iconst 2 dX10_signWord_92 (by decide +kernel) ?_
      refine z_iadd dX10_signWord_93 ?_
      refine z_putf dX10_signWord_94 fX10_88 wX10_18 (at_Model (zsc s 3316 300)) (Nat.le_of_ble_eq_true rfl) (fun _ => rfl) (fun _ => rfl) (st_Model_18 (zsc s 3316 300) ((s.1 3317) + 2)) ?_
      cases hf
      exact z_vret rfl dX10_signWord_97 (Nat.zero_le _) (Nat.zero_le _) ⟨rfl, rfl⟩
  · have hf := zifp hf c62
    refine z_iconst 1 dX10_signWord_65 (by decide +kernel) ?_
    refine z_goto 84 dX10_signWord_66 (by decide) ?_
    refine z_putf dX10_signWord_84 fX10_82 wX10_16 (at_Model s) (Nat.le_of_ble_eq_true rfl) (fun _ => rfl) (fun _ => rfl) (st_Model_16 s 1) ?_
    refine z_aload_n dX10_signWord_87 rfl ?_
    refine z_aload_n dX10_signWord_88 rfl ?_
    refine z_getf dX10_signWord_89 fX10_85 (at_Model (zsc s 3316 1)) rfl ?_
    refine z_iconst 2 dX10_signWord_92 (by decide +kernel) ?_
    refine z_iadd dX10_signWord_93 ?_
    refine z_putf dX10_signWord_94 fX10_88 wX10_18 (at_Model (zsc s 3316 1)) (Nat.le_of_ble_eq_true rfl) (fun _ => rfl) (fun _ => rfl) (st_Model_18 (zsc s 3316 1) ((s.1 3317) + 2)) ?_
    cases hf
    exact z_vret rfl dX10_signWord_97 (Nat.zero_le _) (Nat.zero_le _) ⟨rfl, rfl⟩
noncomputable def fX10_signWord_J32 (N : Nat) (p0 : Int32)  (s : zS) : Option (Unit × zS) := zbn (fX10_at N ((s.1 3317) + 1) s) (fun x1 s2 => if x1 = p0 then fX10_signWord_J55 N p0  s2 else zbn (fX10_bad N 1 (s2.1 3317) s2) (fun x4 s5 => fX10_signWord_J55 N p0  s5))
set_option maxHeartbeats 400000 in
set_option maxRecDepth 100000 in
theorem tX10_signWord_J32 {g : zGl} (hok : zGok g) (d : Nat) (hd : 1 ≤ d) (N : Nat) (p0 : Int32)  {mc ms n0 : Nat}  {s s' : zS} {w : Unit} (hf : fX10_signWord_J32 N p0  s = some (w, s')) : zW g mX10_signWord d mc ms n0 (zret none (zHp s')) 0 0 (zHp s) [some (.ref 33), some (.int p0), none] [] 32 := by
  unfold fX10_signWord_J32 at hf
  refine z_aload_n dX10_signWord_32 rfl ?_
  refine z_aload_n dX10_signWord_33 rfl ?_
  refine z_getf dX10_signWord_34 fX10_85 (at_Model s) rfl ?_
  refine z_iconst 1 dX10_signWord_37 (by decide +kernel) ?_
  refine z_iadd dX10_signWord_38 ?_
  obtain ⟨x1, s2, q3, hf⟩ := zbn_of hf
  refine z_cV (as := [_]) hok dX10_signWord_39 kX10_113 (tX10_at hok (d - 1) N ((s.1 3317) + 1)  q3) rfl (at_Model s) rfl rfl (by omega) (Nat.le_of_ble_eq_true rfl) (Nat.zero_le _) (Nat.zero_le _) rfl ?_
  refine z_iload_n dX10_signWord_42 rfl ?_
  refine z_icmp_eq 55 dX10_signWord_43 (by decide) (fun c43 => ?_) (fun c43 => ?_)
  · have hf := zifp hf c43
    refine z_mask (ls' := [_, _, _]) [true, true, false] rfl ?_
    exact tX10_signWord_J55 hok d (by omega) N p0   hf
  · have hf := zifn hf c43
    refine z_aload_n dX10_signWord_46 rfl ?_
    refine z_iconst 1 dX10_signWord_47 (by decide +kernel) ?_
    refine z_aload_n dX10_signWord_48 rfl ?_
    refine z_getf dX10_signWord_49 fX10_85 (at_Model s2) rfl ?_
    obtain ⟨x4, s5, q6, hf⟩ := zbn_of hf
    refine z_cV (as := [_, _]) hok dX10_signWord_52 kX10_91 (tX10_bad hok (d - 1) N 1 (s2.1 3317)  q6) rfl (at_Model s2) rfl rfl (by omega) (Nat.le_of_ble_eq_true rfl) (Nat.zero_le _) (Nat.zero_le _) rfl ?_
    refine z_mask (ls' := [_, _, _]) [true, true, false] rfl ?_
    exact tX10_signWord_J55 hok d (by omega) N p0   hf
noncomputable def fX10_signWord (N : Nat) (p0 : Int32) (s : zS) : Option (Unit × zS) := if p0 = 60 then fX10_signWord_J32 N p0  (zsc (zsc (zsc s 3315 5) 3316 p0) 3318 ((s.1 3317) + 1)) else if p0 = 62 then fX10_signWord_J32 N p0  (zsc (zsc (zsc s 3315 5) 3316 p0) 3318 ((s.1 3317) + 1)) else if p0 = 44 then some ((), (zsc (zsc (zsc s 3315 5) 3316 p0) 3318 ((s.1 3317) + 1))) else if p0 = 40 then some ((), (zsc (zsc (zsc s 3315 5) 3316 p0) 3318 ((s.1 3317) + 1))) else if p0 = 41 then some ((), (zsc (zsc (zsc s 3315 5) 3316 p0) 3318 ((s.1 3317) + 1))) else if p0 = 58 then some ((), (zsc (zsc (zsc s 3315 5) 3316 p0) 3318 ((s.1 3317) + 1))) else if p0 = 43 then some ((), (zsc (zsc (zsc s 3315 5) 3316 p0) 3318 ((s.1 3317) + 1))) else if p0 = 45 then some ((), (zsc (zsc (zsc s 3315 5) 3316 p0) 3318 ((s.1 3317) + 1))) else if p0 = 42 then some ((), (zsc (zsc (zsc s 3315 5) 3316 p0) 3318 ((s.1 3317) + 1))) else if p0 = 47 then some ((), (zsc (zsc (zsc s 3315 5) 3316 p0) 3318 ((s.1 3317) + 1))) else if p0 = 37 then some ((), (zsc (zsc (zsc s 3315 5) 3316 p0) 3318 ((s.1 3317) + 1))) else if p0 = 38 then some ((), (zsc (zsc (zsc s 3315 5) 3316 p0) 3318 ((s.1 3317) + 1))) else if p0 = 124 then some ((), (zsc (zsc (zsc s 3315 5) 3316 p0) 3318 ((s.1 3317) + 1))) else if p0 = 94 then some ((), (zsc (zsc (zsc s 3315 5) 3316 p0) 3318 ((s.1 3317) + 1))) else if p0 = 126 then some ((), (zsc (zsc (zsc s 3315 5) 3316 p0) 3318 ((s.1 3317) + 1))) else zbn (fX10_bad N 1 (s.1 3317) (zsc (zsc (zsc s 3315 5) 3316 p0) 3318 ((s.1 3317) + 1))) (fun x7 s8 => some ((), s8))
set_option maxHeartbeats 400000 in
set_option maxRecDepth 100000 in
theorem tX10_signWord {g : zGl} (hok : zGok g) (d : Nat) (hd : 1 ≤ d) (N : Nat) (p0 : Int32)  {s s' : zS} {w : Unit} (hf : fX10_signWord N p0 s = some (w, s')) : zMet g mX10_signWord d 0 0 [.ref 33, .int p0] (zHp s) (zret none (zHp s')) := by
  refine zMet.ofW (by decide +kernel) (Nat.le_of_ble_eq_true rfl) ?_
  show zW g mX10_signWord d 0 0 51 _ 0 0 (zHp s) [some (.ref 33), some (.int p0), none] [] 0
  unfold fX10_signWord at hf
  refine z_aload_n dX10_signWord_0 rfl ?_
  refine z_iconst 5 dX10_signWord_1 (by decide +kernel) ?_
  refine z_putf dX10_signWord_2 fX10_79 wX10_15 (at_Model s) (Nat.le_of_ble_eq_true rfl) (fun _ => rfl) (fun _ => rfl) (st_Model_15 s 5) ?_
  refine z_aload_n dX10_signWord_5 rfl ?_
  refine z_iload_n dX10_signWord_6 rfl ?_
  refine z_putf dX10_signWord_7 fX10_82 wX10_16 (at_Model (zsc s 3315 5)) (Nat.le_of_ble_eq_true rfl) (fun _ => rfl) (fun _ => rfl) (st_Model_16 (zsc s 3315 5) p0) ?_
  refine z_aload_n dX10_signWord_10 rfl ?_
  refine z_aload_n dX10_signWord_11 rfl ?_
  refine z_getf dX10_signWord_12 fX10_85 (at_Model (zsc (zsc s 3315 5) 3316 p0)) rfl ?_
  refine z_iconst 1 dX10_signWord_15 (by decide +kernel) ?_
  refine z_iadd dX10_signWord_16 ?_
  refine z_putf dX10_signWord_17 fX10_88 wX10_18 (at_Model (zsc (zsc s 3315 5) 3316 p0)) (Nat.le_of_ble_eq_true rfl) (fun _ => rfl) (fun _ => rfl) (st_Model_18 (zsc (zsc s 3315 5) 3316 p0) ((s.1 3317) + 1)) ?_
  refine z_iload_n dX10_signWord_20 rfl ?_
  refine z_bipush 60 dX10_signWord_21 (by decide +kernel) ?_
  refine z_icmp_eq 32 dX10_signWord_23 (by decide) (fun c23 => ?_) (fun c23 => ?_)
  · have hf := zifp hf c23
    refine z_mask (ls' := [_, _, _]) [true, true, false] rfl ?_
    exact tX10_signWord_J32 hok d (by omega) N p0   hf
  · have hf := zifn hf c23
    refine z_iload_n dX10_signWord_26 rfl ?_
    refine z_bipush 62 dX10_signWord_27 (by decide +kernel) ?_
    refine z_icmp_ne 98 dX10_signWord_29 (by decide) (fun c29 => ?_) (fun c29 => ?_)
    · have hf := zifn hf c29
      refine z_iload_n dX10_signWord_98 rfl ?_
      refine z_bipush 44 dX10_signWord_99 (by decide +kernel) ?_
      refine z_icmp_eq 176 dX10_signWord_101 (by decide) (fun c101 => ?_) (fun c101 => ?_)
      · have hf := zifp hf c101
        refine z_iconst 1 dX10_signWord_176 (by decide +kernel) ?_
        refine z_goto 181 dX10_signWord_177 (by decide) ?_
        refine z_istore_n (ls' := [_, _, _]) dX10_signWord_181 (by decide) rfl ?_
        refine z_iload_n dX10_signWord_182 rfl ?_
        refine z_if_ne 195 dX10_signWord_183 (by decide) (fun c183 => ?_) (fun c183 => ?_)
        · skip
          cases hf
          exact z_vret rfl dX10_signWord_195 (Nat.zero_le _) (Nat.zero_le _) ⟨rfl, rfl⟩
        · exact absurd (show (1 : Int32) = 0 from c183) (by decide)
      · have hf := zifn hf c101
        refine z_iload_n dX10_signWord_104 rfl ?_
        refine z_bipush 40 dX10_signWord_105 (by decide +kernel) ?_
        refine z_icmp_eq 176 dX10_signWord_107 (by decide) (fun c107 => ?_) (fun c107 => ?_)
        · have hf := zifp hf c107
          refine z_iconst 1 dX10_signWord_176 (by decide +kernel) ?_
          refine z_goto 181 dX10_signWord_177 (by decide) ?_
          refine z_istore_n (ls' := [_, _, _]) dX10_signWord_181 (by decide) rfl ?_
          refine z_iload_n dX10_signWord_182 rfl ?_
          refine z_if_ne 195 dX10_signWord_183 (by decide) (fun c183 => ?_) (fun c183 => ?_)
          · skip
            cases hf
            exact z_vret rfl dX10_signWord_195 (Nat.zero_le _) (Nat.zero_le _) ⟨rfl, rfl⟩
          · exact absurd (show (1 : Int32) = 0 from c183) (by decide)
        · have hf := zifn hf c107
          refine z_iload_n dX10_signWord_110 rfl ?_
          refine z_bipush 41 dX10_signWord_111 (by decide +kernel) ?_
          refine z_icmp_eq 176 dX10_signWord_113 (by decide) (fun c113 => ?_) (fun c113 => ?_)
          · have hf := zifp hf c113
            refine z_iconst 1 dX10_signWord_176 (by decide +kernel) ?_
            refine z_goto 181 dX10_signWord_177 (by decide) ?_
            refine z_istore_n (ls' := [_, _, _]) dX10_signWord_181 (by decide) rfl ?_
            refine z_iload_n dX10_signWord_182 rfl ?_
            refine z_if_ne 195 dX10_signWord_183 (by decide) (fun c183 => ?_) (fun c183 => ?_)
            · skip
              cases hf
              exact z_vret rfl dX10_signWord_195 (Nat.zero_le _) (Nat.zero_le _) ⟨rfl, rfl⟩
            · exact absurd (show (1 : Int32) = 0 from c183) (by decide)
          · have hf := zifn hf c113
            refine z_iload_n dX10_signWord_116 rfl ?_
            refine z_bipush 58 dX10_signWord_117 (by decide +kernel) ?_
            refine z_icmp_eq 176 dX10_signWord_119 (by decide) (fun c119 => ?_) (fun c119 => ?_)
            · have hf := zifp hf c119
              refine z_iconst 1 dX10_signWord_176 (by decide +kernel) ?_
              refine z_goto 181 dX10_signWord_177 (by decide) ?_
              refine z_istore_n (ls' := [_, _, _]) dX10_signWord_181 (by decide) rfl ?_
              refine z_iload_n dX10_signWord_182 rfl ?_
              refine z_if_ne 195 dX10_signWord_183 (by decide) (fun c183 => ?_) (fun c183 => ?_)
              · skip
                cases hf
                exact z_vret rfl dX10_signWord_195 (Nat.zero_le _) (Nat.zero_le _) ⟨rfl, rfl⟩
              · exact absurd (show (1 : Int32) = 0 from c183) (by decide)
            · have hf := zifn hf c119
              refine z_iload_n dX10_signWord_122 rfl ?_
              refine z_bipush 43 dX10_signWord_123 (by decide +kernel) ?_
              refine z_icmp_eq 176 dX10_signWord_125 (by decide) (fun c125 => ?_) (fun c125 => ?_)
              · have hf := zifp hf c125
                refine z_iconst 1 dX10_signWord_176 (by decide +kernel) ?_
                refine z_goto 181 dX10_signWord_177 (by decide) ?_
                refine z_istore_n (ls' := [_, _, _]) dX10_signWord_181 (by decide) rfl ?_
                refine z_iload_n dX10_signWord_182 rfl ?_
                refine z_if_ne 195 dX10_signWord_183 (by decide) (fun c183 => ?_) (fun c183 => ?_)
                · skip
                  cases hf
                  exact z_vret rfl dX10_signWord_195 (Nat.zero_le _) (Nat.zero_le _) ⟨rfl, rfl⟩
                · exact absurd (show (1 : Int32) = 0 from c183) (by decide)
              · have hf := zifn hf c125
                refine z_iload_n dX10_signWord_128 rfl ?_
                refine z_bipush 45 dX10_signWord_129 (by decide +kernel) ?_
                refine z_icmp_eq 176 dX10_signWord_131 (by decide) (fun c131 => ?_) (fun c131 => ?_)
                · have hf := zifp hf c131
                  refine z_iconst 1 dX10_signWord_176 (by decide +kernel) ?_
                  refine z_goto 181 dX10_signWord_177 (by decide) ?_
                  refine z_istore_n (ls' := [_, _, _]) dX10_signWord_181 (by decide) rfl ?_
                  refine z_iload_n dX10_signWord_182 rfl ?_
                  refine z_if_ne 195 dX10_signWord_183 (by decide) (fun c183 => ?_) (fun c183 => ?_)
                  · skip
                    cases hf
                    exact z_vret rfl dX10_signWord_195 (Nat.zero_le _) (Nat.zero_le _) ⟨rfl, rfl⟩
                  · exact absurd (show (1 : Int32) = 0 from c183) (by decide)
                · have hf := zifn hf c131
                  refine z_iload_n dX10_signWord_134 rfl ?_
                  refine z_bipush 42 dX10_signWord_135 (by decide +kernel) ?_
                  refine z_icmp_eq 176 dX10_signWord_137 (by decide) (fun c137 => ?_) (fun c137 => ?_)
                  · have hf := zifp hf c137
                    refine z_iconst 1 dX10_signWord_176 (by decide +kernel) ?_
                    refine z_goto 181 dX10_signWord_177 (by decide) ?_
                    refine z_istore_n (ls' := [_, _, _]) dX10_signWord_181 (by decide) rfl ?_
                    refine z_iload_n dX10_signWord_182 rfl ?_
                    refine z_if_ne 195 dX10_signWord_183 (by decide) (fun c183 => ?_) (fun c183 => ?_)
                    · skip
                      cases hf
                      exact z_vret rfl dX10_signWord_195 (Nat.zero_le _) (Nat.zero_le _) ⟨rfl, rfl⟩
                    · exact absurd (show (1 : Int32) = 0 from c183) (by decide)
                  · have hf := zifn hf c137
                    refine z_iload_n dX10_signWord_140 rfl ?_
                    refine z_bipush 47 dX10_signWord_141 (by decide +kernel) ?_
                    refine z_icmp_eq 176 dX10_signWord_143 (by decide) (fun c143 => ?_) (fun c143 => ?_)
                    · have hf := zifp hf c143
                      refine z_iconst 1 dX10_signWord_176 (by decide +kernel) ?_
                      refine z_goto 181 dX10_signWord_177 (by decide) ?_
                      refine z_istore_n (ls' := [_, _, _]) dX10_signWord_181 (by decide) rfl ?_
                      refine z_iload_n dX10_signWord_182 rfl ?_
                      refine z_if_ne 195 dX10_signWord_183 (by decide) (fun c183 => ?_) (fun c183 => ?_)
                      · skip
                        cases hf
                        exact z_vret rfl dX10_signWord_195 (Nat.zero_le _) (Nat.zero_le _) ⟨rfl, rfl⟩
                      · exact absurd (show (1 : Int32) = 0 from c183) (by decide)
                    · have hf := zifn hf c143
                      refine z_iload_n dX10_signWord_146 rfl ?_
                      refine z_bipush 37 dX10_signWord_147 (by decide +kernel) ?_
                      refine z_icmp_eq 176 dX10_signWord_149 (by decide) (fun c149 => ?_) (fun c149 => ?_)
                      · have hf := zifp hf c149
                        refine z_iconst 1 dX10_signWord_176 (by decide +kernel) ?_
                        refine z_goto 181 dX10_signWord_177 (by decide) ?_
                        refine z_istore_n (ls' := [_, _, _]) dX10_signWord_181 (by decide) rfl ?_
                        refine z_iload_n dX10_signWord_182 rfl ?_
                        refine z_if_ne 195 dX10_signWord_183 (by decide) (fun c183 => ?_) (fun c183 => ?_)
                        · skip
                          cases hf
                          exact z_vret rfl dX10_signWord_195 (Nat.zero_le _) (Nat.zero_le _) ⟨rfl, rfl⟩
                        · exact absurd (show (1 : Int32) = 0 from c183) (by decide)
                      · have hf := zifn hf c149
                        refine z_iload_n dX10_signWord_152 rfl ?_
                        refine z_bipush 38 dX10_signWord_153 (by decide +kernel) ?_
                        refine z_icmp_eq 176 dX10_signWord_155 (by decide) (fun c155 => ?_) (fun c155 => ?_)
                        · have hf := zifp hf c155
                          refine z_iconst 1 dX10_signWord_176 (by decide +kernel) ?_
                          refine z_goto 181 dX10_signWord_177 (by decide) ?_
                          refine z_istore_n (ls' := [_, _, _]) dX10_signWord_181 (by decide) rfl ?_
                          refine z_iload_n dX10_signWord_182 rfl ?_
                          refine z_if_ne 195 dX10_signWord_183 (by decide) (fun c183 => ?_) (fun c183 => ?_)
                          · skip
                            cases hf
                            exact z_vret rfl dX10_signWord_195 (Nat.zero_le _) (Nat.zero_le _) ⟨rfl, rfl⟩
                          · exact absurd (show (1 : Int32) = 0 from c183) (by decide)
                        · have hf := zifn hf c155
                          refine z_iload_n dX10_signWord_158 rfl ?_
                          refine z_bipush 124 dX10_signWord_159 (by decide +kernel) ?_
                          refine z_icmp_eq 176 dX10_signWord_161 (by decide) (fun c161 => ?_) (fun c161 => ?_)
                          · have hf := zifp hf c161
                            refine z_iconst 1 dX10_signWord_176 (by decide +kernel) ?_
                            refine z_goto 181 dX10_signWord_177 (by decide) ?_
                            refine z_istore_n (ls' := [_, _, _]) dX10_signWord_181 (by decide) rfl ?_
                            refine z_iload_n dX10_signWord_182 rfl ?_
                            refine z_if_ne 195 dX10_signWord_183 (by decide) (fun c183 => ?_) (fun c183 => ?_)
                            · skip
                              cases hf
                              exact z_vret rfl dX10_signWord_195 (Nat.zero_le _) (Nat.zero_le _) ⟨rfl, rfl⟩
                            · exact absurd (show (1 : Int32) = 0 from c183) (by decide)
                          · have hf := zifn hf c161
                            refine z_iload_n dX10_signWord_164 rfl ?_
                            refine z_bipush 94 dX10_signWord_165 (by decide +kernel) ?_
                            refine z_icmp_eq 176 dX10_signWord_167 (by decide) (fun c167 => ?_) (fun c167 => ?_)
                            · have hf := zifp hf c167
                              refine z_iconst 1 dX10_signWord_176 (by decide +kernel) ?_
                              refine z_goto 181 dX10_signWord_177 (by decide) ?_
                              refine z_istore_n (ls' := [_, _, _]) dX10_signWord_181 (by decide) rfl ?_
                              refine z_iload_n dX10_signWord_182 rfl ?_
                              refine z_if_ne 195 dX10_signWord_183 (by decide) (fun c183 => ?_) (fun c183 => ?_)
                              · skip
                                cases hf
                                exact z_vret rfl dX10_signWord_195 (Nat.zero_le _) (Nat.zero_le _) ⟨rfl, rfl⟩
                              · exact absurd (show (1 : Int32) = 0 from c183) (by decide)
                            · have hf := zifn hf c167
                              refine z_iload_n dX10_signWord_170 rfl ?_
                              refine z_bipush 126 dX10_signWord_171 (by decide +kernel) ?_
                              refine z_icmp_ne 180 dX10_signWord_173 (by decide) (fun c173 => ?_) (fun c173 => ?_)
                              · have hf := zifn hf c173
                                refine z_iconst 0 dX10_signWord_180 (by decide +kernel) ?_
                                refine z_istore_n (ls' := [_, _, _]) dX10_signWord_181 (by decide) rfl ?_
                                refine z_iload_n dX10_signWord_182 rfl ?_
                                refine z_if_ne 195 dX10_signWord_183 (by decide) (fun c183 => ?_) (fun c183 => ?_)
                                · exact absurd (show (0 : Int32) = 0 by decide) c183
                                · skip
                                  refine z_aload_n dX10_signWord_186 rfl ?_
                                  refine z_iconst 1 dX10_signWord_187 (by decide +kernel) ?_
                                  refine z_aload_n dX10_signWord_188 rfl ?_
                                  refine z_getf dX10_signWord_189 fX10_85 (at_Model (zsc (zsc (zsc s 3315 5) 3316 p0) 3318 ((s.1 3317) + 1))) rfl ?_
                                  obtain ⟨x7, s8, q9, hf⟩ := zbn_of hf
                                  refine z_cV (as := [_, _]) hok dX10_signWord_192 kX10_91 (tX10_bad hok (d - 1) N 1 (s.1 3317)  q9) rfl (at_Model (zsc (zsc (zsc s 3315 5) 3316 p0) 3318 ((s.1 3317) + 1))) rfl rfl (by omega) (Nat.le_of_ble_eq_true rfl) (Nat.zero_le _) (Nat.zero_le _) rfl ?_
                                  cases hf
                                  exact z_vret rfl dX10_signWord_195 (Nat.zero_le _) (Nat.zero_le _) ⟨rfl, rfl⟩
                              · have hf := zifp hf c173
                                refine z_iconst 1 dX10_signWord_176 (by decide +kernel) ?_
                                refine z_goto 181 dX10_signWord_177 (by decide) ?_
                                refine z_istore_n (ls' := [_, _, _]) dX10_signWord_181 (by decide) rfl ?_
                                refine z_iload_n dX10_signWord_182 rfl ?_
                                refine z_if_ne 195 dX10_signWord_183 (by decide) (fun c183 => ?_) (fun c183 => ?_)
                                · skip
                                  cases hf
                                  exact z_vret rfl dX10_signWord_195 (Nat.zero_le _) (Nat.zero_le _) ⟨rfl, rfl⟩
                                · exact absurd (show (1 : Int32) = 0 from c183) (by decide)
    · have hf := zifp hf c29
      refine z_mask (ls' := [_, _, _]) [true, true, false] rfl ?_
      exact tX10_signWord_J32 hok d (by omega) N p0   hf

noncomputable def fX10_next_L5S (N : Nat)  (rec : Int32 → zS → Option ((Unit × zS) ⊕ (Int32 × zS))) (v1 : Int32) (s : zS) : Option ((Unit × zS) ⊕ (Int32 × zS)) := if (s.1 3303) ≤ v1 then some (.inr (v1, s)) else if zga v1 (zlen 35) = true then if (s.2.1 35 v1.toNatClampNeg) = 32 then rec (v1 + 1) s else if zga v1 (zlen 35) = true then if (s.2.1 35 v1.toNatClampNeg) = 9 then rec (v1 + 1) s else some (.inr (v1, s)) else none else none
noncomputable def fX10_next_L5 (N : Nat)  (n : Nat) : Int32 → zS → Option ((Unit × zS) ⊕ (Int32 × zS)) := Nat.rec (motive := fun _ => Int32 → zS → Option ((Unit × zS) ⊕ (Int32 × zS))) (fun _ _ => none) (fun _ rec => fX10_next_L5S N  rec) n
set_option maxHeartbeats 400000 in
set_option maxRecDepth 100000 in
theorem tX10_next_L5 {g : zGl} (hok : zGok g) (d : Nat)  (N : Nat)   {mc ms n0 : Nat} {Q : zO → List zE → Prop} (n : Nat) : ∀ (v1 : Int32) (s : zS) (r : (Unit × zS) ⊕ (Int32 × zS)) (hf : fX10_next_L5 N  n v1 s = some r) (k1 : ∀ w s', r = .inl (w, s') → Q (.inl none) (zHp s')) (k2 : ∀ (y1 : Int32) (s' : zS), r = .inr (y1, s') → zW g mX10_next d mc ms n0 Q 0 0 (zHp s') [some (.ref 33), some (.int y1), none] [] 41), zW g mX10_next d mc ms n0 Q 0 0 (zHp s) [some (.ref 33), some (.int v1), none] [] 5 := by
  induction n with
  | zero => intro v1 s r hf; cases hf
  | succ n ih =>
    intro v1 s r hf k1 k2
    have hrec : ∀ (v1 : Int32) (s : zS) (r1 : (Unit × zS) ⊕ (Int32 × zS)), fX10_next_L5 N  n v1 s = some r1 → r1 = r → zW g mX10_next d mc ms n0 Q 0 0 (zHp s) [some (.ref 33), some (.int v1), none] [] 5 := fun v1 s r1 h e => ih v1 s r1 h (by subst e; exact k1) (by subst e; exact k2)
    have hrec : ∀ (v1 : Int32) (s : zS), fX10_next_L5 N  n v1 s = some r → zW g mX10_next d mc ms n0 Q 0 0 (zHp s) [some (.ref 33), some (.int v1), none] [] 5 := fun v1 s h => hrec v1 s r h rfl
    have hf : fX10_next_L5S N  (fX10_next_L5 N  n) v1 s = some r := hf
    unfold fX10_next_L5S at hf
    refine z_iload_n dX10_next_5 rfl ?_
    refine z_aload_n dX10_next_6 rfl ?_
    refine z_getf dX10_next_7 fX10_69 (at_Model s) rfl ?_
    refine z_icmp_ge 41 dX10_next_10 (by decide) (fun c10 => ?_) (fun c10 => ?_)
    · have hf := zifp hf c10
      cases hf
      refine z_mask (ls' := [_, _, _]) [true, true, false] rfl ?_
      exact k2 _ _ rfl
    · have hf := zifn hf c10
      refine z_aload_n dX10_next_13 rfl ?_
      refine z_getf dX10_next_14 fX10_13 (at_Model s) rfl ?_
      refine z_iload_n dX10_next_17 rfl ?_
      obtain ⟨hi1, hf⟩ := zifs hf
      refine z_iald dX10_next_18 (at_arr s 35 (by decide)) (zga_in hi1) ?_
      refine z_bipush 32 dX10_next_19 (by decide +kernel) ?_
      refine z_icmp_eq 35 dX10_next_21 (by decide) (fun c21 => ?_) (fun c21 => ?_)
      · have hf := zifp hf c21
        refine z_iinc (ls' := [_, _, _]) (v1 + 1) dX10_next_35 rfl rfl (by decide) rfl ?_
        refine z_goto 5 dX10_next_38 (by decide) ?_
        refine z_mask (ls' := [_, _, _]) [true, true, false] rfl ?_
        exact hrec (v1 + 1) s hf
      · have hf := zifn hf c21
        refine z_aload_n dX10_next_24 rfl ?_
        refine z_getf dX10_next_25 fX10_13 (at_Model s) rfl ?_
        refine z_iload_n dX10_next_28 rfl ?_
        obtain ⟨hi2, hf⟩ := zifs hf
        refine z_iald dX10_next_29 (at_arr s 35 (by decide)) (zga_in hi2) ?_
        refine z_bipush 9 dX10_next_30 (by decide +kernel) ?_
        refine z_icmp_ne 41 dX10_next_32 (by decide) (fun c32 => ?_) (fun c32 => ?_)
        · have hf := zifn hf c32
          cases hf
          refine z_mask (ls' := [_, _, _]) [true, true, false] rfl ?_
          exact k2 _ _ rfl
        · have hf := zifp hf c32
          refine z_iinc (ls' := [_, _, _]) (v1 + 1) dX10_next_35 rfl rfl (by decide) rfl ?_
          refine z_goto 5 dX10_next_38 (by decide) ?_
          refine z_mask (ls' := [_, _, _]) [true, true, false] rfl ?_
          exact hrec (v1 + 1) s hf
noncomputable def fX10_next_J125 (N : Nat)  (v1 : Int32) (s : zS) : Option (Unit × zS) := if v1 = (s.1 3303) then some ((), (zsc (zsc (zsc s 3317 v1) 3318 v1) 3315 0)) else if zga v1 (zlen 35) = true then if (s.2.1 35 v1.toNatClampNeg) = 10 then some ((), (zsc (zsc (zsc s 3317 v1) 3318 v1) 3315 0)) else if zga v1 (zlen 35) = true then zbn (fX10_isLetter N (s.2.1 35 v1.toNatClampNeg) (zsc (zsc s 3317 v1) 3318 v1)) (fun x10 s11 => if x10 = 0 then zbn (fX10_isDigit N (s.2.1 35 v1.toNatClampNeg) s11) (fun x13 s14 => if x13 = 0 then if (s.2.1 35 v1.toNatClampNeg) = 39 then zbn (fX10_character N  s14) (fun x22 s23 => some ((), s23)) else if (s.2.1 35 v1.toNatClampNeg) = 34 then zbn (fX10_stringWord N  s14) (fun x19 s20 => some ((), s20)) else zbn (fX10_signWord N (s.2.1 35 v1.toNatClampNeg) s14) (fun x16 s17 => some ((), s17)) else zbn (fX10_numberWord N  s14) (fun x25 s26 => some ((), s26))) else zbn (fX10_nameWord N  s11) (fun x28 s29 => some ((), s29))) else none else none
set_option maxHeartbeats 400000 in
set_option maxRecDepth 100000 in
theorem tX10_next_J125 {g : zGl} (hok : zGok g) (d : Nat) (hd : 3 ≤ d) (N : Nat)   {mc ms n0 : Nat} (v1 : Int32) {s s' : zS} {w : Unit} (hf : fX10_next_J125 N  v1 s = some (w, s')) : zW g mX10_next d mc ms n0 (zret none (zHp s')) 0 0 (zHp s) [some (.ref 33), some (.int v1), none] [] 125 := by
  unfold fX10_next_J125 at hf
  refine z_aload_n dX10_next_125 rfl ?_
  refine z_iload_n dX10_next_126 rfl ?_
  refine z_putf dX10_next_127 fX10_85 wX10_17 (at_Model s) (Nat.le_of_ble_eq_true rfl) (fun _ => rfl) (fun _ => rfl) (st_Model_17 s v1) ?_
  refine z_aload_n dX10_next_130 rfl ?_
  refine z_iload_n dX10_next_131 rfl ?_
  refine z_putf dX10_next_132 fX10_88 wX10_18 (at_Model (zsc s 3317 v1)) (Nat.le_of_ble_eq_true rfl) (fun _ => rfl) (fun _ => rfl) (st_Model_18 (zsc s 3317 v1) v1) ?_
  refine z_iload_n dX10_next_135 rfl ?_
  refine z_aload_n dX10_next_136 rfl ?_
  refine z_getf dX10_next_137 fX10_69 (at_Model (zsc (zsc s 3317 v1) 3318 v1)) rfl ?_
  refine z_icmp_eq 154 dX10_next_140 (by decide) (fun c140 => ?_) (fun c140 => ?_)
  · have hf := zifp hf c140
    refine z_aload_n dX10_next_154 rfl ?_
    refine z_iconst 0 dX10_next_155 (by decide +kernel) ?_
    refine z_putf dX10_next_156 fX10_79 wX10_15 (at_Model (zsc (zsc s 3317 v1) 3318 v1)) (Nat.le_of_ble_eq_true rfl) (fun _ => rfl) (fun _ => rfl) (st_Model_15 (zsc (zsc s 3317 v1) 3318 v1) 0) ?_
    cases hf
    exact z_vret rfl dX10_next_159 (Nat.zero_le _) (Nat.zero_le _) ⟨rfl, rfl⟩
  · have hf := zifn hf c140
    refine z_aload_n dX10_next_143 rfl ?_
    refine z_getf dX10_next_144 fX10_13 (at_Model (zsc (zsc s 3317 v1) 3318 v1)) rfl ?_
    refine z_iload_n dX10_next_147 rfl ?_
    obtain ⟨hi8, hf⟩ := zifs hf
    refine z_iald dX10_next_148 (at_arr (zsc (zsc s 3317 v1) 3318 v1) 35 (by decide)) (zga_in hi8) ?_
    refine z_bipush 10 dX10_next_149 (by decide +kernel) ?_
    refine z_icmp_ne 160 dX10_next_151 (by decide) (fun c151 => ?_) (fun c151 => ?_)
    · have hf := zifn hf c151
      refine z_aload_n dX10_next_160 rfl ?_
      refine z_getf dX10_next_161 fX10_13 (at_Model (zsc (zsc s 3317 v1) 3318 v1)) rfl ?_
      refine z_iload_n dX10_next_164 rfl ?_
      obtain ⟨hi9, hf⟩ := zifs hf
      refine z_iald dX10_next_165 (at_arr (zsc (zsc s 3317 v1) 3318 v1) 35 (by decide)) (zga_in hi9) ?_
      refine z_istore_n (ls' := [_, _, _]) dX10_next_166 (by decide) rfl ?_
      refine z_iload_n dX10_next_167 rfl ?_
      obtain ⟨x10, s11, q12, hf⟩ := zbn_of hf
      refine z_cS (as := [_]) hok dX10_next_168 kX10_72 (tX10_isLetter hok (d - 1) N (s.2.1 35 v1.toNatClampNeg)  q12) rfl rfl (by omega) (Nat.le_of_ble_eq_true rfl) (Nat.zero_le _) (Nat.zero_le _) rfl ?_
      refine z_if_eq 181 dX10_next_171 (by decide) (fun c171 => ?_) (fun c171 => ?_)
      · have hf := zifp hf c171
        refine z_iload_n dX10_next_181 rfl ?_
        obtain ⟨x13, s14, q15, hf⟩ := zbn_of hf
        refine z_cS (as := [_]) hok dX10_next_182 kX10_76 (tX10_isDigit hok (d - 1) N (s.2.1 35 v1.toNatClampNeg)  q15) rfl rfl (by omega) (Nat.le_of_ble_eq_true rfl) (Nat.zero_le _) (Nat.zero_le _) rfl ?_
        refine z_if_eq 195 dX10_next_185 (by decide) (fun c185 => ?_) (fun c185 => ?_)
        · have hf := zifp hf c185
          refine z_iload_n dX10_next_195 rfl ?_
          refine z_bipush 39 dX10_next_196 (by decide +kernel) ?_
          refine z_icmp_ne 208 dX10_next_198 (by decide) (fun c198 => ?_) (fun c198 => ?_)
          · have hf := zifn hf c198
            refine z_iload_n dX10_next_208 rfl ?_
            refine z_bipush 34 dX10_next_209 (by decide +kernel) ?_
            refine z_icmp_ne 221 dX10_next_211 (by decide) (fun c211 => ?_) (fun c211 => ?_)
            · have hf := zifn hf c211
              refine z_aload_n dX10_next_221 rfl ?_
              refine z_iload_n dX10_next_222 rfl ?_
              obtain ⟨x16, s17, q18, hf⟩ := zbn_of hf
              refine z_cV (as := [_]) hok dX10_next_223 kX10_106 (tX10_signWord hok (d - 1) (by omega) N (s.2.1 35 v1.toNatClampNeg)  q18) rfl (at_Model s14) rfl rfl (by omega) (Nat.le_of_ble_eq_true rfl) (Nat.zero_le _) (Nat.zero_le _) rfl ?_
              cases hf
              exact z_vret rfl dX10_next_226 (Nat.zero_le _) (Nat.zero_le _) ⟨rfl, rfl⟩
            · have hf := zifp hf c211
              refine z_aload_n dX10_next_214 rfl ?_
              obtain ⟨x19, s20, q21, hf⟩ := zbn_of hf
              refine z_cV (as := []) hok dX10_next_215 kX10_103 (tX10_stringWord hok (d - 1) (by omega) N   q21) rfl (at_Model s14) rfl rfl (by omega) (Nat.le_of_ble_eq_true rfl) (Nat.zero_le _) (Nat.zero_le _) rfl ?_
              refine z_goto 226 dX10_next_218 (by decide) ?_
              cases hf
              exact z_vret rfl dX10_next_226 (Nat.zero_le _) (Nat.zero_le _) ⟨rfl, rfl⟩
          · have hf := zifp hf c198
            refine z_aload_n dX10_next_201 rfl ?_
            obtain ⟨x22, s23, q24, hf⟩ := zbn_of hf
            refine z_cV (as := []) hok dX10_next_202 kX10_100 (tX10_character hok (d - 1) (by omega) N   q24) rfl (at_Model s14) rfl rfl (by omega) (Nat.le_of_ble_eq_true rfl) (Nat.zero_le _) (Nat.zero_le _) rfl ?_
            refine z_goto 226 dX10_next_205 (by decide) ?_
            cases hf
            exact z_vret rfl dX10_next_226 (Nat.zero_le _) (Nat.zero_le _) ⟨rfl, rfl⟩
        · have hf := zifn hf c185
          refine z_aload_n dX10_next_188 rfl ?_
          obtain ⟨x25, s26, q27, hf⟩ := zbn_of hf
          refine z_cV (as := []) hok dX10_next_189 kX10_97 (tX10_numberWord hok (d - 1) (by omega) N   q27) rfl (at_Model s14) rfl rfl (by omega) (Nat.le_of_ble_eq_true rfl) (Nat.zero_le _) (Nat.zero_le _) rfl ?_
          refine z_goto 226 dX10_next_192 (by decide) ?_
          cases hf
          exact z_vret rfl dX10_next_226 (Nat.zero_le _) (Nat.zero_le _) ⟨rfl, rfl⟩
      · have hf := zifn hf c171
        refine z_aload_n dX10_next_174 rfl ?_
        obtain ⟨x28, s29, q30, hf⟩ := zbn_of hf
        refine z_cV (as := []) hok dX10_next_175 kX10_94 (tX10_nameWord hok (d - 1) (by omega) N   q30) rfl (at_Model s11) rfl rfl (by omega) (Nat.le_of_ble_eq_true rfl) (Nat.zero_le _) (Nat.zero_le _) rfl ?_
        refine z_goto 226 dX10_next_178 (by decide) ?_
        cases hf
        exact z_vret rfl dX10_next_226 (Nat.zero_le _) (Nat.zero_le _) ⟨rfl, rfl⟩
    · have hf := zifp hf c151
      refine z_aload_n dX10_next_154 rfl ?_
      refine z_iconst 0 dX10_next_155 (by decide +kernel) ?_
      refine z_putf dX10_next_156 fX10_79 wX10_15 (at_Model (zsc (zsc s 3317 v1) 3318 v1)) (Nat.le_of_ble_eq_true rfl) (fun _ => rfl) (fun _ => rfl) (st_Model_15 (zsc (zsc s 3317 v1) 3318 v1) 0) ?_
      cases hf
      exact z_vret rfl dX10_next_159 (Nat.zero_le _) (Nat.zero_le _) ⟨rfl, rfl⟩
noncomputable def fX10_next_L60S (N : Nat)  (rec : Int32 → zS → Option ((Unit × zS) ⊕ (Int32 × zS))) (v1 : Int32) (s : zS) : Option ((Unit × zS) ⊕ (Int32 × zS)) := if (s.1 3303) ≤ v1 then some (.inr (v1, s)) else if zga v1 (zlen 35) = true then if (s.2.1 35 v1.toNatClampNeg) = 10 then some (.inr (v1, s)) else if zga v1 (zlen 35) = true then if (s.2.1 35 v1.toNatClampNeg) < 32 then if zga v1 (zlen 35) = true then if (s.2.1 35 v1.toNatClampNeg) = 9 then rec (v1 + 1) s else zbn (fX10_bad N 1 v1 s) (fun x35 s36 => some (.inl ((), s36))) else none else if zga v1 (zlen 35) = true then if (s.2.1 35 v1.toNatClampNeg) ≤ 126 then rec (v1 + 1) s else if zga v1 (zlen 35) = true then if (s.2.1 35 v1.toNatClampNeg) = 9 then rec (v1 + 1) s else zbn (fX10_bad N 1 v1 s) (fun x40 s41 => some (.inl ((), s41))) else none else none else none else none
noncomputable def fX10_next_L60 (N : Nat)  (n : Nat) : Int32 → zS → Option ((Unit × zS) ⊕ (Int32 × zS)) := Nat.rec (motive := fun _ => Int32 → zS → Option ((Unit × zS) ⊕ (Int32 × zS))) (fun _ _ => none) (fun _ rec => fX10_next_L60S N  rec) n
set_option maxHeartbeats 400000 in
set_option maxRecDepth 100000 in
theorem tX10_next_L60 {g : zGl} (hok : zGok g) (d : Nat) (hd : 3 ≤ d) (N : Nat)   {mc ms n0 : Nat} {Q : zO → List zE → Prop} (n : Nat) : ∀ (v1 : Int32) (s : zS) (r : (Unit × zS) ⊕ (Int32 × zS)) (hf : fX10_next_L60 N  n v1 s = some r) (k1 : ∀ w s', r = .inl (w, s') → Q (.inl none) (zHp s')) (k2 : ∀ (y1 : Int32) (s' : zS), r = .inr (y1, s') → zW g mX10_next d mc ms n0 Q 0 0 (zHp s') [some (.ref 33), some (.int y1), none] [] 125), zW g mX10_next d mc ms n0 Q 0 0 (zHp s) [some (.ref 33), some (.int v1), none] [] 60 := by
  induction n with
  | zero => intro v1 s r hf; cases hf
  | succ n ih =>
    intro v1 s r hf k1 k2
    have hrec : ∀ (v1 : Int32) (s : zS) (r1 : (Unit × zS) ⊕ (Int32 × zS)), fX10_next_L60 N  n v1 s = some r1 → r1 = r → zW g mX10_next d mc ms n0 Q 0 0 (zHp s) [some (.ref 33), some (.int v1), none] [] 60 := fun v1 s r1 h e => ih v1 s r1 h (by subst e; exact k1) (by subst e; exact k2)
    have hrec : ∀ (v1 : Int32) (s : zS), fX10_next_L60 N  n v1 s = some r → zW g mX10_next d mc ms n0 Q 0 0 (zHp s) [some (.ref 33), some (.int v1), none] [] 60 := fun v1 s h => hrec v1 s r h rfl
    have hf : fX10_next_L60S N  (fX10_next_L60 N  n) v1 s = some r := hf
    unfold fX10_next_L60S at hf
    refine z_iload_n dX10_next_60 rfl ?_
    refine z_aload_n dX10_next_61 rfl ?_
    refine z_getf dX10_next_62 fX10_69 (at_Model s) rfl ?_
    refine z_icmp_ge 125 dX10_next_65 (by decide) (fun c65 => ?_) (fun c65 => ?_)
    · have hf := zifp hf c65
      cases hf
      refine z_mask (ls' := [_, _, _]) [true, true, false] rfl ?_
      exact k2 _ _ rfl
    · have hf := zifn hf c65
      refine z_aload_n dX10_next_68 rfl ?_
      refine z_getf dX10_next_69 fX10_13 (at_Model s) rfl ?_
      refine z_iload_n dX10_next_72 rfl ?_
      obtain ⟨hi32, hf⟩ := zifs hf
      refine z_iald dX10_next_73 (at_arr s 35 (by decide)) (zga_in hi32) ?_
      refine z_bipush 10 dX10_next_74 (by decide +kernel) ?_
      refine z_icmp_eq 125 dX10_next_76 (by decide) (fun c76 => ?_) (fun c76 => ?_)
      · have hf := zifp hf c76
        cases hf
        refine z_mask (ls' := [_, _, _]) [true, true, false] rfl ?_
        exact k2 _ _ rfl
      · have hf := zifn hf c76
        refine z_aload_n dX10_next_79 rfl ?_
        refine z_getf dX10_next_80 fX10_13 (at_Model s) rfl ?_
        refine z_iload_n dX10_next_83 rfl ?_
        obtain ⟨hi33, hf⟩ := zifs hf
        refine z_iald dX10_next_84 (at_arr s 35 (by decide)) (zga_in hi33) ?_
        refine z_bipush 32 dX10_next_85 (by decide +kernel) ?_
        refine z_icmp_lt 101 dX10_next_87 (by decide) (fun c87 => ?_) (fun c87 => ?_)
        · have hf := zifp hf c87
          refine z_aload_n dX10_next_101 rfl ?_
          refine z_getf dX10_next_102 fX10_13 (at_Model s) rfl ?_
          refine z_iload_n dX10_next_105 rfl ?_
          obtain ⟨hi34, hf⟩ := zifs hf
          refine z_iald dX10_next_106 (at_arr s 35 (by decide)) (zga_in hi34) ?_
          refine z_bipush 9 dX10_next_107 (by decide +kernel) ?_
          refine z_icmp_eq 119 dX10_next_109 (by decide) (fun c109 => ?_) (fun c109 => ?_)
          · have hf := zifp hf c109
            refine z_iinc (ls' := [_, _, _]) (v1 + 1) dX10_next_119 rfl rfl (by decide) rfl ?_
            refine z_goto 60 dX10_next_122 (by decide) ?_
            refine z_mask (ls' := [_, _, _]) [true, true, false] rfl ?_
            exact hrec (v1 + 1) s hf
          · have hf := zifn hf c109
            refine z_aload_n dX10_next_112 rfl ?_
            refine z_iconst 1 dX10_next_113 (by decide +kernel) ?_
            refine z_iload_n dX10_next_114 rfl ?_
            obtain ⟨x35, s36, q37, hf⟩ := zbn_of hf
            refine z_cV (as := [_, _]) hok dX10_next_115 kX10_91 (tX10_bad hok (d - 1) N 1 v1  q37) rfl (at_Model s) rfl rfl (by omega) (Nat.le_of_ble_eq_true rfl) (Nat.zero_le _) (Nat.zero_le _) rfl ?_
            cases hf
            exact z_vret rfl dX10_next_118 (Nat.zero_le _) (Nat.zero_le _) (k1 _ _ rfl)
        · have hf := zifn hf c87
          refine z_aload_n dX10_next_90 rfl ?_
          refine z_getf dX10_next_91 fX10_13 (at_Model s) rfl ?_
          refine z_iload_n dX10_next_94 rfl ?_
          obtain ⟨hi38, hf⟩ := zifs hf
          refine z_iald dX10_next_95 (at_arr s 35 (by decide)) (zga_in hi38) ?_
          refine z_bipush 126 dX10_next_96 (by decide +kernel) ?_
          refine z_icmp_le 119 dX10_next_98 (by decide) (fun c98 => ?_) (fun c98 => ?_)
          · have hf := zifp hf c98
            refine z_iinc (ls' := [_, _, _]) (v1 + 1) dX10_next_119 rfl rfl (by decide) rfl ?_
            refine z_goto 60 dX10_next_122 (by decide) ?_
            refine z_mask (ls' := [_, _, _]) [true, true, false] rfl ?_
            exact hrec (v1 + 1) s hf
          · have hf := zifn hf c98
            refine z_aload_n dX10_next_101 rfl ?_
            refine z_getf dX10_next_102 fX10_13 (at_Model s) rfl ?_
            refine z_iload_n dX10_next_105 rfl ?_
            obtain ⟨hi39, hf⟩ := zifs hf
            refine z_iald dX10_next_106 (at_arr s 35 (by decide)) (zga_in hi39) ?_
            refine z_bipush 9 dX10_next_107 (by decide +kernel) ?_
            refine z_icmp_eq 119 dX10_next_109 (by decide) (fun c109 => ?_) (fun c109 => ?_)
            · have hf := zifp hf c109
              refine z_iinc (ls' := [_, _, _]) (v1 + 1) dX10_next_119 rfl rfl (by decide) rfl ?_
              refine z_goto 60 dX10_next_122 (by decide) ?_
              refine z_mask (ls' := [_, _, _]) [true, true, false] rfl ?_
              exact hrec (v1 + 1) s hf
            · have hf := zifn hf c109
              refine z_aload_n dX10_next_112 rfl ?_
              refine z_iconst 1 dX10_next_113 (by decide +kernel) ?_
              refine z_iload_n dX10_next_114 rfl ?_
              obtain ⟨x40, s41, q42, hf⟩ := zbn_of hf
              refine z_cV (as := [_, _]) hok dX10_next_115 kX10_91 (tX10_bad hok (d - 1) N 1 v1  q42) rfl (at_Model s) rfl rfl (by omega) (Nat.le_of_ble_eq_true rfl) (Nat.zero_le _) (Nat.zero_le _) rfl ?_
              cases hf
              exact z_vret rfl dX10_next_118 (Nat.zero_le _) (Nat.zero_le _) (k1 _ _ rfl)
noncomputable def fX10_next_J41 (N : Nat)  (v1 : Int32) (s : zS) : Option (Unit × zS) := if (s.1 3303) ≤ v1 then fX10_next_J125 N  v1 s else if zga v1 (zlen 35) = true then if (s.2.1 35 v1.toNatClampNeg) = 35 then zbl (fX10_next_L60 N  N v1 s) (fun x => some x) (fun lq43 => match lq43 with | (y46, s47) => fX10_next_J125 N  y46 s47) else fX10_next_J125 N  v1 s else none
set_option maxHeartbeats 400000 in
set_option maxRecDepth 100000 in
theorem tX10_next_J41 {g : zGl} (hok : zGok g) (d : Nat) (hd : 3 ≤ d) (N : Nat)   {mc ms n0 : Nat} (v1 : Int32) {s s' : zS} {w : Unit} (hf : fX10_next_J41 N  v1 s = some (w, s')) : zW g mX10_next d mc ms n0 (zret none (zHp s')) 0 0 (zHp s) [some (.ref 33), some (.int v1), none] [] 41 := by
  unfold fX10_next_J41 at hf
  refine z_iload_n dX10_next_41 rfl ?_
  refine z_aload_n dX10_next_42 rfl ?_
  refine z_getf dX10_next_43 fX10_69 (at_Model s) rfl ?_
  refine z_icmp_ge 125 dX10_next_46 (by decide) (fun c46 => ?_) (fun c46 => ?_)
  · have hf := zifp hf c46
    refine z_mask (ls' := [_, _, _]) [true, true, false] rfl ?_
    exact tX10_next_J125 hok d (by omega) N   v1 hf
  · have hf := zifn hf c46
    refine z_aload_n dX10_next_49 rfl ?_
    refine z_getf dX10_next_50 fX10_13 (at_Model s) rfl ?_
    refine z_iload_n dX10_next_53 rfl ?_
    obtain ⟨hi31, hf⟩ := zifs hf
    refine z_iald dX10_next_54 (at_arr s 35 (by decide)) (zga_in hi31) ?_
    refine z_bipush 35 dX10_next_55 (by decide +kernel) ?_
    refine z_icmp_ne 125 dX10_next_57 (by decide) (fun c57 => ?_) (fun c57 => ?_)
    · have hf := zifn hf c57
      refine z_mask (ls' := [_, _, _]) [true, true, false] rfl ?_
      exact tX10_next_J125 hok d (by omega) N   v1 hf
    · have hf := zifp hf c57
      refine z_mask (ls' := [_, _, _]) [true, true, false] rfl ?_
      rcases zbl_of hf with ⟨lr44, le45, hf⟩ | ⟨lr44, le45, hf⟩
      · cases hf
        exact tX10_next_L60 hok d (by omega) N   N v1 s _ le45 (fun w1 s1 hh => by cases hh; exact ⟨rfl, rfl⟩) (fun _ _ hh => by cases hh)
      · obtain ⟨y46, s47⟩ := lr44
        refine tX10_next_L60 hok d (by omega) N   N v1 s _ le45 (fun w1 s1 hh => by cases hh) (fun _ _ hh => ?_)
        cases hh
        refine z_mask (ls' := [_, _, _]) [true, true, false] rfl ?_
        exact tX10_next_J125 hok d (by omega) N   y46 hf
noncomputable def fX10_next (N : Nat)  (s : zS) : Option (Unit × zS) := zbl (fX10_next_L5 N  N (s.1 3318) s) (fun x => some x) (fun lq3 => match lq3 with | (y6, s7) => fX10_next_J41 N  y6 s7)
set_option maxHeartbeats 400000 in
set_option maxRecDepth 100000 in
theorem tX10_next {g : zGl} (hok : zGok g) (d : Nat) (hd : 3 ≤ d) (N : Nat)   {s s' : zS} {w : Unit} (hf : fX10_next N  s = some (w, s')) : zMet g mX10_next d 0 0 [.ref 33] (zHp s) (zret none (zHp s')) := by
  refine zMet.ofW (by decide +kernel) (Nat.le_of_ble_eq_true rfl) ?_
  show zW g mX10_next d 0 0 51 _ 0 0 (zHp s) [some (.ref 33), none, none] [] 0
  unfold fX10_next at hf
  refine z_aload_n dX10_next_0 rfl ?_
  refine z_getf dX10_next_1 fX10_88 (at_Model s) rfl ?_
  refine z_istore_n (ls' := [_, _, _]) dX10_next_4 (by decide) rfl ?_
  refine z_mask (ls' := [_, _, _]) [true, true, false] rfl ?_
  rcases zbl_of hf with ⟨lr4, le5, hf⟩ | ⟨lr4, le5, hf⟩
  · cases hf
    exact tX10_next_L5 hok d N   N (s.1 3318) s _ le5 (fun w1 s1 hh => by cases hh; exact ⟨rfl, rfl⟩) (fun _ _ hh => by cases hh)
  · obtain ⟨y6, s7⟩ := lr4
    refine tX10_next_L5 hok d N   N (s.1 3318) s _ le5 (fun w1 s1 hh => by cases hh) (fun _ _ hh => ?_)
    cases hh
    refine z_mask (ls' := [_, _, _]) [true, true, false] rfl ?_
    exact tX10_next_J41 hok d (by omega) N   y6 hf

