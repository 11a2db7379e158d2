noncomputable def fX7_putTree_J59 (N : Nat) (rc0 : Nat → Int32 → Int32 → Int32 → zS → Option (Unit × zS)) (p0 : Nat) (p1 : Int32) (p2 : Int32) (p3 : Int32) (v5 : Int32) (v6 : Int32) (v7 : Int32) (s : zS) : Option (Unit × zS) := zbn (fX1_isTwoSided N v5 s) (fun x10 s11 => if x10 = 0 then zbn (fX1_isAhead N v5 s11) (fun x13 s14 => if x13 = 0 then zbn (fX6_cell N (p0 + 5) ((s14.1 3003) + p1) 1 0 s14) (fun x16 s17 => zbn (fX7_putLeaf N p0 v5 x16 s17) (fun x19 s20 => if v7 = 0 then some ((), s20) else zbn (fX7_putByte N 41 s20) (fun x22 s23 => some ((), s23)))) else zbn (fX1_signOf N v5 s14) (fun x25 s26 => zbn (fX7_putText N x25 s26) (fun x28 s29 => zbn (rc0 p0 (p1 - 1) 7 (p3 + 1) s29) (fun x31 s32 => if v7 = 0 then some ((), s32) else zbn (fX7_putByte N 41 s32) (fun x34 s35 => some ((), s35)))))) else zbn (fX7_beginOf N (p1 - 1) s11) (fun x37 s38 => zbn (rc0 p0 (x37 - 1) v6 (p3 + 1) s38) (fun x40 s41 => zbn (fX7_putByte N 32 s41) (fun x43 s44 => zbn (fX1_signOf N v5 s44) (fun x46 s47 => zbn (fX7_putText N x46 s47) (fun x49 s50 => zbn (fX7_putByte N 32 s50) (fun x52 s53 => zbn (rc0 p0 (p1 - 1) (v6 + 1) (p3 + 1) s53) (fun x55 s56 => if v7 = 0 then some ((), s56) else zbn (fX7_putByte N 41 s56) (fun x58 s59 => some ((), s59))))))))))
set_option maxHeartbeats 400000 in
set_option maxRecDepth 100000 in
theorem tX7_putTree_J59 {g : zGl} {n1 : Nat} (hok : zGok g) (d : Nat) (hd : n1 + 21 ≤ d) (N : Nat) (rc0 : Nat → Int32 → Int32 → Int32 → zS → Option (Unit × zS)) (p0 : Nat) (p1 : Int32) (p2 : Int32) (p3 : Int32) (hrc0 : ∀ (d : Nat), n1 + 20 ≤ d → ∀ (p0 : Nat) (p1 : Int32) (p2 : Int32) (p3 : Int32), zBk p0 → ∀ {s s' : zS} {w : Unit}, rc0 p0 p1 p2 p3 s = some (w, s') → zMet g mX7_putTree d 0 0 [.ref 30, .ref p0, .int p1, .int p2, .int p3] (zHp s) (zret none (zHp s'))) (hp0 : zBk p0) {mc ms n0 : Nat} (v5 : Int32) (v6 : Int32) (v7 : Int32) {s s' : zS} {w : Unit} (hf : fX7_putTree_J59 N rc0 p0 p1 p2 p3 v5 v6 v7 s = some (w, s')) : zW g mX7_putTree d mc ms n0 (zret none (zHp s')) 0 0 (zHp s) [some (.ref 30), some (.ref p0), some (.int p1), some (.int p2), some (.int p3), some (.int v5), some (.int v6), some (.int v7)] [] 59 := by
  unfold fX7_putTree_J59 at hf
  refine z_iload dX7_putTree_59 rfl ?_
  obtain ⟨x10, s11, q12, hf⟩ := zbn_of hf
  refine z_cS (as := [_]) hok dX7_putTree_61 kX7_136 (tX1_isTwoSided hok (d - 1) N v5  q12) rfl rfl (by omega) (Nat.le_of_ble_eq_true rfl) (Nat.zero_le _) (Nat.zero_le _) rfl ?_
  refine z_if_eq 127 dX7_putTree_64 (by decide) (fun c64 => ?_) (fun c64 => ?_)
  · have hf := zifp hf c64
    refine z_iload dX7_putTree_127 rfl ?_
    obtain ⟨x13, s14, q15, hf⟩ := zbn_of hf
    refine z_cS (as := [_]) hok dX7_putTree_129 kX7_144 (tX1_isAhead hok (d - 1) N v5  q15) rfl rfl (by omega) (Nat.le_of_ble_eq_true rfl) (Nat.zero_le _) (Nat.zero_le _) rfl ?_
    refine z_if_eq 161 dX7_putTree_132 (by decide) (fun c132 => ?_) (fun c132 => ?_)
    · have hf := zifp hf c132
      refine z_aload_n dX7_putTree_161 rfl ?_
      refine z_aload_n dX7_putTree_162 rfl ?_
      refine z_iload dX7_putTree_163 rfl ?_
      refine z_aload_n dX7_putTree_165 rfl ?_
      refine z_getN hok dX7_putTree_166 fX7_147 (at_Book s14 p0 hp0) rfl ?_
      refine z_aload_n dX7_putTree_169 rfl ?_
      refine z_getf dX7_putTree_170 fX7_105 (at_Teller s14) rfl ?_
      refine z_iload_n dX7_putTree_173 rfl ?_
      refine z_iadd dX7_putTree_174 ?_
      refine z_iconst 1 dX7_putTree_175 (by decide +kernel) ?_
      refine z_iconst 0 dX7_putTree_176 (by decide +kernel) ?_
      obtain ⟨x16, s17, q18, hf⟩ := zbn_of hf
      refine z_cV (as := [_, _, _]) hok dX7_putTree_177 kX7_24 (tX6_cell hok (d - 1) N (p0 + 5) ((s14.1 3003) + p1) 1 0 (zBk_t p0 hp0).2.2.1 q18) rfl (at_Table s14 (p0 + 5) (zBk_t p0 hp0).2.2.1) rfl rfl (by omega) (Nat.le_of_ble_eq_true rfl) (Nat.zero_le _) (Nat.zero_le _) rfl ?_
      obtain ⟨x19, s20, q21, hf⟩ := zbn_of hf
      refine z_cV (as := [_, _, _]) hok dX7_putTree_180 kX7_156 (tX7_putLeaf hok (d - 1) (by omega) N p0 v5 x16 hp0 q21) rfl (at_Teller s17) rfl rfl (by omega) (Nat.le_of_ble_eq_true rfl) (Nat.zero_le _) (Nat.zero_le _) rfl ?_
      refine z_iload dX7_putTree_183 rfl ?_
      refine z_if_eq 194 dX7_putTree_185 (by decide) (fun c185 => ?_) (fun c185 => ?_)
      · have hf := zifp hf c185
        cases hf
        exact z_vret rfl dX7_putTree_194 (Nat.zero_le _) (Nat.zero_le _) ⟨rfl, rfl⟩
      · have hf := zifn hf c185
        refine z_aload_n dX7_putTree_188 rfl ?_
        refine z_bipush 41 dX7_putTree_189 (by decide +kernel) ?_
        obtain ⟨x22, s23, q24, hf⟩ := zbn_of hf
        refine z_cV (as := [_]) hok dX7_putTree_191 kX7_34 (tX7_putByte hok (d - 1) N 41  q24) rfl (at_Teller s20) rfl rfl (by omega) (Nat.le_of_ble_eq_true rfl) (Nat.zero_le _) (Nat.zero_le _) rfl ?_
        cases hf
        exact z_vret rfl dX7_putTree_194 (Nat.zero_le _) (Nat.zero_le _) ⟨rfl, rfl⟩
    · have hf := zifn hf c132
      refine z_aload_n dX7_putTree_135 rfl ?_
      refine z_iload dX7_putTree_136 rfl ?_
      obtain ⟨x25, s26, q27, hf⟩ := zbn_of hf
      refine z_cS (as := [_]) hok dX7_putTree_138 kX7_153 (tX1_signOf hok (d - 1) N v5  q27) rfl rfl (by omega) (Nat.le_of_ble_eq_true rfl) (Nat.zero_le _) (Nat.zero_le _) rfl ?_
      obtain ⟨x28, s29, q30, hf⟩ := zbn_of hf
      refine z_cV (as := [_]) hok dX7_putTree_141 kX7_46 (tX7_putText hok (d - 1) (by omega) N x25  q30) rfl (at_Teller s26) rfl rfl (by omega) (Nat.le_of_ble_eq_true rfl) (Nat.zero_le _) (Nat.zero_le _) rfl ?_
      refine z_aload_n dX7_putTree_144 rfl ?_
      refine z_aload_n dX7_putTree_145 rfl ?_
      refine z_iload_n dX7_putTree_146 rfl ?_
      refine z_iconst 1 dX7_putTree_147 (by decide +kernel) ?_
      refine z_isub dX7_putTree_148 ?_
      refine z_bipush 7 dX7_putTree_149 (by decide +kernel) ?_
      refine z_iload dX7_putTree_151 rfl ?_
      refine z_iconst 1 dX7_putTree_153 (by decide +kernel) ?_
      refine z_iadd dX7_putTree_154 ?_
      obtain ⟨x31, s32, q33, hf⟩ := zbn_of hf
      refine z_cV (as := [_, _, _, _]) hok dX7_putTree_155 kX7_128 (hrc0 (d - 1) (by omega) p0 (p1 - 1) 7 (p3 + 1) hp0 q33) rfl (at_Teller s29) rfl rfl (by omega) (Nat.le_of_ble_eq_true rfl) (Nat.zero_le _) (Nat.zero_le _) rfl ?_
      refine z_goto 183 dX7_putTree_158 (by decide) ?_
      refine z_iload dX7_putTree_183 rfl ?_
      refine z_if_eq 194 dX7_putTree_185 (by decide) (fun c185 => ?_) (fun c185 => ?_)
      · have hf := zifp hf c185
        cases hf
        exact z_vret rfl dX7_putTree_194 (Nat.zero_le _) (Nat.zero_le _) ⟨rfl, rfl⟩
      · have hf := zifn hf c185
        refine z_aload_n dX7_putTree_188 rfl ?_
        refine z_bipush 41 dX7_putTree_189 (by decide +kernel) ?_
        obtain ⟨x34, s35, q36, hf⟩ := zbn_of hf
        refine z_cV (as := [_]) hok dX7_putTree_191 kX7_34 (tX7_putByte hok (d - 1) N 41  q36) rfl (at_Teller s32) rfl rfl (by omega) (Nat.le_of_ble_eq_true rfl) (Nat.zero_le _) (Nat.zero_le _) rfl ?_
        cases hf
        exact z_vret rfl dX7_putTree_194 (Nat.zero_le _) (Nat.zero_le _) ⟨rfl, rfl⟩
  · have hf := zifn hf c64
    refine z_aload_n dX7_putTree_67 rfl ?_
    refine z_aload_n dX7_putTree_68 rfl ?_
    refine z_aload_n dX7_putTree_69 rfl ?_
    refine z_iload_n dX7_putTree_70 rfl ?_
    refine z_iconst 1 dX7_putTree_71 (by decide +kernel) ?_
    refine z_isub dX7_putTree_72 ?_
    obtain ⟨x37, s38, q39, hf⟩ := zbn_of hf
    refine z_cV (as := [_]) hok dX7_putTree_73 kX7_140 (tX7_beginOf hok (d - 1) N (p1 - 1)  q39) rfl (at_Teller s11) rfl rfl (by omega) (Nat.le_of_ble_eq_true rfl) (Nat.zero_le _) (Nat.zero_le _) rfl ?_
    refine z_iconst 1 dX7_putTree_76 (by decide +kernel) ?_
    refine z_isub dX7_putTree_77 ?_
    refine z_iload dX7_putTree_78 rfl ?_
    refine z_iload dX7_putTree_80 rfl ?_
    refine z_iconst 1 dX7_putTree_82 (by decide +kernel) ?_
    refine z_iadd dX7_putTree_83 ?_
    obtain ⟨x40, s41, q42, hf⟩ := zbn_of hf
    refine z_cV (as := [_, _, _, _]) hok dX7_putTree_84 kX7_128 (hrc0 (d - 1) (by omega) p0 (x37 - 1) v6 (p3 + 1) hp0 q42) rfl (at_Teller s38) rfl rfl (by omega) (Nat.le_of_ble_eq_true rfl) (Nat.zero_le _) (Nat.zero_le _) rfl ?_
    refine z_aload_n dX7_putTree_87 rfl ?_
    refine z_bipush 32 dX7_putTree_88 (by decide +kernel) ?_
    obtain ⟨x43, s44, q45, hf⟩ := zbn_of hf
    refine z_cV (as := [_]) hok dX7_putTree_90 kX7_34 (tX7_putByte hok (d - 1) N 32  q45) rfl (at_Teller s41) rfl rfl (by omega) (Nat.le_of_ble_eq_true rfl) (Nat.zero_le _) (Nat.zero_le _) rfl ?_
    refine z_aload_n dX7_putTree_93 rfl ?_
    refine z_iload dX7_putTree_94 rfl ?_
    obtain ⟨x46, s47, q48, hf⟩ := zbn_of hf
    refine z_cS (as := [_]) hok dX7_putTree_96 kX7_153 (tX1_signOf hok (d - 1) N v5  q48) rfl rfl (by omega) (Nat.le_of_ble_eq_true rfl) (Nat.zero_le _) (Nat.zero_le _) rfl ?_
    obtain ⟨x49, s50, q51, hf⟩ := zbn_of hf
    refine z_cV (as := [_]) hok dX7_putTree_99 kX7_46 (tX7_putText hok (d - 1) (by omega) N x46  q51) rfl (at_Teller s47) rfl rfl (by omega) (Nat.le_of_ble_eq_true rfl) (Nat.zero_le _) (Nat.zero_le _) rfl ?_
    refine z_aload_n dX7_putTree_102 rfl ?_
    refine z_bipush 32 dX7_putTree_103 (by decide +kernel) ?_
    obtain ⟨x52, s53, q54, hf⟩ := zbn_of hf
    refine z_cV (as := [_]) hok dX7_putTree_105 kX7_34 (tX7_putByte hok (d - 1) N 32  q54) rfl (at_Teller s50) rfl rfl (by omega) (Nat.le_of_ble_eq_true rfl) (Nat.zero_le _) (Nat.zero_le _) rfl ?_
    refine z_aload_n dX7_putTree_108 rfl ?_
    refine z_aload_n dX7_putTree_109 rfl ?_
    refine z_iload_n dX7_putTree_110 rfl ?_
    refine z_iconst 1 dX7_putTree_111 (by decide +kernel) ?_
    refine z_isub dX7_putTree_112 ?_
    refine z_iload dX7_putTree_113 rfl ?_
    refine z_iconst 1 dX7_putTree_115 (by decide +kernel) ?_
    refine z_iadd dX7_putTree_116 ?_
    refine z_iload dX7_putTree_117 rfl ?_
    refine z_iconst 1 dX7_putTree_119 (by decide +kernel) ?_
    refine z_iadd dX7_putTree_120 ?_
    obtain ⟨x55, s56, q57, hf⟩ := zbn_of hf
    refine z_cV (as := [_, _, _, _]) hok dX7_putTree_121 kX7_128 (hrc0 (d - 1) (by omega) p0 (p1 - 1) (v6 + 1) (p3 + 1) hp0 q57) rfl (at_Teller s53) rfl rfl (by omega) (Nat.le_of_ble_eq_true rfl) (Nat.zero_le _) (Nat.zero_le _) rfl ?_
    refine z_goto 183 dX7_putTree_124 (by decide) ?_
    refine z_iload dX7_putTree_183 rfl ?_
    refine z_if_eq 194 dX7_putTree_185 (by decide) (fun c185 => ?_) (fun c185 => ?_)
    · have hf := zifp hf c185
      cases hf
      exact z_vret rfl dX7_putTree_194 (Nat.zero_le _) (Nat.zero_le _) ⟨rfl, rfl⟩
    · have hf := zifn hf c185
      refine z_aload_n dX7_putTree_188 rfl ?_
      refine z_bipush 41 dX7_putTree_189 (by decide +kernel) ?_
      obtain ⟨x58, s59, q60, hf⟩ := zbn_of hf
      refine z_cV (as := [_]) hok dX7_putTree_191 kX7_34 (tX7_putByte hok (d - 1) N 41  q60) rfl (at_Teller s56) rfl rfl (by omega) (Nat.le_of_ble_eq_true rfl) (Nat.zero_le _) (Nat.zero_le _) rfl ?_
      cases hf
      exact z_vret rfl dX7_putTree_194 (Nat.zero_le _) (Nat.zero_le _) ⟨rfl, rfl⟩
noncomputable def fX7_putTree_J46 (N : Nat) (rc0 : Nat → Int32 → Int32 → Int32 → zS → Option (Unit × zS)) (p0 : Nat) (p1 : Int32) (p2 : Int32) (p3 : Int32) (v5 : Int32) (v6 : Int32) (k0 : Int32) (s : zS) : Option (Unit × zS) := if k0 = 0 then fX7_putTree_J59 N rc0 p0 p1 p2 p3 v5 v6 k0 s else zbn (fX7_putByte N 40 s) (fun x61 s62 => fX7_putTree_J59 N rc0 p0 p1 p2 p3 v5 v6 k0 s62)
set_option maxHeartbeats 400000 in
set_option maxRecDepth 100000 in
theorem tX7_putTree_J46 {g : zGl} {n1 : Nat} (hok : zGok g) (d : Nat) (hd : n1 + 21 ≤ d) (N : Nat) (rc0 : Nat → Int32 → Int32 → Int32 → zS → Option (Unit × zS)) (p0 : Nat) (p1 : Int32) (p2 : Int32) (p3 : Int32) (hrc0 : ∀ (d : Nat), n1 + 20 ≤ d → ∀ (p0 : Nat) (p1 : Int32) (p2 : Int32) (p3 : Int32), zBk p0 → ∀ {s s' : zS} {w : Unit}, rc0 p0 p1 p2 p3 s = some (w, s') → zMet g mX7_putTree d 0 0 [.ref 30, .ref p0, .int p1, .int p2, .int p3] (zHp s) (zret none (zHp s'))) (hp0 : zBk p0) {mc ms n0 : Nat} (v5 : Int32) (v6 : Int32) (k0 : Int32) {s s' : zS} {w : Unit} (hf : fX7_putTree_J46 N rc0 p0 p1 p2 p3 v5 v6 k0 s = some (w, s')) : zW g mX7_putTree d mc ms n0 (zret none (zHp s')) 0 0 (zHp s) [some (.ref 30), some (.ref p0), some (.int p1), some (.int p2), some (.int p3), some (.int v5), some (.int v6), none] [.int k0] 46 := by
  unfold fX7_putTree_J46 at hf
  refine z_istore (ls' := [_, _, _, _, _, _, _, _]) dX7_putTree_46 (by decide) rfl ?_
  refine z_iload dX7_putTree_48 rfl ?_
  refine z_if_eq 59 dX7_putTree_50 (by decide) (fun c50 => ?_) (fun c50 => ?_)
  · have hf := zifp hf c50
    refine z_mask (ls' := [_, _, _, _, _, _, _, _]) [true, true, true, true, true, true, true, true] rfl ?_
    exact tX7_putTree_J59 hok d (by omega) N rc0 p0 p1 p2 p3 hrc0 hp0 v5 v6 k0 hf
  · have hf := zifn hf c50
    refine z_aload_n dX7_putTree_53 rfl ?_
    refine z_bipush 40 dX7_putTree_54 (by decide +kernel) ?_
    obtain ⟨x61, s62, q63, hf⟩ := zbn_of hf
    refine z_cV (as := [_]) hok dX7_putTree_56 kX7_34 (tX7_putByte hok (d - 1) N 40  q63) rfl (at_Teller s) rfl rfl (by omega) (Nat.le_of_ble_eq_true rfl) (Nat.zero_le _) (Nat.zero_le _) rfl ?_
    refine z_mask (ls' := [_, _, _, _, _, _, _, _]) [true, true, true, true, true, true, true, true] rfl ?_
    exact tX7_putTree_J59 hok d (by omega) N rc0 p0 p1 p2 p3 hrc0 hp0 v5 v6 k0 hf
noncomputable def fX7_putTree_J45 (N : Nat) (rc0 : Nat → Int32 → Int32 → Int32 → zS → Option (Unit × zS)) (p0 : Nat) (p1 : Int32) (p2 : Int32) (p3 : Int32) (v5 : Int32) (v6 : Int32) (s : zS) : Option (Unit × zS) := fX7_putTree_J46 N rc0 p0 p1 p2 p3 v5 v6 0 s
set_option maxHeartbeats 400000 in
set_option maxRecDepth 100000 in
theorem tX7_putTree_J45 {g : zGl} {n1 : Nat} (hok : zGok g) (d : Nat) (hd : n1 + 21 ≤ d) (N : Nat) (rc0 : Nat → Int32 → Int32 → Int32 → zS → Option (Unit × zS)) (p0 : Nat) (p1 : Int32) (p2 : Int32) (p3 : Int32) (hrc0 : ∀ (d : Nat), n1 + 20 ≤ d → ∀ (p0 : Nat) (p1 : Int32) (p2 : Int32) (p3 : Int32), zBk p0 → ∀ {s s' : zS} {w : Unit}, rc0 p0 p1 p2 p3 s = some (w, s') → zMet g mX7_putTree d 0 0 [.ref 30, .ref p0, .int p1, .int p2, .int p3] (zHp s) (zret none (zHp s'))) (hp0 : zBk p0) {mc ms n0 : Nat} (v5 : Int32) (v6 : Int32) {s s' : zS} {w : Unit} (hf : fX7_putTree_J45 N rc0 p0 p1 p2 p3 v5 v6 s = some (w, s')) : zW g mX7_putTree d mc ms n0 (zret none (zHp s')) 0 0 (zHp s) [some (.ref 30), some (.ref p0), some (.int p1), some (.int p2), some (.int p3), some (.int v5), some (.int v6), none] [] 45 := by
  unfold fX7_putTree_J45 at hf
  refine z_iconst 0 dX7_putTree_45 (by decide +kernel) ?_
  refine z_mask (ls' := [_, _, _, _, _, _, _, _]) [true, true, true, true, true, true, true, false] rfl ?_
  exact tX7_putTree_J46 hok d (by omega) N rc0 p0 p1 p2 p3 hrc0 hp0 v5 v6 0 hf
noncomputable def fX7_putTreeS (N : Nat) (rc0 : Nat → Int32 → Int32 → Int32 → zS → Option (Unit × zS)) (p0 : Nat) (p1 : Int32) (p2 : Int32) (p3 : Int32) (s : zS) : Option (Unit × zS) := if p1 < 0 then some ((), s) else if p3 ≤ 60 then zbn (fX7_sortAt N p0 p1 s) (fun x1 s2 => zbn (fX1_levelOf N x1 s2) (fun x4 s5 => zbn (fX1_isTwoSided N x1 s5) (fun x7 s8 => if x7 = 0 then fX7_putTree_J45 N rc0 p0 p1 p2 p3 x1 x4 s8 else if p2 ≤ x4 then fX7_putTree_J45 N rc0 p0 p1 p2 p3 x1 x4 s8 else fX7_putTree_J46 N rc0 p0 p1 p2 p3 x1 x4 1 s8))) else some ((), s)
set_option maxHeartbeats 400000 in
set_option maxRecDepth 100000 in
theorem tX7_putTreeS {g : zGl} {n1 : Nat} (hok : zGok g) (d : Nat) (hd : n1 + 21 ≤ d) (N : Nat) (rc0 : Nat → Int32 → Int32 → Int32 → zS → Option (Unit × zS)) (p0 : Nat) (p1 : Int32) (p2 : Int32) (p3 : Int32) (hrc0 : ∀ (d : Nat), n1 + 20 ≤ d → ∀ (p0 : Nat) (p1 : Int32) (p2 : Int32) (p3 : Int32), zBk p0 → ∀ {s s' : zS} {w : Unit}, rc0 p0 p1 p2 p3 s = some (w, s') → zMet g mX7_putTree d 0 0 [.ref 30, .ref p0, .int p1, .int p2, .int p3] (zHp s) (zret none (zHp s'))) (hp0 : zBk p0) {s s' : zS} {w : Unit} (hf : fX7_putTreeS N rc0 p0 p1 p2 p3 s = some (w, s')) : zMet g mX7_putTree d 0 0 [.ref 30, .ref p0, .int p1, .int p2, .int p3] (zHp s) (zret none (zHp s')) := by
  refine zMet.ofW (by decide +kernel) (Nat.le_of_ble_eq_true rfl) ?_
  show zW g mX7_putTree d 0 0 51 _ 0 0 (zHp s) [some (.ref 30), some (.ref p0), some (.int p1), some (.int p2), some (.int p3), none, none, none] [] 0
  unfold fX7_putTreeS at hf
  refine z_iload_n dX7_putTree_0 rfl ?_
  refine z_if_lt 11 dX7_putTree_1 (by decide) (fun c1 => ?_) (fun c1 => ?_)
  · have hf := zifp hf c1
    cases hf
    exact z_vret rfl dX7_putTree_11 (Nat.zero_le _) (Nat.zero_le _) ⟨rfl, rfl⟩
  · have hf := zifn hf c1
    refine z_iload dX7_putTree_4 rfl ?_
    refine z_bipush 60 dX7_putTree_6 (by decide +kernel) ?_
    refine z_icmp_le 12 dX7_putTree_8 (by decide) (fun c8 => ?_) (fun c8 => ?_)
    · have hf := zifp hf c8
      refine z_aload_n dX7_putTree_12 rfl ?_
      refine z_aload_n dX7_putTree_13 rfl ?_
      refine z_iload_n dX7_putTree_14 rfl ?_
      obtain ⟨x1, s2, q3, hf⟩ := zbn_of hf
      refine z_cV (as := [_, _]) hok dX7_putTree_15 kX7_132 (tX7_sortAt hok (d - 1) (by omega) N p0 p1 hp0 q3) rfl (at_Teller s) rfl rfl (by omega) (Nat.le_of_ble_eq_true rfl) (Nat.zero_le _) (Nat.zero_le _) rfl ?_
      refine z_istore (ls' := [_, _, _, _, _, _, _, _]) dX7_putTree_18 (by decide) rfl ?_
      refine z_iload dX7_putTree_20 rfl ?_
      obtain ⟨x4, s5, q6, hf⟩ := zbn_of hf
      refine z_cS (as := [_]) hok dX7_putTree_22 kX7_150 (tX1_levelOf hok (d - 1) N x1  q6) rfl rfl (by omega) (Nat.le_of_ble_eq_true rfl) (Nat.zero_le _) (Nat.zero_le _) rfl ?_
      refine z_istore (ls' := [_, _, _, _, _, _, _, _]) dX7_putTree_25 (by decide) rfl ?_
      refine z_iload dX7_putTree_27 rfl ?_
      obtain ⟨x7, s8, q9, hf⟩ := zbn_of hf
      refine z_cS (as := [_]) hok dX7_putTree_29 kX7_136 (tX1_isTwoSided hok (d - 1) N x1  q9) rfl rfl (by omega) (Nat.le_of_ble_eq_true rfl) (Nat.zero_le _) (Nat.zero_le _) rfl ?_
      refine z_if_eq 45 dX7_putTree_32 (by decide) (fun c32 => ?_) (fun c32 => ?_)
      · have hf := zifp hf c32
        refine z_mask (ls' := [_, _, _, _, _, _, _, _]) [true, true, true, true, true, true, true, false] rfl ?_
        exact tX7_putTree_J45 hok d (by omega) N rc0 p0 p1 p2 p3 hrc0 hp0 x1 x4 hf
      · have hf := zifn hf c32
        refine z_iload dX7_putTree_35 rfl ?_
        refine z_iload_n dX7_putTree_37 rfl ?_
        refine z_icmp_ge 45 dX7_putTree_38 (by decide) (fun c38 => ?_) (fun c38 => ?_)
        · have hf := zifp hf c38
          refine z_mask (ls' := [_, _, _, _, _, _, _, _]) [true, true, true, true, true, true, true, false] rfl ?_
          exact tX7_putTree_J45 hok d (by omega) N rc0 p0 p1 p2 p3 hrc0 hp0 x1 x4 hf
        · have hf := zifn hf c38
          refine z_iconst 1 dX7_putTree_41 (by decide +kernel) ?_
          refine z_goto 46 dX7_putTree_42 (by decide) ?_
          refine z_mask (ls' := [_, _, _, _, _, _, _, _]) [true, true, true, true, true, true, true, false] rfl ?_
          exact tX7_putTree_J46 hok d (by omega) N rc0 p0 p1 p2 p3 hrc0 hp0 x1 x4 1 hf
    · have hf := zifn hf c8
      cases hf
      exact z_vret rfl dX7_putTree_11 (Nat.zero_le _) (Nat.zero_le _) ⟨rfl, rfl⟩

noncomputable def fX7_rec (N : Nat) (n : Nat) : (Nat → Int32 → Int32 → Int32 → zS → Option (Unit × zS)) := Nat.rec (motive := fun _ => (Nat → Int32 → Int32 → Int32 → zS → Option (Unit × zS))) (fun _ _ _ _ _ => none) (fun _ ih => fX7_putTreeS N ih) n
theorem tX7_rec {g : zGl} (hok : zGok g) (N : Nat) (n : Nat) : (∀ (d : Nat), n + 20 ≤ d → ∀ (p0 : Nat) (p1 : Int32) (p2 : Int32) (p3 : Int32), zBk p0 → ∀ {s s' : zS} {w : Unit}, ((fX7_rec N n)) p0 p1 p2 p3 s = some (w, s') → zMet g mX7_putTree d 0 0 [.ref 30, .ref p0, .int p1, .int p2, .int p3] (zHp s) (zret none (zHp s'))) := by
  induction n with
  | zero => exact fun d hd _ _ _ _ _ s s' w hf => (by cases hf)
  | succ n ih => exact fun d hd p0 p1 p2 p3 hp0 s s' w hf => tX7_putTreeS hok d (by omega) N _ p0 p1 p2 p3 ih hp0 hf
noncomputable def fX7_putTree (N : Nat) (p0 : Nat) (p1 : Int32) (p2 : Int32) (p3 : Int32) (s : zS) : Option (Unit × zS) := (fX7_rec N 100) p0 p1 p2 p3 s
theorem tX7_putTree {g : zGl} (hok : zGok g) (d : Nat) (hd : 120 ≤ d) (N : Nat) (p0 : Nat) (p1 : Int32) (p2 : Int32) (p3 : Int32) (hp0 : zBk p0) {s s' : zS} {w : Unit} (hf : fX7_putTree N p0 p1 p2 p3 s = some (w, s')) : zMet g mX7_putTree d 0 0 [.ref 30, .ref p0, .int p1, .int p2, .int p3] (zHp s) (zret none (zHp s')) := ((tX7_rec hok N 100)) d hd p0 p1 p2 p3 hp0 hf
