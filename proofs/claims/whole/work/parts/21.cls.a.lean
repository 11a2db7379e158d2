noncomputable def fX1_isTwoSided (N : Nat) (p0 : Int32) (s : zS) : Option (Int32 × zS) := if p0 < 12 then some (0, s) else if 21 < p0 then some (0, s) else some (1, s)
set_option maxHeartbeats 400000 in
set_option maxRecDepth 100000 in
theorem tX1_isTwoSided {g : zGl} (hok : zGok g) (d : Nat)  (N : Nat) (p0 : Int32)  {s s' : zS} {w : Int32} (hf : fX1_isTwoSided N p0 s = some (w, s')) : zMet g mX1_isTwoSided d 0 0 [.int p0] (zHp s) (zret (some (.int w)) (zHp s')) := by
  refine zMet.ofW (by decide +kernel) (Nat.le_of_ble_eq_true rfl) ?_
  show zW g mX1_isTwoSided d 0 0 51 _ 0 0 (zHp s) [some (.int p0)] [] 0
  unfold fX1_isTwoSided at hf
  refine z_iload_n dX1_isTwoSided_0 rfl ?_
  refine z_bipush 12 dX1_isTwoSided_1 (by decide +kernel) ?_
  refine z_icmp_lt 16 dX1_isTwoSided_3 (by decide) (fun c3 => ?_) (fun c3 => ?_)
  · have hf := zifp hf c3
    refine z_iconst 0 dX1_isTwoSided_16 (by decide +kernel) ?_
    cases hf
    exact z_zret rfl (by decide) dX1_isTwoSided_17 (Nat.zero_le _) (Nat.zero_le _) ⟨rfl, rfl⟩
  · have hf := zifn hf c3
    refine z_iload_n dX1_isTwoSided_6 rfl ?_
    refine z_bipush 21 dX1_isTwoSided_7 (by decide +kernel) ?_
    refine z_icmp_gt 16 dX1_isTwoSided_9 (by decide) (fun c9 => ?_) (fun c9 => ?_)
    · have hf := zifp hf c9
      refine z_iconst 0 dX1_isTwoSided_16 (by decide +kernel) ?_
      cases hf
      exact z_zret rfl (by decide) dX1_isTwoSided_17 (Nat.zero_le _) (Nat.zero_le _) ⟨rfl, rfl⟩
    · have hf := zifn hf c9
      refine z_iconst 1 dX1_isTwoSided_12 (by decide +kernel) ?_
      refine z_goto 17 dX1_isTwoSided_13 (by decide) ?_
      cases hf
      exact z_zret rfl (by decide) dX1_isTwoSided_17 (Nat.zero_le _) (Nat.zero_le _) ⟨rfl, rfl⟩

noncomputable def fX1_isAhead (N : Nat) (p0 : Int32) (s : zS) : Option (Int32 × zS) := if p0 = 10 then some (1, s) else if p0 = 11 then some (1, s) else some (0, s)
set_option maxHeartbeats 400000 in
set_option maxRecDepth 100000 in
theorem tX1_isAhead {g : zGl} (hok : zGok g) (d : Nat)  (N : Nat) (p0 : Int32)  {s s' : zS} {w : Int32} (hf : fX1_isAhead N p0 s = some (w, s')) : zMet g mX1_isAhead d 0 0 [.int p0] (zHp s) (zret (some (.int w)) (zHp s')) := by
  refine zMet.ofW (by decide +kernel) (Nat.le_of_ble_eq_true rfl) ?_
  show zW g mX1_isAhead d 0 0 51 _ 0 0 (zHp s) [some (.int p0)] [] 0
  unfold fX1_isAhead at hf
  refine z_iload_n dX1_isAhead_0 rfl ?_
  refine z_bipush 10 dX1_isAhead_1 (by decide +kernel) ?_
  refine z_icmp_eq 12 dX1_isAhead_3 (by decide) (fun c3 => ?_) (fun c3 => ?_)
  · have hf := zifp hf c3
    refine z_iconst 1 dX1_isAhead_12 (by decide +kernel) ?_
    refine z_goto 17 dX1_isAhead_13 (by decide) ?_
    cases hf
    exact z_zret rfl (by decide) dX1_isAhead_17 (Nat.zero_le _) (Nat.zero_le _) ⟨rfl, rfl⟩
  · have hf := zifn hf c3
    refine z_iload_n dX1_isAhead_6 rfl ?_
    refine z_bipush 11 dX1_isAhead_7 (by decide +kernel) ?_
    refine z_icmp_ne 16 dX1_isAhead_9 (by decide) (fun c9 => ?_) (fun c9 => ?_)
    · have hf := zifn hf c9
      refine z_iconst 0 dX1_isAhead_16 (by decide +kernel) ?_
      cases hf
      exact z_zret rfl (by decide) dX1_isAhead_17 (Nat.zero_le _) (Nat.zero_le _) ⟨rfl, rfl⟩
    · have hf := zifp hf c9
      refine z_iconst 1 dX1_isAhead_12 (by decide +kernel) ?_
      refine z_goto 17 dX1_isAhead_13 (by decide) ?_
      cases hf
      exact z_zret rfl (by decide) dX1_isAhead_17 (Nat.zero_le _) (Nat.zero_le _) ⟨rfl, rfl⟩

noncomputable def fX0_byteBehind (N : Nat) (a : Nat) (p0 : Int32) (p1 : Int32) (p2 : Int32) (s : zS) : Option (Int32 × zS) := if p0 < 0 then some ((-1), s) else if p2 < 0 then some ((-1), s) else if p1 ≤ p2 then some ((-1), s) else if (nI (zlen (a + 9))) ≤ (p0 + p2) then some ((-1), s) else if zga (p0 + p2) (zlen (a + 9)) = true then some (s.2.1 (a + 9) (p0 + p2).toNatClampNeg, s) else none
set_option maxHeartbeats 400000 in
set_option maxRecDepth 100000 in
theorem tX0_byteBehind {g : zGl} (hok : zGok g) (d : Nat)  (N : Nat) (a : Nat) (p0 : Int32) (p1 : Int32) (p2 : Int32) (ha : zBk a) {s s' : zS} {w : Int32} (hf : fX0_byteBehind N a p0 p1 p2 s = some (w, s')) : zMet g mX0_byteBehind d 0 0 [.ref a, .int p0, .int p1, .int p2] (zHp s) (zret (some (.int w)) (zHp s')) := by
  refine zMet.ofW (by decide +kernel) (Nat.le_of_ble_eq_true rfl) ?_
  show zW g mX0_byteBehind d 0 0 51 _ 0 0 (zHp s) [some (.ref a), some (.int p0), some (.int p1), some (.int p2), none] [] 0
  unfold fX0_byteBehind at hf
  refine z_iload_n dX0_byteBehind_0 rfl ?_
  refine z_if_lt 28 dX0_byteBehind_1 (by decide) (fun c1 => ?_) (fun c1 => ?_)
  · have hf := zifp hf c1
    refine z_iconst 0 dX0_byteBehind_28 (by decide +kernel) ?_
    refine z_istore (ls' := [_, _, _, _, _]) dX0_byteBehind_29 (by decide) rfl ?_
    refine z_iload dX0_byteBehind_31 rfl ?_
    refine z_if_eq 47 dX0_byteBehind_33 (by decide) (fun c33 => ?_) (fun c33 => ?_)
    · skip
      refine z_iconst (-1) dX0_byteBehind_47 (by decide +kernel) ?_
      cases hf
      exact z_iret rfl dX0_byteBehind_48 (Nat.zero_le _) (Nat.zero_le _) ⟨rfl, rfl⟩
    · exact absurd (show (0 : Int32) = 0 by decide) c33
  · have hf := zifn hf c1
    refine z_iload_n dX0_byteBehind_4 rfl ?_
    refine z_if_lt 28 dX0_byteBehind_5 (by decide) (fun c5 => ?_) (fun c5 => ?_)
    · have hf := zifp hf c5
      refine z_iconst 0 dX0_byteBehind_28 (by decide +kernel) ?_
      refine z_istore (ls' := [_, _, _, _, _]) dX0_byteBehind_29 (by decide) rfl ?_
      refine z_iload dX0_byteBehind_31 rfl ?_
      refine z_if_eq 47 dX0_byteBehind_33 (by decide) (fun c33 => ?_) (fun c33 => ?_)
      · skip
        refine z_iconst (-1) dX0_byteBehind_47 (by decide +kernel) ?_
        cases hf
        exact z_iret rfl dX0_byteBehind_48 (Nat.zero_le _) (Nat.zero_le _) ⟨rfl, rfl⟩
      · exact absurd (show (0 : Int32) = 0 by decide) c33
    · have hf := zifn hf c5
      refine z_iload_n dX0_byteBehind_8 rfl ?_
      refine z_iload_n dX0_byteBehind_9 rfl ?_
      refine z_icmp_ge 28 dX0_byteBehind_10 (by decide) (fun c10 => ?_) (fun c10 => ?_)
      · have hf := zifp hf c10
        refine z_iconst 0 dX0_byteBehind_28 (by decide +kernel) ?_
        refine z_istore (ls' := [_, _, _, _, _]) dX0_byteBehind_29 (by decide) rfl ?_
        refine z_iload dX0_byteBehind_31 rfl ?_
        refine z_if_eq 47 dX0_byteBehind_33 (by decide) (fun c33 => ?_) (fun c33 => ?_)
        · skip
          refine z_iconst (-1) dX0_byteBehind_47 (by decide +kernel) ?_
          cases hf
          exact z_iret rfl dX0_byteBehind_48 (Nat.zero_le _) (Nat.zero_le _) ⟨rfl, rfl⟩
        · exact absurd (show (0 : Int32) = 0 by decide) c33
      · have hf := zifn hf c10
        refine z_iload_n dX0_byteBehind_13 rfl ?_
        refine z_iload_n dX0_byteBehind_14 rfl ?_
        refine z_iadd dX0_byteBehind_15 ?_
        refine z_aload_n dX0_byteBehind_16 rfl ?_
        refine z_getf dX0_byteBehind_17 fX0_29 (at_Book s a ha) rfl ?_
        refine z_alen dX0_byteBehind_20 (at_arr s (a + 9) (zBk_t a ha).2.2.2.2) ?_
        refine z_icmp_ge 28 dX0_byteBehind_21 (by decide) (fun c21 => ?_) (fun c21 => ?_)
        · have hf := zifp hf c21
          refine z_iconst 0 dX0_byteBehind_28 (by decide +kernel) ?_
          refine z_istore (ls' := [_, _, _, _, _]) dX0_byteBehind_29 (by decide) rfl ?_
          refine z_iload dX0_byteBehind_31 rfl ?_
          refine z_if_eq 47 dX0_byteBehind_33 (by decide) (fun c33 => ?_) (fun c33 => ?_)
          · skip
            refine z_iconst (-1) dX0_byteBehind_47 (by decide +kernel) ?_
            cases hf
            exact z_iret rfl dX0_byteBehind_48 (Nat.zero_le _) (Nat.zero_le _) ⟨rfl, rfl⟩
          · exact absurd (show (0 : Int32) = 0 by decide) c33
        · have hf := zifn hf c21
          refine z_iconst 1 dX0_byteBehind_24 (by decide +kernel) ?_
          refine z_goto 29 dX0_byteBehind_25 (by decide) ?_
          refine z_istore (ls' := [_, _, _, _, _]) dX0_byteBehind_29 (by decide) rfl ?_
          refine z_iload dX0_byteBehind_31 rfl ?_
          refine z_if_eq 47 dX0_byteBehind_33 (by decide) (fun c33 => ?_) (fun c33 => ?_)
          · exact absurd (show (1 : Int32) = 0 from c33) (by decide)
          · skip
            refine z_aload_n dX0_byteBehind_36 rfl ?_
            refine z_getf dX0_byteBehind_37 fX0_29 (at_Book s a ha) rfl ?_
            refine z_iload_n dX0_byteBehind_40 rfl ?_
            refine z_iload_n dX0_byteBehind_41 rfl ?_
            refine z_iadd dX0_byteBehind_42 ?_
            obtain ⟨hi1, hf⟩ := zifs hf
            refine z_iald dX0_byteBehind_43 (at_arr s (a + 9) (zBk_t a ha).2.2.2.2) (zga_in hi1) ?_
            refine z_goto 48 dX0_byteBehind_44 (by decide) ?_
            cases hf
            exact z_iret rfl dX0_byteBehind_48 (Nat.zero_le _) (Nat.zero_le _) ⟨rfl, rfl⟩

noncomputable def fX0_byteOfName (N : Nat) (a : Nat) (p0 : Int32) (p1 : Int32) (s : zS) : Option (Int32 × zS) := zbn (fX6_cell N (a + 7) p0 0 0 s) (fun x1 s2 => zbn (fX6_cell N (a + 7) p0 1 0 s2) (fun x4 s5 => zbn (fX0_byteBehind N a x1 x4 p1 s5) (fun x7 s8 => some (x7, s8))))
set_option maxHeartbeats 400000 in
set_option maxRecDepth 100000 in
theorem tX0_byteOfName {g : zGl} (hok : zGok g) (d : Nat) (hd : 1 ≤ d) (N : Nat) (a : Nat) (p0 : Int32) (p1 : Int32) (ha : zBk a) {s s' : zS} {w : Int32} (hf : fX0_byteOfName N a p0 p1 s = some (w, s')) : zMet g mX0_byteOfName d 0 0 [.ref a, .int p0, .int p1] (zHp s) (zret (some (.int w)) (zHp s')) := by
  refine zMet.ofW (by decide +kernel) (Nat.le_of_ble_eq_true rfl) ?_
  show zW g mX0_byteOfName d 0 0 51 _ 0 0 (zHp s) [some (.ref a), some (.int p0), some (.int p1)] [] 0
  unfold fX0_byteOfName at hf
  refine z_aload_n dX0_byteOfName_0 rfl ?_
  refine z_aload_n dX0_byteOfName_1 rfl ?_
  refine z_getf dX0_byteOfName_2 fX0_26 (at_Book s a ha) rfl ?_
  refine z_iload_n dX0_byteOfName_5 rfl ?_
  refine z_iconst 0 dX0_byteOfName_6 (by decide +kernel) ?_
  refine z_iconst 0 dX0_byteOfName_7 (by decide +kernel) ?_
  obtain ⟨x1, s2, q3, hf⟩ := zbn_of hf
  refine z_cV (as := [_, _, _]) hok dX0_byteOfName_8 kX0_52 (tX6_cell hok (d - 1) N (a + 7) p0 0 0 (zBk_t a ha).2.2.2.1 q3) rfl (at_Table s (a + 7) (zBk_t a ha).2.2.2.1) rfl rfl (by omega) (Nat.le_of_ble_eq_true rfl) (Nat.zero_le _) (Nat.zero_le _) rfl ?_
  refine z_aload_n dX0_byteOfName_11 rfl ?_
  refine z_getf dX0_byteOfName_12 fX0_26 (at_Book s2 a ha) rfl ?_
  refine z_iload_n dX0_byteOfName_15 rfl ?_
  refine z_iconst 1 dX0_byteOfName_16 (by decide +kernel) ?_
  refine z_iconst 0 dX0_byteOfName_17 (by decide +kernel) ?_
  obtain ⟨x4, s5, q6, hf⟩ := zbn_of hf
  refine z_cV (as := [_, _, _]) hok dX0_byteOfName_18 kX0_52 (tX6_cell hok (d - 1) N (a + 7) p0 1 0 (zBk_t a ha).2.2.2.1 q6) rfl (at_Table s2 (a + 7) (zBk_t a ha).2.2.2.1) rfl rfl (by omega) (Nat.le_of_ble_eq_true rfl) (Nat.zero_le _) (Nat.zero_le _) rfl ?_
  refine z_iload_n dX0_byteOfName_21 rfl ?_
  obtain ⟨x7, s8, q9, hf⟩ := zbn_of hf
  refine z_cV (as := [_, _, _]) hok dX0_byteOfName_22 kX0_56 (tX0_byteBehind hok (d - 1) N a x1 x4 p1 ha q9) rfl (at_Book s5 a ha) rfl rfl (by omega) (Nat.le_of_ble_eq_true rfl) (Nat.zero_le _) (Nat.zero_le _) rfl ?_
  cases hf
  exact z_iret rfl dX0_byteOfName_25 (Nat.zero_le _) (Nat.zero_le _) ⟨rfl, rfl⟩

noncomputable def fX0_byteOfString (N : Nat) (a : Nat) (p0 : Int32) (p1 : Int32) (s : zS) : Option (Int32 × zS) := zbn (fX6_cell N (a + 3) p0 7 0 s) (fun x1 s2 => zbn (fX6_cell N (a + 3) p0 6 0 s2) (fun x4 s5 => zbn (fX0_byteBehind N a x1 x4 p1 s5) (fun x7 s8 => some (x7, s8))))
set_option maxHeartbeats 400000 in
set_option maxRecDepth 100000 in
theorem tX0_byteOfString {g : zGl} (hok : zGok g) (d : Nat) (hd : 1 ≤ d) (N : Nat) (a : Nat) (p0 : Int32) (p1 : Int32) (ha : zBk a) {s s' : zS} {w : Int32} (hf : fX0_byteOfString N a p0 p1 s = some (w, s')) : zMet g mX0_byteOfString d 0 0 [.ref a, .int p0, .int p1] (zHp s) (zret (some (.int w)) (zHp s')) := by
  refine zMet.ofW (by decide +kernel) (Nat.le_of_ble_eq_true rfl) ?_
  show zW g mX0_byteOfString d 0 0 51 _ 0 0 (zHp s) [some (.ref a), some (.int p0), some (.int p1)] [] 0
  unfold fX0_byteOfString at hf
  refine z_aload_n dX0_byteOfString_0 rfl ?_
  refine z_aload_n dX0_byteOfString_1 rfl ?_
  refine z_getf dX0_byteOfString_2 fX0_20 (at_Book s a ha) rfl ?_
  refine z_iload_n dX0_byteOfString_5 rfl ?_
  refine z_bipush 7 dX0_byteOfString_6 (by decide +kernel) ?_
  refine z_iconst 0 dX0_byteOfString_8 (by decide +kernel) ?_
  obtain ⟨x1, s2, q3, hf⟩ := zbn_of hf
  refine z_cV (as := [_, _, _]) hok dX0_byteOfString_9 kX0_52 (tX6_cell hok (d - 1) N (a + 3) p0 7 0 (zBk_t a ha).2.1 q3) rfl (at_Table s (a + 3) (zBk_t a ha).2.1) rfl rfl (by omega) (Nat.le_of_ble_eq_true rfl) (Nat.zero_le _) (Nat.zero_le _) rfl ?_
  refine z_aload_n dX0_byteOfString_12 rfl ?_
  refine z_getf dX0_byteOfString_13 fX0_20 (at_Book s2 a ha) rfl ?_
  refine z_iload_n dX0_byteOfString_16 rfl ?_
  refine z_bipush 6 dX0_byteOfString_17 (by decide +kernel) ?_
  refine z_iconst 0 dX0_byteOfString_19 (by decide +kernel) ?_
  obtain ⟨x4, s5, q6, hf⟩ := zbn_of hf
  refine z_cV (as := [_, _, _]) hok dX0_byteOfString_20 kX0_52 (tX6_cell hok (d - 1) N (a + 3) p0 6 0 (zBk_t a ha).2.1 q6) rfl (at_Table s2 (a + 3) (zBk_t a ha).2.1) rfl rfl (by omega) (Nat.le_of_ble_eq_true rfl) (Nat.zero_le _) (Nat.zero_le _) rfl ?_
  refine z_iload_n dX0_byteOfString_23 rfl ?_
  obtain ⟨x7, s8, q9, hf⟩ := zbn_of hf
  refine z_cV (as := [_, _, _]) hok dX0_byteOfString_24 kX0_56 (tX0_byteBehind hok (d - 1) N a x1 x4 p1 ha q9) rfl (at_Book s5 a ha) rfl rfl (by omega) (Nat.le_of_ble_eq_true rfl) (Nat.zero_le _) (Nat.zero_le _) rfl ?_
  cases hf
  exact z_iret rfl dX0_byteOfString_27 (Nat.zero_le _) (Nat.zero_le _) ⟨rfl, rfl⟩

noncomputable def fX0_findName_L97S (N : Nat) (a : Nat) (p0 : Nat) (p1 : Int32) (p2 : Int32) (rec : Int32 → Int32 → Int32 → Int32 → zS → Option ((Int32 × zS) ⊕ (Int32 × Int32 × zS))) (v4 : Int32) (v5 : Int32) (v7 : Int32) (v8 : Int32) (s : zS) : Option ((Int32 × zS) ⊕ (Int32 × Int32 × zS)) := if p2 ≤ v8 then some (.inr (v4, v7, s)) else if v7 = 0 then some (.inr (v4, v7, s)) else if zga (v5 + v8) (zlen (a + 9)) = true then if zga (p1 + v8) (zlen p0) = true then if (s.2.1 (a + 9) (v5 + v8).toNatClampNeg) = (s.2.1 p0 (p1 + v8).toNatClampNeg) then rec v4 v5 1 (v8 + 1) s else rec v4 v5 0 (v8 + 1) s else none else none
noncomputable def fX0_findName_L97 (N : Nat) (a : Nat) (p0 : Nat) (p1 : Int32) (p2 : Int32) (n : Nat) : Int32 → Int32 → Int32 → Int32 → zS → Option ((Int32 × zS) ⊕ (Int32 × Int32 × zS)) := Nat.rec (motive := fun _ => Int32 → Int32 → Int32 → Int32 → zS → Option ((Int32 × zS) ⊕ (Int32 × Int32 × zS))) (fun _ _ _ _ _ => none) (fun _ rec => fX0_findName_L97S N a p0 p1 p2 rec) n
set_option maxHeartbeats 400000 in
set_option maxRecDepth 100000 in
theorem tX0_findName_L97 {g : zGl} (hok : zGok g) (d : Nat) (hd : 1 ≤ d) (N : Nat) (a : Nat) (p0 : Nat) (p1 : Int32) (p2 : Int32) (ha : zBk a) (hp0 : zAr p0) {mc ms n0 : Nat} {Q : zO → List zE → Prop} (n : Nat) : ∀ (v4 : Int32) (v5 : Int32) (v7 : Int32) (v8 : Int32) (s : zS) (r : (Int32 × zS) ⊕ (Int32 × Int32 × zS)) (hf : fX0_findName_L97 N a p0 p1 p2 n v4 v5 v7 v8 s = some r) (k1 : ∀ w s', r = .inl (w, s') → Q (.inl (some (.int w))) (zHp s')) (k2 : ∀ (y4 : Int32) (y7 : Int32) (s' : zS), r = .inr (y4, y7, s') → zW g mX0_findName d mc ms n0 Q 0 0 (zHp s') [some (.ref a), some (.ref p0), some (.int p1), some (.int p2), some (.int y4), none, none, some (.int y7), none] [] 140), zW g mX0_findName d mc ms n0 Q 0 0 (zHp s) [some (.ref a), some (.ref p0), some (.int p1), some (.int p2), some (.int v4), some (.int v5), none, some (.int v7), some (.int v8)] [] 97 := by
  induction n with
  | zero => intro v4 v5 v7 v8 s r hf; cases hf
  | succ n ih =>
    intro v4 v5 v7 v8 s r hf k1 k2
    have hrec : ∀ (v4 : Int32) (v5 : Int32) (v7 : Int32) (v8 : Int32) (s : zS) (r1 : (Int32 × zS) ⊕ (Int32 × Int32 × zS)), fX0_findName_L97 N a p0 p1 p2 n v4 v5 v7 v8 s = some r1 → r1 = r → zW g mX0_findName d mc ms n0 Q 0 0 (zHp s) [some (.ref a), some (.ref p0), some (.int p1), some (.int p2), some (.int v4), some (.int v5), none, some (.int v7), some (.int v8)] [] 97 := fun v4 v5 v7 v8 s r1 h e => ih v4 v5 v7 v8 s r1 h (by subst e; exact k1) (by subst e; exact k2)
    have hrec : ∀ (v4 : Int32) (v5 : Int32) (v7 : Int32) (v8 : Int32) (s : zS), fX0_findName_L97 N a p0 p1 p2 n v4 v5 v7 v8 s = some r → zW g mX0_findName d mc ms n0 Q 0 0 (zHp s) [some (.ref a), some (.ref p0), some (.int p1), some (.int p2), some (.int v4), some (.int v5), none, some (.int v7), some (.int v8)] [] 97 := fun v4 v5 v7 v8 s h => hrec v4 v5 v7 v8 s r h rfl
    have hf : fX0_findName_L97S N a p0 p1 p2 (fX0_findName_L97 N a p0 p1 p2 n) v4 v5 v7 v8 s = some r := hf
    unfold fX0_findName_L97S at hf
    refine z_iload dX0_findName_97 rfl ?_
    refine z_iload_n dX0_findName_99 rfl ?_
    refine z_icmp_ge 140 dX0_findName_100 (by decide) (fun c100 => ?_) (fun c100 => ?_)
    · have hf := zifp hf c100
      cases hf
      refine z_mask (ls' := [_, _, _, _, _, _, _, _, _]) [true, true, true, true, true, false, false, true, false] rfl ?_
      exact k2 _ _ _ rfl
    · have hf := zifn hf c100
      refine z_iload dX0_findName_103 rfl ?_
      refine z_if_eq 140 dX0_findName_105 (by decide) (fun c105 => ?_) (fun c105 => ?_)
      · have hf := zifp hf c105
        cases hf
        refine z_mask (ls' := [_, _, _, _, _, _, _, _, _]) [true, true, true, true, true, false, false, true, false] rfl ?_
        exact k2 _ _ _ rfl
      · have hf := zifn hf c105
        refine z_aload_n dX0_findName_108 rfl ?_
        refine z_getf dX0_findName_109 fX0_29 (at_Book s a ha) rfl ?_
        refine z_iload dX0_findName_112 rfl ?_
        refine z_iload dX0_findName_114 rfl ?_
        refine z_iadd dX0_findName_116 ?_
        obtain ⟨hi7, hf⟩ := zifs hf
        refine z_iald dX0_findName_117 (at_arr s (a + 9) (zBk_t a ha).2.2.2.2) (zga_in hi7) ?_
        refine z_aload_n dX0_findName_118 rfl ?_
        refine z_iload_n dX0_findName_119 rfl ?_
        refine z_iload dX0_findName_120 rfl ?_
        refine z_iadd dX0_findName_122 ?_
        obtain ⟨hi8, hf⟩ := zifs hf
        refine z_iald dX0_findName_123 (at_arr s p0 hp0) (zga_in hi8) ?_
        refine z_icmp_ne 131 dX0_findName_124 (by decide) (fun c124 => ?_) (fun c124 => ?_)
        · have hf := zifn hf c124
          refine z_iconst 0 dX0_findName_131 (by decide +kernel) ?_
          refine z_istore (ls' := [_, _, _, _, _, _, _, _, _]) dX0_findName_132 (by decide) rfl ?_
          refine z_iinc (ls' := [_, _, _, _, _, _, _, _, _]) (v8 + 1) dX0_findName_134 rfl rfl (by decide) rfl ?_
          refine z_goto 97 dX0_findName_137 (by decide) ?_
          refine z_mask (ls' := [_, _, _, _, _, _, _, _, _]) [true, true, true, true, true, true, false, true, true] rfl ?_
          exact hrec v4 v5 0 (v8 + 1) s hf
        · have hf := zifp hf c124
          refine z_iconst 1 dX0_findName_127 (by decide +kernel) ?_
          refine z_goto 132 dX0_findName_128 (by decide) ?_
          refine z_istore (ls' := [_, _, _, _, _, _, _, _, _]) dX0_findName_132 (by decide) rfl ?_
          refine z_iinc (ls' := [_, _, _, _, _, _, _, _, _]) (v8 + 1) dX0_findName_134 rfl rfl (by decide) rfl ?_
          refine z_goto 97 dX0_findName_137 (by decide) ?_
          refine z_mask (ls' := [_, _, _, _, _, _, _, _, _]) [true, true, true, true, true, true, false, true, true] rfl ?_
          exact hrec v4 v5 1 (v8 + 1) s hf
noncomputable def fX0_findName_J92 (N : Nat) (a : Nat) (p0 : Nat) (p1 : Int32) (p2 : Int32) (rec : Int32 → zS → Option ((Int32 × zS) ⊕ (zS))) (v4 : Int32) (v5 : Int32) (k0 : Int32) (s : zS) : Option ((Int32 × zS) ⊕ (zS)) := zbl (fX0_findName_L97 N a p0 p1 p2 N v4 v5 k0 0 s) (fun x => some (.inl x)) (fun lq9 => match lq9 with | (y12, y13, s14) => if y13 = 0 then rec (y12 + 1) s14 else some (.inl (y12, s14)))
set_option maxHeartbeats 400000 in
set_option maxRecDepth 100000 in
theorem tX0_findName_J92 {g : zGl} (hok : zGok g) (d : Nat) (hd : 1 ≤ d) (N : Nat) (a : Nat) (p0 : Nat) (p1 : Int32) (p2 : Int32) (ha : zBk a) (hp0 : zAr p0) {mc ms n0 : Nat} {Q : zO → List zE → Prop} (rec : Int32 → zS → Option ((Int32 × zS) ⊕ (zS))) (r : (Int32 × zS) ⊕ (zS)) (k1 : ∀ w s', r = .inl (w, s') → Q (.inl (some (.int w))) (zHp s')) (k2 : ∀  (s' : zS), r = .inr (s') → zW g mX0_findName d mc ms n0 Q 0 0 (zHp s') [some (.ref a), some (.ref p0), some (.int p1), some (.int p2), none, none, none, none, none] [] 154) (hrec : ∀ (v4 : Int32) (s : zS), rec v4 s = some r → zW g mX0_findName d mc ms n0 Q 0 0 (zHp s) [some (.ref a), some (.ref p0), some (.int p1), some (.int p2), some (.int v4), none, none, none, none] [] 22) (v4 : Int32) (v5 : Int32) (k0 : Int32) (s : zS) (hf : fX0_findName_J92 N a p0 p1 p2 rec v4 v5 k0 s = some r) : zW g mX0_findName d mc ms n0 Q 0 0 (zHp s) [some (.ref a), some (.ref p0), some (.int p1), some (.int p2), some (.int v4), some (.int v5), none, none, none] [.int k0] 92 := by
  unfold fX0_findName_J92 at hf
  refine z_istore (ls' := [_, _, _, _, _, _, _, _, _]) dX0_findName_92 (by decide) rfl ?_
  refine z_iconst 0 dX0_findName_94 (by decide +kernel) ?_
  refine z_istore (ls' := [_, _, _, _, _, _, _, _, _]) dX0_findName_95 (by decide) rfl ?_
  refine z_mask (ls' := [_, _, _, _, _, _, _, _, _]) [true, true, true, true, true, true, false, true, true] rfl ?_
  rcases zbl_of hf with ⟨lr10, le11, hf⟩ | ⟨lr10, le11, hf⟩
  · cases hf
    exact tX0_findName_L97 hok d (by omega) N a p0 p1 p2 ha hp0 N v4 v5 k0 0 s _ le11 (fun w1 s1 hh => by cases hh; exact k1 _ _ rfl) (fun _ _ _ hh => by cases hh)
  · obtain ⟨y12, y13, s14⟩ := lr10
    refine tX0_findName_L97 hok d (by omega) N a p0 p1 p2 ha hp0 N v4 v5 k0 0 s _ le11 (fun w1 s1 hh => by cases hh) (fun _ _ _ hh => ?_)
    cases hh
    refine z_iload dX0_findName_140 rfl ?_
    refine z_if_eq 148 dX0_findName_142 (by decide) (fun c142 => ?_) (fun c142 => ?_)
    · have hf := zifp hf c142
      refine z_iinc (ls' := [_, _, _, _, _, _, _, _, _]) (y12 + 1) dX0_findName_148 rfl rfl (by decide) rfl ?_
      refine z_goto 22 dX0_findName_151 (by decide) ?_
      refine z_mask (ls' := [_, _, _, _, _, _, _, _, _]) [true, true, true, true, true, false, false, false, false] rfl ?_
      exact hrec (y12 + 1) s14 hf
    · have hf := zifn hf c142
      refine z_iload dX0_findName_145 rfl ?_
      cases hf
      exact z_iret rfl dX0_findName_147 (Nat.zero_le _) (Nat.zero_le _) (k1 _ _ rfl)
noncomputable def fX0_findName_J91 (N : Nat) (a : Nat) (p0 : Nat) (p1 : Int32) (p2 : Int32) (rec : Int32 → zS → Option ((Int32 × zS) ⊕ (zS))) (v4 : Int32) (v5 : Int32) (s : zS) : Option ((Int32 × zS) ⊕ (zS)) := fX0_findName_J92 N a p0 p1 p2 rec v4 v5 0 s
set_option maxHeartbeats 400000 in
set_option maxRecDepth 100000 in
theorem tX0_findName_J91 {g : zGl} (hok : zGok g) (d : Nat) (hd : 1 ≤ d) (N : Nat) (a : Nat) (p0 : Nat) (p1 : Int32) (p2 : Int32) (ha : zBk a) (hp0 : zAr p0) {mc ms n0 : Nat} {Q : zO → List zE → Prop} (rec : Int32 → zS → Option ((Int32 × zS) ⊕ (zS))) (r : (Int32 × zS) ⊕ (zS)) (k1 : ∀ w s', r = .inl (w, s') → Q (.inl (some (.int w))) (zHp s')) (k2 : ∀  (s' : zS), r = .inr (s') → zW g mX0_findName d mc ms n0 Q 0 0 (zHp s') [some (.ref a), some (.ref p0), some (.int p1), some (.int p2), none, none, none, none, none] [] 154) (hrec : ∀ (v4 : Int32) (s : zS), rec v4 s = some r → zW g mX0_findName d mc ms n0 Q 0 0 (zHp s) [some (.ref a), some (.ref p0), some (.int p1), some (.int p2), some (.int v4), none, none, none, none] [] 22) (v4 : Int32) (v5 : Int32) (s : zS) (hf : fX0_findName_J91 N a p0 p1 p2 rec v4 v5 s = some r) : zW g mX0_findName d mc ms n0 Q 0 0 (zHp s) [some (.ref a), some (.ref p0), some (.int p1), some (.int p2), some (.int v4), some (.int v5), none, none, none] [] 91 := by
  unfold fX0_findName_J91 at hf
  refine z_iconst 0 dX0_findName_91 (by decide +kernel) ?_
  refine z_mask (ls' := [_, _, _, _, _, _, _, _, _]) [true, true, true, true, true, true, false, false, false] rfl ?_
  exact tX0_findName_J92 hok d (by omega) N a p0 p1 p2 ha hp0 _ r k1 k2 hrec v4 v5 0 s hf
noncomputable def fX0_findName_L22S (N : Nat) (a : Nat) (p0 : Nat) (p1 : Int32) (p2 : Int32) (rec : Int32 → zS → Option ((Int32 × zS) ⊕ (zS))) (v4 : Int32) (s : zS) : Option ((Int32 × zS) ⊕ (zS)) := if (s.1 (100 * (a + 7) + 3)) ≤ v4 then some (.inr (s)) else zbn (fX6_cell N (a + 7) v4 0 0 s) (fun x1 s2 => zbn (fX6_cell N (a + 7) v4 1 0 s2) (fun x4 s5 => if ((x1 + x4) - x1) = p2 then if x1 < 0 then fX0_findName_J91 N a p0 p1 p2 rec v4 x1 s5 else if (nI (zlen (a + 9))) < (x1 + x4) then fX0_findName_J91 N a p0 p1 p2 rec v4 x1 s5 else fX0_findName_J92 N a p0 p1 p2 rec v4 x1 1 s5 else fX0_findName_J91 N a p0 p1 p2 rec v4 x1 s5))
noncomputable def fX0_findName_L22 (N : Nat) (a : Nat) (p0 : Nat) (p1 : Int32) (p2 : Int32) (n : Nat) : Int32 → zS → Option ((Int32 × zS) ⊕ (zS)) := Nat.rec (motive := fun _ => Int32 → zS → Option ((Int32 × zS) ⊕ (zS))) (fun _ _ => none) (fun _ rec => fX0_findName_L22S N a p0 p1 p2 rec) n
set_option maxHeartbeats 400000 in
set_option maxRecDepth 100000 in
theorem tX0_findName_L22 {g : zGl} (hok : zGok g) (d : Nat) (hd : 1 ≤ d) (N : Nat) (a : Nat) (p0 : Nat) (p1 : Int32) (p2 : Int32) (ha : zBk a) (hp0 : zAr p0) {mc ms n0 : Nat} {Q : zO → List zE → Prop} (n : Nat) : ∀ (v4 : Int32) (s : zS) (r : (Int32 × zS) ⊕ (zS)) (hf : fX0_findName_L22 N a p0 p1 p2 n v4 s = some r) (k1 : ∀ w s', r = .inl (w, s') → Q (.inl (some (.int w))) (zHp s')) (k2 : ∀  (s' : zS), r = .inr (s') → zW g mX0_findName d mc ms n0 Q 0 0 (zHp s') [some (.ref a), some (.ref p0), some (.int p1), some (.int p2), none, none, none, none, none] [] 154), zW g mX0_findName d mc ms n0 Q 0 0 (zHp s) [some (.ref a), some (.ref p0), some (.int p1), some (.int p2), some (.int v4), none, none, none, none] [] 22 := by
  induction n with
  | zero => intro v4 s r hf; cases hf
  | succ n ih =>
    intro v4 s r hf k1 k2
    have hrec : ∀ (v4 : Int32) (s : zS) (r1 : (Int32 × zS) ⊕ (zS)), fX0_findName_L22 N a p0 p1 p2 n v4 s = some r1 → r1 = r → zW g mX0_findName d mc ms n0 Q 0 0 (zHp s) [some (.ref a), some (.ref p0), some (.int p1), some (.int p2), some (.int v4), none, none, none, none] [] 22 := fun v4 s r1 h e => ih v4 s r1 h (by subst e; exact k1) (by subst e; exact k2)
    have hrec : ∀ (v4 : Int32) (s : zS), fX0_findName_L22 N a p0 p1 p2 n v4 s = some r → zW g mX0_findName d mc ms n0 Q 0 0 (zHp s) [some (.ref a), some (.ref p0), some (.int p1), some (.int p2), some (.int v4), none, none, none, none] [] 22 := fun v4 s h => hrec v4 s r h rfl
    have hf : fX0_findName_L22S N a p0 p1 p2 (fX0_findName_L22 N a p0 p1 p2 n) v4 s = some r := hf
    unfold fX0_findName_L22S at hf
    refine z_iload dX0_findName_22 rfl ?_
    refine z_aload_n dX0_findName_24 rfl ?_
    refine z_getf dX0_findName_25 fX0_26 (at_Book s a ha) rfl ?_
    refine z_getN hok dX0_findName_28 fX0_33 (at_Table s (a + 7) (zBk_t a ha).2.2.2.1) rfl ?_
    refine z_icmp_ge 154 dX0_findName_31 (by decide) (fun c31 => ?_) (fun c31 => ?_)
    · have hf := zifp hf c31
      cases hf
      refine z_mask (ls' := [_, _, _, _, _, _, _, _, _]) [true, true, true, true, false, false, false, false, false] rfl ?_
      exact k2  _ rfl
    · have hf := zifn hf c31
      refine z_aload_n dX0_findName_34 rfl ?_
      refine z_getf dX0_findName_35 fX0_26 (at_Book s a ha) rfl ?_
      refine z_iload dX0_findName_38 rfl ?_
      refine z_iconst 0 dX0_findName_40 (by decide +kernel) ?_
      refine z_iconst 0 dX0_findName_41 (by decide +kernel) ?_
      obtain ⟨x1, s2, q3, hf⟩ := zbn_of hf
      refine z_cV (as := [_, _, _]) hok dX0_findName_42 kX0_52 (tX6_cell hok (d - 1) N (a + 7) v4 0 0 (zBk_t a ha).2.2.2.1 q3) rfl (at_Table s (a + 7) (zBk_t a ha).2.2.2.1) rfl rfl (by omega) (Nat.le_of_ble_eq_true rfl) (Nat.zero_le _) (Nat.zero_le _) rfl ?_
      refine z_istore (ls' := [_, _, _, _, _, _, _, _, _]) dX0_findName_45 (by decide) rfl ?_
      refine z_iload dX0_findName_47 rfl ?_
      refine z_aload_n dX0_findName_49 rfl ?_
      refine z_getf dX0_findName_50 fX0_26 (at_Book s2 a ha) rfl ?_
      refine z_iload dX0_findName_53 rfl ?_
      refine z_iconst 1 dX0_findName_55 (by decide +kernel) ?_
      refine z_iconst 0 dX0_findName_56 (by decide +kernel) ?_
      obtain ⟨x4, s5, q6, hf⟩ := zbn_of hf
      refine z_cV (as := [_, _, _]) hok dX0_findName_57 kX0_52 (tX6_cell hok (d - 1) N (a + 7) v4 1 0 (zBk_t a ha).2.2.2.1 q6) rfl (at_Table s2 (a + 7) (zBk_t a ha).2.2.2.1) rfl rfl (by omega) (Nat.le_of_ble_eq_true rfl) (Nat.zero_le _) (Nat.zero_le _) rfl ?_
      refine z_iadd dX0_findName_60 ?_
      refine z_istore (ls' := [_, _, _, _, _, _, _, _, _]) dX0_findName_61 (by decide) rfl ?_
      refine z_iload dX0_findName_63 rfl ?_
      refine z_iload dX0_findName_65 rfl ?_
      refine z_isub dX0_findName_67 ?_
      refine z_iload_n dX0_findName_68 rfl ?_
      refine z_icmp_ne 91 dX0_findName_69 (by decide) (fun c69 => ?_) (fun c69 => ?_)
      · have hf := zifn hf c69
        refine z_mask (ls' := [_, _, _, _, _, _, _, _, _]) [true, true, true, true, true, true, false, false, false] rfl ?_
        exact tX0_findName_J91 hok d (by omega) N a p0 p1 p2 ha hp0 _ r k1 k2 hrec v4 x1 s5 hf
      · have hf := zifp hf c69
        refine z_iload dX0_findName_72 rfl ?_
        refine z_if_lt 91 dX0_findName_74 (by decide) (fun c74 => ?_) (fun c74 => ?_)
        · have hf := zifp hf c74
          refine z_mask (ls' := [_, _, _, _, _, _, _, _, _]) [true, true, true, true, true, true, false, false, false] rfl ?_
          exact tX0_findName_J91 hok d (by omega) N a p0 p1 p2 ha hp0 _ r k1 k2 hrec v4 x1 s5 hf
        · have hf := zifn hf c74
          refine z_iload dX0_findName_77 rfl ?_
          refine z_aload_n dX0_findName_79 rfl ?_
          refine z_getf dX0_findName_80 fX0_29 (at_Book s5 a ha) rfl ?_
          refine z_alen dX0_findName_83 (at_arr s5 (a + 9) (zBk_t a ha).2.2.2.2) ?_
          refine z_icmp_gt 91 dX0_findName_84 (by decide) (fun c84 => ?_) (fun c84 => ?_)
          · have hf := zifp hf c84
            refine z_mask (ls' := [_, _, _, _, _, _, _, _, _]) [true, true, true, true, true, true, false, false, false] rfl ?_
            exact tX0_findName_J91 hok d (by omega) N a p0 p1 p2 ha hp0 _ r k1 k2 hrec v4 x1 s5 hf
          · have hf := zifn hf c84
            refine z_iconst 1 dX0_findName_87 (by decide +kernel) ?_
            refine z_goto 92 dX0_findName_88 (by decide) ?_
            refine z_mask (ls' := [_, _, _, _, _, _, _, _, _]) [true, true, true, true, true, true, false, false, false] rfl ?_
            exact tX0_findName_J92 hok d (by omega) N a p0 p1 p2 ha hp0 _ r k1 k2 hrec v4 x1 1 s5 hf
noncomputable def fX0_findName (N : Nat) (a : Nat) (p0 : Nat) (p1 : Int32) (p2 : Int32) (s : zS) : Option (Int32 × zS) := if p1 < 0 then some ((-1), s) else if p2 < 1 then some ((-1), s) else if (p1 + p2) ≤ (nI (zlen p0)) then zbl (fX0_findName_L22 N a p0 p1 p2 N 0 s) (fun x => some x) (fun s18 => some ((-1), s18)) else some ((-1), s)
set_option maxHeartbeats 400000 in
set_option maxRecDepth 100000 in
theorem tX0_findName {g : zGl} (hok : zGok g) (d : Nat) (hd : 1 ≤ d) (N : Nat) (a : Nat) (p0 : Nat) (p1 : Int32) (p2 : Int32) (ha : zBk a) (hp0 : zAr p0) {s s' : zS} {w : Int32} (hf : fX0_findName N a p0 p1 p2 s = some (w, s')) : zMet g mX0_findName d 0 0 [.ref a, .ref p0, .int p1, .int p2] (zHp s) (zret (some (.int w)) (zHp s')) := by
  refine zMet.ofW (by decide +kernel) (Nat.le_of_ble_eq_true rfl) ?_
  show zW g mX0_findName d 0 0 51 _ 0 0 (zHp s) [some (.ref a), some (.ref p0), some (.int p1), some (.int p2), none, none, none, none, none] [] 0
  unfold fX0_findName at hf
  refine z_iload_n dX0_findName_0 rfl ?_
  refine z_if_lt 17 dX0_findName_1 (by decide) (fun c1 => ?_) (fun c1 => ?_)
  · have hf := zifp hf c1
    refine z_iconst (-1) dX0_findName_17 (by decide +kernel) ?_
    cases hf
    exact z_iret rfl dX0_findName_18 (Nat.zero_le _) (Nat.zero_le _) ⟨rfl, rfl⟩
  · have hf := zifn hf c1
    refine z_iload_n dX0_findName_4 rfl ?_
    refine z_iconst 1 dX0_findName_5 (by decide +kernel) ?_
    refine z_icmp_lt 17 dX0_findName_6 (by decide) (fun c6 => ?_) (fun c6 => ?_)
    · have hf := zifp hf c6
      refine z_iconst (-1) dX0_findName_17 (by decide +kernel) ?_
      cases hf
      exact z_iret rfl dX0_findName_18 (Nat.zero_le _) (Nat.zero_le _) ⟨rfl, rfl⟩
    · have hf := zifn hf c6
      refine z_iload_n dX0_findName_9 rfl ?_
      refine z_iload_n dX0_findName_10 rfl ?_
      refine z_iadd dX0_findName_11 ?_
      refine z_aload_n dX0_findName_12 rfl ?_
      refine z_alen dX0_findName_13 (at_arr s p0 hp0) ?_
      refine z_icmp_le 19 dX0_findName_14 (by decide) (fun c14 => ?_) (fun c14 => ?_)
      · have hf := zifp hf c14
        refine z_iconst 0 dX0_findName_19 (by decide +kernel) ?_
        refine z_istore (ls' := [_, _, _, _, _, _, _, _, _]) dX0_findName_20 (by decide) rfl ?_
        refine z_mask (ls' := [_, _, _, _, _, _, _, _, _]) [true, true, true, true, true, false, false, false, false] rfl ?_
        rcases zbl_of hf with ⟨lr16, le17, hf⟩ | ⟨lr16, le17, hf⟩
        · cases hf
          exact tX0_findName_L22 hok d (by omega) N a p0 p1 p2 ha hp0 N 0 s _ le17 (fun w1 s1 hh => by cases hh; exact ⟨rfl, rfl⟩) (fun  _ hh => by cases hh)
        · obtain ⟨s18, rfl⟩ : ∃ z, z = lr16 := ⟨_, rfl⟩
          refine tX0_findName_L22 hok d (by omega) N a p0 p1 p2 ha hp0 N 0 s _ le17 (fun w1 s1 hh => by cases hh) (fun  _ hh => ?_)
          cases hh
          refine z_iconst (-1) dX0_findName_154 (by decide +kernel) ?_
          cases hf
          exact z_iret rfl dX0_findName_155 (Nat.zero_le _) (Nat.zero_le _) ⟨rfl, rfl⟩
      · have hf := zifn hf c14
        refine z_iconst (-1) dX0_findName_17 (by decide +kernel) ?_
        cases hf
        exact z_iret rfl dX0_findName_18 (Nat.zero_le _) (Nat.zero_le _) ⟨rfl, rfl⟩

noncomputable def fX0_clear (N : Nat) (a : Nat) (s : zS) : Option (Unit × zS) := some ((), (zsc (zsc (zsc (zsc (zsc s (100 * (a + 1) + 3) 0) (100 * (a + 3) + 3) 0) (100 * (a + 5) + 3) 0) (100 * (a + 7) + 3) 0) (100 * a + 5) 0))
set_option maxHeartbeats 400000 in
set_option maxRecDepth 100000 in
theorem tX0_clear {g : zGl} (hok : zGok g) (d : Nat)  (N : Nat) (a : Nat) (ha : zBk a) {s s' : zS} {w : Unit} (hf : fX0_clear N a s = some (w, s')) : zMet g mX0_clear d 0 0 [.ref a] (zHp s) (zret none (zHp s')) := by
  refine zMet.ofW (by decide +kernel) (Nat.le_of_ble_eq_true rfl) ?_
  show zW g mX0_clear d 0 0 51 _ 0 0 (zHp s) [some (.ref a)] [] 0
  unfold fX0_clear at hf
  refine z_aload_n dX0_clear_0 rfl ?_
  refine z_getf dX0_clear_1 fX0_14 (at_Book s a ha) rfl ?_
  refine z_iconst 0 dX0_clear_4 (by decide +kernel) ?_
  refine z_putN hok dX0_clear_5 fX0_33 wX6_3 (at_Table s (a + 1) (zBk_t a ha).1) (Nat.le_of_ble_eq_true rfl) (fun _ => rfl) (fun _ => rfl) (st_Table_3 s (a + 1) (zBk_t a ha).1 0) ?_
  refine z_aload_n dX0_clear_8 rfl ?_
  refine z_getf dX0_clear_9 fX0_20 (at_Book (zsc s (100 * (a + 1) + 3) 0) a ha) rfl ?_
  refine z_iconst 0 dX0_clear_12 (by decide +kernel) ?_
  refine z_putN hok dX0_clear_13 fX0_33 wX6_3 (at_Table (zsc s (100 * (a + 1) + 3) 0) (a + 3) (zBk_t a ha).2.1) (Nat.le_of_ble_eq_true rfl) (fun _ => rfl) (fun _ => rfl) (st_Table_3 (zsc s (100 * (a + 1) + 3) 0) (a + 3) (zBk_t a ha).2.1 0) ?_
  refine z_aload_n dX0_clear_16 rfl ?_
  refine z_getf dX0_clear_17 fX0_23 (at_Book (zsc (zsc s (100 * (a + 1) + 3) 0) (100 * (a + 3) + 3) 0) a ha) rfl ?_
  refine z_iconst 0 dX0_clear_20 (by decide +kernel) ?_
  refine z_putN hok dX0_clear_21 fX0_33 wX6_3 (at_Table (zsc (zsc s (100 * (a + 1) + 3) 0) (100 * (a + 3) + 3) 0) (a + 5) (zBk_t a ha).2.2.1) (Nat.le_of_ble_eq_true rfl) (fun _ => rfl) (fun _ => rfl) (st_Table_3 (zsc (zsc s (100 * (a + 1) + 3) 0) (100 * (a + 3) + 3) 0) (a + 5) (zBk_t a ha).2.2.1 0) ?_
  refine z_aload_n dX0_clear_24 rfl ?_
  refine z_getf dX0_clear_25 fX0_26 (at_Book (zsc (zsc (zsc s (100 * (a + 1) + 3) 0) (100 * (a + 3) + 3) 0) (100 * (a + 5) + 3) 0) a ha) rfl ?_
  refine z_iconst 0 dX0_clear_28 (by decide +kernel) ?_
  refine z_putN hok dX0_clear_29 fX0_33 wX6_3 (at_Table (zsc (zsc (zsc s (100 * (a + 1) + 3) 0) (100 * (a + 3) + 3) 0) (100 * (a + 5) + 3) 0) (a + 7) (zBk_t a ha).2.2.2.1) (Nat.le_of_ble_eq_true rfl) (fun _ => rfl) (fun _ => rfl) (st_Table_3 (zsc (zsc (zsc s (100 * (a + 1) + 3) 0) (100 * (a + 3) + 3) 0) (100 * (a + 5) + 3) 0) (a + 7) (zBk_t a ha).2.2.2.1 0) ?_
  refine z_aload_n dX0_clear_32 rfl ?_
  refine z_iconst 0 dX0_clear_33 (by decide +kernel) ?_
  refine z_putf dX0_clear_34 fX0_37 wX0_5 (at_Book (zsc (zsc (zsc (zsc s (100 * (a + 1) + 3) 0) (100 * (a + 3) + 3) 0) (100 * (a + 5) + 3) 0) (100 * (a + 7) + 3) 0) a ha) (Nat.le_of_ble_eq_true rfl) (fun _ => rfl) (fun _ => rfl) (st_Book_5 (zsc (zsc (zsc (zsc s (100 * (a + 1) + 3) 0) (100 * (a + 3) + 3) 0) (100 * (a + 5) + 3) 0) (100 * (a + 7) + 3) 0) a ha 0) ?_
  cases hf
  exact z_vret rfl dX0_clear_37 (Nat.zero_le _) (Nat.zero_le _) ⟨rfl, rfl⟩

noncomputable def fX0_addByte (N : Nat) (a : Nat) (p0 : Int32) (s : zS) : Option (Unit × zS) := if (nI (zlen (a + 9))) ≤ (s.1 (100 * a + 5)) then some ((), s) else if zga (s.1 (100 * a + 5)) (zlen (a + 9)) = true then some ((), (zsc (zsr s (a + 9) (s.1 (100 * a + 5)) p0) (100 * a + 5) ((s.1 (100 * a + 5)) + 1))) else none
set_option maxHeartbeats 400000 in
set_option maxRecDepth 100000 in
theorem tX0_addByte {g : zGl} (hok : zGok g) (d : Nat)  (N : Nat) (a : Nat) (p0 : Int32) (ha : zBk a) {s s' : zS} {w : Unit} (hf : fX0_addByte N a p0 s = some (w, s')) : zMet g mX0_addByte d 0 0 [.ref a, .int p0] (zHp s) (zret none (zHp s')) := by
  refine zMet.ofW (by decide +kernel) (Nat.le_of_ble_eq_true rfl) ?_
  show zW g mX0_addByte d 0 0 51 _ 0 0 (zHp s) [some (.ref a), some (.int p0)] [] 0
  unfold fX0_addByte at hf
  refine z_aload_n dX0_addByte_0 rfl ?_
  refine z_getf dX0_addByte_1 fX0_37 (at_Book s a ha) rfl ?_
  refine z_aload_n dX0_addByte_4 rfl ?_
  refine z_getf dX0_addByte_5 fX0_29 (at_Book s a ha) rfl ?_
  refine z_alen dX0_addByte_8 (at_arr s (a + 9) (zBk_t a ha).2.2.2.2) ?_
  refine z_icmp_ge 32 dX0_addByte_9 (by decide) (fun c9 => ?_) (fun c9 => ?_)
  · have hf := zifp hf c9
    cases hf
    exact z_vret rfl dX0_addByte_32 (Nat.zero_le _) (Nat.zero_le _) ⟨rfl, rfl⟩
  · have hf := zifn hf c9
    refine z_aload_n dX0_addByte_12 rfl ?_
    refine z_getf dX0_addByte_13 fX0_29 (at_Book s a ha) rfl ?_
    refine z_aload_n dX0_addByte_16 rfl ?_
    refine z_getf dX0_addByte_17 fX0_37 (at_Book s a ha) rfl ?_
    refine z_iload_n dX0_addByte_20 rfl ?_
    obtain ⟨hi1, hf⟩ := zifs hf
    refine z_iastore dX0_addByte_21 (at_arr s (a + 9) (zBk_t a ha).2.2.2.2) (zga_in hi1) (st_arr s (a + 9) (zBk_t a ha).2.2.2.2 (s.1 (100 * a + 5)) p0) ?_
    refine z_aload_n dX0_addByte_22 rfl ?_
    refine z_dup dX0_addByte_23 rfl ?_
    refine z_getf dX0_addByte_24 fX0_37 (at_Book (zsr s (a + 9) (s.1 (100 * a + 5)) p0) a ha) rfl ?_
    refine z_iconst 1 dX0_addByte_27 (by decide +kernel) ?_
    refine z_iadd dX0_addByte_28 ?_
    refine z_putf dX0_addByte_29 fX0_37 wX0_5 (at_Book (zsr s (a + 9) (s.1 (100 * a + 5)) p0) a ha) (Nat.le_of_ble_eq_true rfl) (fun _ => rfl) (fun _ => rfl) (st_Book_5 (zsr s (a + 9) (s.1 (100 * a + 5)) p0) a ha ((s.1 (100 * a + 5)) + 1)) ?_
    cases hf
    exact z_vret rfl dX0_addByte_32 (Nat.zero_le _) (Nat.zero_le _) ⟨rfl, rfl⟩

noncomputable def fX0_addName_L37S (N : Nat) (a : Nat) (p0 : Nat) (p1 : Int32) (p2 : Int32) (rec : Int32 → Int32 → zS → Option ((Int32 × zS) ⊕ (Int32 × zS))) (v4 : Int32) (v5 : Int32) (s : zS) : Option ((Int32 × zS) ⊕ (Int32 × zS)) := if (p1 + p2) ≤ v5 then some (.inr (v4, s)) else if v5 < 0 then rec v4 (v5 + 1) s else if (nI (zlen p0)) ≤ v5 then rec v4 (v5 + 1) s else if zga v5 (zlen p0) = true then zbn (fX0_addByte N a (s.2.1 p0 v5.toNatClampNeg) s) (fun x11 s12 => rec v4 (v5 + 1) s12) else none
noncomputable def fX0_addName_L37 (N : Nat) (a : Nat) (p0 : Nat) (p1 : Int32) (p2 : Int32) (n : Nat) : Int32 → Int32 → zS → Option ((Int32 × zS) ⊕ (Int32 × zS)) := Nat.rec (motive := fun _ => Int32 → Int32 → zS → Option ((Int32 × zS) ⊕ (Int32 × zS))) (fun _ _ _ => none) (fun _ rec => fX0_addName_L37S N a p0 p1 p2 rec) n
set_option maxHeartbeats 400000 in
set_option maxRecDepth 100000 in
theorem tX0_addName_L37 {g : zGl} (hok : zGok g) (d : Nat) (hd : 1 ≤ d) (N : Nat) (a : Nat) (p0 : Nat) (p1 : Int32) (p2 : Int32) (ha : zBk a) (hp0 : zAr p0) {mc ms n0 : Nat} {Q : zO → List zE → Prop} (n : Nat) : ∀ (v4 : Int32) (v5 : Int32) (s : zS) (r : (Int32 × zS) ⊕ (Int32 × zS)) (hf : fX0_addName_L37 N a p0 p1 p2 n v4 v5 s = some r) (k1 : ∀ w s', r = .inl (w, s') → Q (.inl (some (.int w))) (zHp s')) (k2 : ∀ (y4 : Int32) (s' : zS), r = .inr (y4, s') → zW g mX0_addName d mc ms n0 Q 0 0 (zHp s') [some (.ref a), some (.ref p0), some (.int p1), some (.int p2), some (.int y4), none] [] 71), zW g mX0_addName d mc ms n0 Q 0 0 (zHp s) [some (.ref a), some (.ref p0), some (.int p1), some (.int p2), some (.int v4), some (.int v5)] [] 37 := by
  induction n with
  | zero => intro v4 v5 s r hf; cases hf
  | succ n ih =>
    intro v4 v5 s r hf k1 k2
    have hrec : ∀ (v4 : Int32) (v5 : Int32) (s : zS) (r1 : (Int32 × zS) ⊕ (Int32 × zS)), fX0_addName_L37 N a p0 p1 p2 n v4 v5 s = some r1 → r1 = r → zW g mX0_addName d mc ms n0 Q 0 0 (zHp s) [some (.ref a), some (.ref p0), some (.int p1), some (.int p2), some (.int v4), some (.int v5)] [] 37 := fun v4 v5 s r1 h e => ih v4 v5 s r1 h (by subst e; exact k1) (by subst e; exact k2)
    have hrec : ∀ (v4 : Int32) (v5 : Int32) (s : zS), fX0_addName_L37 N a p0 p1 p2 n v4 v5 s = some r → zW g mX0_addName d mc ms n0 Q 0 0 (zHp s) [some (.ref a), some (.ref p0), some (.int p1), some (.int p2), some (.int v4), some (.int v5)] [] 37 := fun v4 v5 s h => hrec v4 v5 s r h rfl
    have hf : fX0_addName_L37S N a p0 p1 p2 (fX0_addName_L37 N a p0 p1 p2 n) v4 v5 s = some r := hf
    unfold fX0_addName_L37S at hf
    refine z_iload dX0_addName_37 rfl ?_
    refine z_iload_n dX0_addName_39 rfl ?_
    refine z_iload_n dX0_addName_40 rfl ?_
    refine z_iadd dX0_addName_41 ?_
    refine z_icmp_ge 71 dX0_addName_42 (by decide) (fun c42 => ?_) (fun c42 => ?_)
    · have hf := zifp hf c42
      cases hf
      refine z_mask (ls' := [_, _, _, _, _, _]) [true, true, true, true, true, false] rfl ?_
      exact k2 _ _ rfl
    · have hf := zifn hf c42
      refine z_iload dX0_addName_45 rfl ?_
      refine z_if_lt 65 dX0_addName_47 (by decide) (fun c47 => ?_) (fun c47 => ?_)
      · have hf := zifp hf c47
        refine z_iinc (ls' := [_, _, _, _, _, _]) (v5 + 1) dX0_addName_65 rfl rfl (by decide) rfl ?_
        refine z_goto 37 dX0_addName_68 (by decide) ?_
        refine z_mask (ls' := [_, _, _, _, _, _]) [true, true, true, true, true, true] rfl ?_
        exact hrec v4 (v5 + 1) s hf
      · have hf := zifn hf c47
        refine z_iload dX0_addName_50 rfl ?_
        refine z_aload_n dX0_addName_52 rfl ?_
        refine z_alen dX0_addName_53 (at_arr s p0 hp0) ?_
        refine z_icmp_ge 65 dX0_addName_54 (by decide) (fun c54 => ?_) (fun c54 => ?_)
        · have hf := zifp hf c54
          refine z_iinc (ls' := [_, _, _, _, _, _]) (v5 + 1) dX0_addName_65 rfl rfl (by decide) rfl ?_
          refine z_goto 37 dX0_addName_68 (by decide) ?_
          refine z_mask (ls' := [_, _, _, _, _, _]) [true, true, true, true, true, true] rfl ?_
          exact hrec v4 (v5 + 1) s hf
        · have hf := zifn hf c54
          refine z_aload_n dX0_addName_57 rfl ?_
          refine z_aload_n dX0_addName_58 rfl ?_
          refine z_iload dX0_addName_59 rfl ?_
          obtain ⟨hi10, hf⟩ := zifs hf
          refine z_iald dX0_addName_61 (at_arr s p0 hp0) (zga_in hi10) ?_
          obtain ⟨x11, s12, q13, hf⟩ := zbn_of hf
          refine z_cV (as := [_]) hok dX0_addName_62 kX0_48 (tX0_addByte hok (d - 1) N a (s.2.1 p0 v5.toNatClampNeg) ha q13) rfl (at_Book s a ha) rfl rfl (by omega) (Nat.le_of_ble_eq_true rfl) (Nat.zero_le _) (Nat.zero_le _) rfl ?_
          refine z_iinc (ls' := [_, _, _, _, _, _]) (v5 + 1) dX0_addName_65 rfl rfl (by decide) rfl ?_
          refine z_goto 37 dX0_addName_68 (by decide) ?_
          refine z_mask (ls' := [_, _, _, _, _, _]) [true, true, true, true, true, true] rfl ?_
          exact hrec v4 (v5 + 1) s12 hf
noncomputable def fX0_addName (N : Nat) (a : Nat) (p0 : Nat) (p1 : Int32) (p2 : Int32) (s : zS) : Option (Int32 × zS) := zbn (fX6_addRow N (a + 7) s) (fun x1 s2 => zbn (fX6_setCell N (a + 7) x1 0 (s2.1 (100 * a + 5)) s2) (fun x4 s5 => zbn (fX6_setCell N (a + 7) x1 1 p2 s5) (fun x7 s8 => zbl (fX0_addName_L37 N a p0 p1 p2 N x1 p1 s8) (fun x => some x) (fun lq14 => match lq14 with | (y17, s18) => some (y17, s18)))))
set_option maxHeartbeats 400000 in
set_option maxRecDepth 100000 in
theorem tX0_addName {g : zGl} (hok : zGok g) (d : Nat) (hd : 1 ≤ d) (N : Nat) (a : Nat) (p0 : Nat) (p1 : Int32) (p2 : Int32) (ha : zBk a) (hp0 : zAr p0) {s s' : zS} {w : Int32} (hf : fX0_addName N a p0 p1 p2 s = some (w, s')) : zMet g mX0_addName d 0 0 [.ref a, .ref p0, .int p1, .int p2] (zHp s) (zret (some (.int w)) (zHp s')) := by
  refine zMet.ofW (by decide +kernel) (Nat.le_of_ble_eq_true rfl) ?_
  show zW g mX0_addName d 0 0 51 _ 0 0 (zHp s) [some (.ref a), some (.ref p0), some (.int p1), some (.int p2), none, none] [] 0
  unfold fX0_addName at hf
  refine z_aload_n dX0_addName_0 rfl ?_
  refine z_getf dX0_addName_1 fX0_26 (at_Book s a ha) rfl ?_
  obtain ⟨x1, s2, q3, hf⟩ := zbn_of hf
  refine z_cV (as := []) hok dX0_addName_4 kX0_40 (tX6_addRow hok (d - 1) N (a + 7) (zBk_t a ha).2.2.2.1 q3) rfl (at_Table s (a + 7) (zBk_t a ha).2.2.2.1) rfl rfl (by omega) (Nat.le_of_ble_eq_true rfl) (Nat.zero_le _) (Nat.zero_le _) rfl ?_
  refine z_istore (ls' := [_, _, _, _, _, _]) dX0_addName_7 (by decide) rfl ?_
  refine z_aload_n dX0_addName_9 rfl ?_
  refine z_getf dX0_addName_10 fX0_26 (at_Book s2 a ha) rfl ?_
  refine z_iload dX0_addName_13 rfl ?_
  refine z_iconst 0 dX0_addName_15 (by decide +kernel) ?_
  refine z_aload_n dX0_addName_16 rfl ?_
  refine z_getf dX0_addName_17 fX0_37 (at_Book s2 a ha) rfl ?_
  obtain ⟨x4, s5, q6, hf⟩ := zbn_of hf
  refine z_cV (as := [_, _, _]) hok dX0_addName_20 kX0_44 (tX6_setCell hok (d - 1) N (a + 7) x1 0 (s2.1 (100 * a + 5)) (zBk_t a ha).2.2.2.1 q6) rfl (at_Table s2 (a + 7) (zBk_t a ha).2.2.2.1) rfl rfl (by omega) (Nat.le_of_ble_eq_true rfl) (Nat.zero_le _) (Nat.zero_le _) rfl ?_
  refine z_aload_n dX0_addName_23 rfl ?_
  refine z_getf dX0_addName_24 fX0_26 (at_Book s5 a ha) rfl ?_
  refine z_iload dX0_addName_27 rfl ?_
  refine z_iconst 1 dX0_addName_29 (by decide +kernel) ?_
  refine z_iload_n dX0_addName_30 rfl ?_
  obtain ⟨x7, s8, q9, hf⟩ := zbn_of hf
  refine z_cV (as := [_, _, _]) hok dX0_addName_31 kX0_44 (tX6_setCell hok (d - 1) N (a + 7) x1 1 p2 (zBk_t a ha).2.2.2.1 q9) rfl (at_Table s5 (a + 7) (zBk_t a ha).2.2.2.1) rfl rfl (by omega) (Nat.le_of_ble_eq_true rfl) (Nat.zero_le _) (Nat.zero_le _) rfl ?_
  refine z_iload_n dX0_addName_34 rfl ?_
  refine z_istore (ls' := [_, _, _, _, _, _]) dX0_addName_35 (by decide) rfl ?_
  refine z_mask (ls' := [_, _, _, _, _, _]) [true, true, true, true, true, true] rfl ?_
  rcases zbl_of hf with ⟨lr15, le16, hf⟩ | ⟨lr15, le16, hf⟩
  · cases hf
    exact tX0_addName_L37 hok d (by omega) N a p0 p1 p2 ha hp0 N x1 p1 s8 _ le16 (fun w1 s1 hh => by cases hh; exact ⟨rfl, rfl⟩) (fun _ _ hh => by cases hh)
  · obtain ⟨y17, s18⟩ := lr15
    refine tX0_addName_L37 hok d (by omega) N a p0 p1 p2 ha hp0 N x1 p1 s8 _ le16 (fun w1 s1 hh => by cases hh) (fun _ _ hh => ?_)
    cases hh
    refine z_iload dX0_addName_71 rfl ?_
    cases hf
    exact z_iret rfl dX0_addName_73 (Nat.zero_le _) (Nat.zero_le _) ⟨rfl, rfl⟩

noncomputable def fX0_addItem (N : Nat) (a : Nat) (p0 : Int32) (p1 : Int32) (s : zS) : Option (Unit × zS) := zbn (fX6_addRow N (a + 5) s) (fun x1 s2 => zbn (fX6_setCell N (a + 5) x1 0 p0 s2) (fun x4 s5 => zbn (fX6_setCell N (a + 5) x1 1 p1 s5) (fun x7 s8 => some ((), s8))))
set_option maxHeartbeats 400000 in
set_option maxRecDepth 100000 in
theorem tX0_addItem {g : zGl} (hok : zGok g) (d : Nat) (hd : 1 ≤ d) (N : Nat) (a : Nat) (p0 : Int32) (p1 : Int32) (ha : zBk a) {s s' : zS} {w : Unit} (hf : fX0_addItem N a p0 p1 s = some (w, s')) : zMet g mX0_addItem d 0 0 [.ref a, .int p0, .int p1] (zHp s) (zret none (zHp s')) := by
  refine zMet.ofW (by decide +kernel) (Nat.le_of_ble_eq_true rfl) ?_
  show zW g mX0_addItem d 0 0 51 _ 0 0 (zHp s) [some (.ref a), some (.int p0), some (.int p1), none] [] 0
  unfold fX0_addItem at hf
  refine z_aload_n dX0_addItem_0 rfl ?_
  refine z_getf dX0_addItem_1 fX0_23 (at_Book s a ha) rfl ?_
  obtain ⟨x1, s2, q3, hf⟩ := zbn_of hf
  refine z_cV (as := []) hok dX0_addItem_4 kX0_40 (tX6_addRow hok (d - 1) N (a + 5) (zBk_t a ha).2.2.1 q3) rfl (at_Table s (a + 5) (zBk_t a ha).2.2.1) rfl rfl (by omega) (Nat.le_of_ble_eq_true rfl) (Nat.zero_le _) (Nat.zero_le _) rfl ?_
  refine z_istore_n (ls' := [_, _, _, _]) dX0_addItem_7 (by decide) rfl ?_
  refine z_aload_n dX0_addItem_8 rfl ?_
  refine z_getf dX0_addItem_9 fX0_23 (at_Book s2 a ha) rfl ?_
  refine z_iload_n dX0_addItem_12 rfl ?_
  refine z_iconst 0 dX0_addItem_13 (by decide +kernel) ?_
  refine z_iload_n dX0_addItem_14 rfl ?_
  obtain ⟨x4, s5, q6, hf⟩ := zbn_of hf
  refine z_cV (as := [_, _, _]) hok dX0_addItem_15 kX0_44 (tX6_setCell hok (d - 1) N (a + 5) x1 0 p0 (zBk_t a ha).2.2.1 q6) rfl (at_Table s2 (a + 5) (zBk_t a ha).2.2.1) rfl rfl (by omega) (Nat.le_of_ble_eq_true rfl) (Nat.zero_le _) (Nat.zero_le _) rfl ?_
  refine z_aload_n dX0_addItem_18 rfl ?_
  refine z_getf dX0_addItem_19 fX0_23 (at_Book s5 a ha) rfl ?_
  refine z_iload_n dX0_addItem_22 rfl ?_
  refine z_iconst 1 dX0_addItem_23 (by decide +kernel) ?_
  refine z_iload_n dX0_addItem_24 rfl ?_
  obtain ⟨x7, s8, q9, hf⟩ := zbn_of hf
  refine z_cV (as := [_, _, _]) hok dX0_addItem_25 kX0_44 (tX6_setCell hok (d - 1) N (a + 5) x1 1 p1 (zBk_t a ha).2.2.1 q9) rfl (at_Table s5 (a + 5) (zBk_t a ha).2.2.1) rfl rfl (by omega) (Nat.le_of_ble_eq_true rfl) (Nat.zero_le _) (Nat.zero_le _) rfl ?_
  cases hf
  exact z_vret rfl dX0_addItem_28 (Nat.zero_le _) (Nat.zero_le _) ⟨rfl, rfl⟩

noncomputable def fX8_addByte (N : Nat) (p0 : Int32) (s : zS) : Option (Unit × zS) := if (nI (zlen 5)) ≤ (s.1 402) then some ((), s) else if zga (s.1 402) (zlen 5) = true then some ((), (zsc (zsr s 5 (s.1 402) p0) 402 ((s.1 402) + 1))) else none
set_option maxHeartbeats 400000 in
set_option maxRecDepth 100000 in
theorem tX8_addByte {g : zGl} (hok : zGok g) (d : Nat)  (N : Nat) (p0 : Int32)  {s s' : zS} {w : Unit} (hf : fX8_addByte N p0 s = some (w, s')) : zMet g mX8_addByte d 0 0 [.ref 4, .int p0] (zHp s) (zret none (zHp s')) := by
  refine zMet.ofW (by decide +kernel) (Nat.le_of_ble_eq_true rfl) ?_
  show zW g mX8_addByte d 0 0 51 _ 0 0 (zHp s) [some (.ref 4), some (.int p0)] [] 0
  unfold fX8_addByte at hf
  refine z_aload_n dX8_addByte_0 rfl ?_
  refine z_getf dX8_addByte_1 fX8_24 (at_Words s) rfl ?_
  refine z_aload_n dX8_addByte_4 rfl ?_
  refine z_getf dX8_addByte_5 fX8_9 (at_Words s) rfl ?_
  refine z_alen dX8_addByte_8 (at_arr s 5 (by decide)) ?_
  refine z_icmp_ge 32 dX8_addByte_9 (by decide) (fun c9 => ?_) (fun c9 => ?_)
  · have hf := zifp hf c9
    cases hf
    exact z_vret rfl dX8_addByte_32 (Nat.zero_le _) (Nat.zero_le _) ⟨rfl, rfl⟩
  · have hf := zifn hf c9
    refine z_aload_n dX8_addByte_12 rfl ?_
    refine z_getf dX8_addByte_13 fX8_9 (at_Words s) rfl ?_
    refine z_aload_n dX8_addByte_16 rfl ?_
    refine z_getf dX8_addByte_17 fX8_24 (at_Words s) rfl ?_
    refine z_iload_n dX8_addByte_20 rfl ?_
    obtain ⟨hi1, hf⟩ := zifs hf
    refine z_iastore dX8_addByte_21 (at_arr s 5 (by decide)) (zga_in hi1) (st_arr s 5 (by decide) (s.1 402) p0) ?_
    refine z_aload_n dX8_addByte_22 rfl ?_
    refine z_dup dX8_addByte_23 rfl ?_
    refine z_getf dX8_addByte_24 fX8_24 (at_Words (zsr s 5 (s.1 402) p0)) rfl ?_
    refine z_iconst 1 dX8_addByte_27 (by decide +kernel) ?_
    refine z_iadd dX8_addByte_28 ?_
    refine z_putf dX8_addByte_29 fX8_24 wX8_2 (at_Words (zsr s 5 (s.1 402) p0)) (Nat.le_of_ble_eq_true rfl) (fun _ => rfl) (fun _ => rfl) (st_Words_2 (zsr s 5 (s.1 402) p0) ((s.1 402) + 1)) ?_
    cases hf
    exact z_vret rfl dX8_addByte_32 (Nat.zero_le _) (Nat.zero_le _) ⟨rfl, rfl⟩

noncomputable def fX8_byteAt (N : Nat) (p0 : Int32) (s : zS) : Option (Int32 × zS) := if p0 < 0 then some ((-1), s) else if (s.1 403) ≤ p0 then some ((-1), s) else if (nI (zlen 5)) ≤ p0 then some ((-1), s) else if zga p0 (zlen 5) = true then some (s.2.1 5 p0.toNatClampNeg, s) else none
set_option maxHeartbeats 400000 in
set_option maxRecDepth 100000 in
theorem tX8_byteAt {g : zGl} (hok : zGok g) (d : Nat)  (N : Nat) (p0 : Int32)  {s s' : zS} {w : Int32} (hf : fX8_byteAt N p0 s = some (w, s')) : zMet g mX8_byteAt d 0 0 [.ref 4, .int p0] (zHp s) (zret (some (.int w)) (zHp s')) := by
  refine zMet.ofW (by decide +kernel) (Nat.le_of_ble_eq_true rfl) ?_
  show zW g mX8_byteAt d 0 0 51 _ 0 0 (zHp s) [some (.ref 4), some (.int p0)] [] 0
  unfold fX8_byteAt at hf
  refine z_iload_n dX8_byteAt_0 rfl ?_
  refine z_if_lt 30 dX8_byteAt_1 (by decide) (fun c1 => ?_) (fun c1 => ?_)
  · have hf := zifp hf c1
    refine z_iconst (-1) dX8_byteAt_30 (by decide +kernel) ?_
    cases hf
    exact z_iret rfl dX8_byteAt_31 (Nat.zero_le _) (Nat.zero_le _) ⟨rfl, rfl⟩
  · have hf := zifn hf c1
    refine z_iload_n dX8_byteAt_4 rfl ?_
    refine z_aload_n dX8_byteAt_5 rfl ?_
    refine z_getf dX8_byteAt_6 fX8_28 (at_Words s) rfl ?_
    refine z_icmp_ge 30 dX8_byteAt_9 (by decide) (fun c9 => ?_) (fun c9 => ?_)
    · have hf := zifp hf c9
      refine z_iconst (-1) dX8_byteAt_30 (by decide +kernel) ?_
      cases hf
      exact z_iret rfl dX8_byteAt_31 (Nat.zero_le _) (Nat.zero_le _) ⟨rfl, rfl⟩
    · have hf := zifn hf c9
      refine z_iload_n dX8_byteAt_12 rfl ?_
      refine z_aload_n dX8_byteAt_13 rfl ?_
      refine z_getf dX8_byteAt_14 fX8_9 (at_Words s) rfl ?_
      refine z_alen dX8_byteAt_17 (at_arr s 5 (by decide)) ?_
      refine z_icmp_ge 30 dX8_byteAt_18 (by decide) (fun c18 => ?_) (fun c18 => ?_)
      · have hf := zifp hf c18
        refine z_iconst (-1) dX8_byteAt_30 (by decide +kernel) ?_
        cases hf
        exact z_iret rfl dX8_byteAt_31 (Nat.zero_le _) (Nat.zero_le _) ⟨rfl, rfl⟩
      · have hf := zifn hf c18
        refine z_aload_n dX8_byteAt_21 rfl ?_
        refine z_getf dX8_byteAt_22 fX8_9 (at_Words s) rfl ?_
        refine z_iload_n dX8_byteAt_25 rfl ?_
        obtain ⟨hi1, hf⟩ := zifs hf
        refine z_iald dX8_byteAt_26 (at_arr s 5 (by decide)) (zga_in hi1) ?_
        refine z_goto 31 dX8_byteAt_27 (by decide) ?_
        cases hf
        exact z_iret rfl dX8_byteAt_31 (Nat.zero_le _) (Nat.zero_le _) ⟨rfl, rfl⟩

noncomputable def fX8_scanComment_J50 (N : Nat)  (rec : zS → Option ((Int32 × zS) ⊕ (zS)))  (s : zS) : Option ((Int32 × zS) ⊕ (zS)) := rec  (zsc s 404 ((s.1 404) + 1))
set_option maxHeartbeats 400000 in
set_option maxRecDepth 100000 in
theorem tX8_scanComment_J50 {g : zGl} (hok : zGok g) (d : Nat) (hd : 1 ≤ d) (N : Nat)   {mc ms n0 : Nat} {Q : zO → List zE → Prop} (rec : zS → Option ((Int32 × zS) ⊕ (zS))) (r : (Int32 × zS) ⊕ (zS)) (k1 : ∀ w s', r = .inl (w, s') → Q (.inl (some (.int w))) (zHp s')) (k2 : ∀  (s' : zS), r = .inr (s') → zW g mX8_scanComment d mc ms n0 Q 0 0 (zHp s') [some (.ref 4)] [] 63) (hrec : ∀  (s : zS), rec  s = some r → zW g mX8_scanComment d mc ms n0 Q 0 0 (zHp s) [some (.ref 4)] [] 0)  (s : zS) (hf : fX8_scanComment_J50 N  rec  s = some r) : zW g mX8_scanComment d mc ms n0 Q 0 0 (zHp s) [some (.ref 4)] [] 50 := by
  unfold fX8_scanComment_J50 at hf
  refine z_aload_n dX8_scanComment_50 rfl ?_
  refine z_dup dX8_scanComment_51 rfl ?_
  refine z_getf dX8_scanComment_52 fX8_31 (at_Words s) rfl ?_
  refine z_iconst 1 dX8_scanComment_55 (by decide +kernel) ?_
  refine z_iadd dX8_scanComment_56 ?_
  refine z_putf dX8_scanComment_57 fX8_31 wX8_4 (at_Words s) (Nat.le_of_ble_eq_true rfl) (fun _ => rfl) (fun _ => rfl) (st_Words_4 s ((s.1 404) + 1)) ?_
  refine z_goto 0 dX8_scanComment_60 (by decide) ?_
  refine z_mask (ls' := [_]) [true] rfl ?_
  exact hrec  (zsc s 404 ((s.1 404) + 1)) hf
noncomputable def fX8_scanComment_J37 (N : Nat)  (rec : zS → Option ((Int32 × zS) ⊕ (zS)))  (s : zS) : Option ((Int32 × zS) ⊕ (zS)) := zbn (fX8_byteAt N (s.1 404) s) (fun x4 s5 => if x4 = 9 then fX8_scanComment_J50 N  rec  s5 else some (.inr (s5)))
set_option maxHeartbeats 400000 in
set_option maxRecDepth 100000 in
theorem tX8_scanComment_J37 {g : zGl} (hok : zGok g) (d : Nat) (hd : 1 ≤ d) (N : Nat)   {mc ms n0 : Nat} {Q : zO → List zE → Prop} (rec : zS → Option ((Int32 × zS) ⊕ (zS))) (r : (Int32 × zS) ⊕ (zS)) (k1 : ∀ w s', r = .inl (w, s') → Q (.inl (some (.int w))) (zHp s')) (k2 : ∀  (s' : zS), r = .inr (s') → zW g mX8_scanComment d mc ms n0 Q 0 0 (zHp s') [some (.ref 4)] [] 63) (hrec : ∀  (s : zS), rec  s = some r → zW g mX8_scanComment d mc ms n0 Q 0 0 (zHp s) [some (.ref 4)] [] 0)  (s : zS) (hf : fX8_scanComment_J37 N  rec  s = some r) : zW g mX8_scanComment d mc ms n0 Q 0 0 (zHp s) [some (.ref 4)] [] 37 := by
  unfold fX8_scanComment_J37 at hf
  refine z_aload_n dX8_scanComment_37 rfl ?_
  refine z_aload_n dX8_scanComment_38 rfl ?_
  refine z_getf dX8_scanComment_39 fX8_31 (at_Words s) rfl ?_
  obtain ⟨x4, s5, q6, hf⟩ := zbn_of hf
  refine z_cV (as := [_]) hok dX8_scanComment_42 kX8_54 (tX8_byteAt hok (d - 1) N (s.1 404)  q6) rfl (at_Words s) rfl rfl (by omega) (Nat.le_of_ble_eq_true rfl) (Nat.zero_le _) (Nat.zero_le _) rfl ?_
  refine z_bipush 9 dX8_scanComment_45 (by decide +kernel) ?_
  refine z_icmp_ne 63 dX8_scanComment_47 (by decide) (fun c47 => ?_) (fun c47 => ?_)
  · have hf := zifn hf c47
    cases hf
    refine z_mask (ls' := [_]) [true] rfl ?_
    exact k2  _ rfl
  · have hf := zifp hf c47
    refine z_mask (ls' := [_]) [true] rfl ?_
    exact tX8_scanComment_J50 hok d (by omega) N   _ r k1 k2 hrec  s5 hf
noncomputable def fX8_scanComment_L0S (N : Nat)  (rec : zS → Option ((Int32 × zS) ⊕ (zS)))  (s : zS) : Option ((Int32 × zS) ⊕ (zS)) := if (s.1 403) ≤ (s.1 404) then some (.inr (s)) else zbn (fX8_byteAt N (s.1 404) s) (fun x1 s2 => if x1 < 32 then fX8_scanComment_J37 N  rec  s2 else zbn (fX8_byteAt N (s2.1 404) s2) (fun x7 s8 => if x7 ≤ 126 then fX8_scanComment_J50 N  rec  s8 else fX8_scanComment_J37 N  rec  s8))
noncomputable def fX8_scanComment_L0 (N : Nat)  (n : Nat) : zS → Option ((Int32 × zS) ⊕ (zS)) := Nat.rec (motive := fun _ => zS → Option ((Int32 × zS) ⊕ (zS))) (fun  _ => none) (fun _ rec => fX8_scanComment_L0S N  rec) n
set_option maxHeartbeats 400000 in
set_option maxRecDepth 100000 in
theorem tX8_scanComment_L0 {g : zGl} (hok : zGok g) (d : Nat) (hd : 1 ≤ d) (N : Nat)   {mc ms n0 : Nat} {Q : zO → List zE → Prop} (n : Nat) : ∀  (s : zS) (r : (Int32 × zS) ⊕ (zS)) (hf : fX8_scanComment_L0 N  n  s = some r) (k1 : ∀ w s', r = .inl (w, s') → Q (.inl (some (.int w))) (zHp s')) (k2 : ∀  (s' : zS), r = .inr (s') → zW g mX8_scanComment d mc ms n0 Q 0 0 (zHp s') [some (.ref 4)] [] 63), zW g mX8_scanComment d mc ms n0 Q 0 0 (zHp s) [some (.ref 4)] [] 0 := by
  induction n with
  | zero => intro  s r hf; cases hf
  | succ n ih =>
    intro  s r hf k1 k2
    have hrec : ∀  (s : zS) (r1 : (Int32 × zS) ⊕ (zS)), fX8_scanComment_L0 N  n  s = some r1 → r1 = r → zW g mX8_scanComment d mc ms n0 Q 0 0 (zHp s) [some (.ref 4)] [] 0 := fun  s r1 h e => ih  s r1 h (by subst e; exact k1) (by subst e; exact k2)
    have hrec : ∀  (s : zS), fX8_scanComment_L0 N  n  s = some r → zW g mX8_scanComment d mc ms n0 Q 0 0 (zHp s) [some (.ref 4)] [] 0 := fun  s h => hrec  s r h rfl
    have hf : fX8_scanComment_L0S N  (fX8_scanComment_L0 N  n)  s = some r := hf
    unfold fX8_scanComment_L0S at hf
    refine z_aload_n dX8_scanComment_0 rfl ?_
    refine z_getf dX8_scanComment_1 fX8_31 (at_Words s) rfl ?_
    refine z_aload_n dX8_scanComment_4 rfl ?_
    refine z_getf dX8_scanComment_5 fX8_28 (at_Words s) rfl ?_
    refine z_icmp_ge 63 dX8_scanComment_8 (by decide) (fun c8 => ?_) (fun c8 => ?_)
    · have hf := zifp hf c8
      cases hf
      refine z_mask (ls' := [_]) [true] rfl ?_
      exact k2  _ rfl
    · have hf := zifn hf c8
      refine z_aload_n dX8_scanComment_11 rfl ?_
      refine z_aload_n dX8_scanComment_12 rfl ?_
      refine z_getf dX8_scanComment_13 fX8_31 (at_Words s) rfl ?_
      obtain ⟨x1, s2, q3, hf⟩ := zbn_of hf
      refine z_cV (as := [_]) hok dX8_scanComment_16 kX8_54 (tX8_byteAt hok (d - 1) N (s.1 404)  q3) rfl (at_Words s) rfl rfl (by omega) (Nat.le_of_ble_eq_true rfl) (Nat.zero_le _) (Nat.zero_le _) rfl ?_
      refine z_bipush 32 dX8_scanComment_19 (by decide +kernel) ?_
      refine z_icmp_lt 37 dX8_scanComment_21 (by decide) (fun c21 => ?_) (fun c21 => ?_)
      · have hf := zifp hf c21
        refine z_mask (ls' := [_]) [true] rfl ?_
        exact tX8_scanComment_J37 hok d (by omega) N   _ r k1 k2 hrec  s2 hf
      · have hf := zifn hf c21
        refine z_aload_n dX8_scanComment_24 rfl ?_
        refine z_aload_n dX8_scanComment_25 rfl ?_
        refine z_getf dX8_scanComment_26 fX8_31 (at_Words s2) rfl ?_
        obtain ⟨x7, s8, q9, hf⟩ := zbn_of hf
        refine z_cV (as := [_]) hok dX8_scanComment_29 kX8_54 (tX8_byteAt hok (d - 1) N (s2.1 404)  q9) rfl (at_Words s2) rfl rfl (by omega) (Nat.le_of_ble_eq_true rfl) (Nat.zero_le _) (Nat.zero_le _) rfl ?_
        refine z_bipush 126 dX8_scanComment_32 (by decide +kernel) ?_
        refine z_icmp_le 50 dX8_scanComment_34 (by decide) (fun c34 => ?_) (fun c34 => ?_)
        · have hf := zifp hf c34
          refine z_mask (ls' := [_]) [true] rfl ?_
          exact tX8_scanComment_J50 hok d (by omega) N   _ r k1 k2 hrec  s8 hf
        · have hf := zifn hf c34
          refine z_mask (ls' := [_]) [true] rfl ?_
          exact tX8_scanComment_J37 hok d (by omega) N   _ r k1 k2 hrec  s8 hf
noncomputable def fX8_scanComment (N : Nat)  (s : zS) : Option (Int32 × zS) := zbl (fX8_scanComment_L0 N  N  s) (fun x => some x) (fun s13 => some (25, s13))
set_option maxHeartbeats 400000 in
set_option maxRecDepth 100000 in
theorem tX8_scanComment {g : zGl} (hok : zGok g) (d : Nat) (hd : 1 ≤ d) (N : Nat)   {s s' : zS} {w : Int32} (hf : fX8_scanComment N  s = some (w, s')) : zMet g mX8_scanComment d 0 0 [.ref 4] (zHp s) (zret (some (.int w)) (zHp s')) := by
  refine zMet.ofW (by decide +kernel) (Nat.le_of_ble_eq_true rfl) ?_
  show zW g mX8_scanComment d 0 0 51 _ 0 0 (zHp s) [some (.ref 4)] [] 0
  unfold fX8_scanComment at hf
  refine z_mask (ls' := [_]) [true] rfl ?_
  rcases zbl_of hf with ⟨lr11, le12, hf⟩ | ⟨lr11, le12, hf⟩
  · cases hf
    exact tX8_scanComment_L0 hok d (by omega) N   N  s _ le12 (fun w1 s1 hh => by cases hh; exact ⟨rfl, rfl⟩) (fun  _ hh => by cases hh)
  · obtain ⟨s13, rfl⟩ : ∃ z, z = lr11 := ⟨_, rfl⟩
    refine tX8_scanComment_L0 hok d (by omega) N   N  s _ le12 (fun w1 s1 hh => by cases hh) (fun  _ hh => ?_)
    cases hh
    refine z_bipush 25 dX8_scanComment_63 (by decide +kernel) ?_
    cases hf
    exact z_iret rfl dX8_scanComment_65 (Nat.zero_le _) (Nat.zero_le _) ⟨rfl, rfl⟩

noncomputable def fX8_isDigit (N : Nat) (p0 : Int32) (s : zS) : Option (Int32 × zS) := if p0 < 48 then some (0, s) else if 57 < p0 then some (0, s) else some (1, s)
set_option maxHeartbeats 400000 in
set_option maxRecDepth 100000 in
theorem tX8_isDigit {g : zGl} (hok : zGok g) (d : Nat)  (N : Nat) (p0 : Int32)  {s s' : zS} {w : Int32} (hf : fX8_isDigit N p0 s = some (w, s')) : zMet g mX8_isDigit d 0 0 [.int p0] (zHp s) (zret (some (.int w)) (zHp s')) := by
  refine zMet.ofW (by decide +kernel) (Nat.le_of_ble_eq_true rfl) ?_
  show zW g mX8_isDigit d 0 0 51 _ 0 0 (zHp s) [some (.int p0)] [] 0
  unfold fX8_isDigit at hf
  refine z_iload_n dX8_isDigit_0 rfl ?_
  refine z_bipush 48 dX8_isDigit_1 (by decide +kernel) ?_
  refine z_icmp_lt 16 dX8_isDigit_3 (by decide) (fun c3 => ?_) (fun c3 => ?_)
  · have hf := zifp hf c3
    refine z_iconst 0 dX8_isDigit_16 (by decide +kernel) ?_
    cases hf
    exact z_zret rfl (by decide) dX8_isDigit_17 (Nat.zero_le _) (Nat.zero_le _) ⟨rfl, rfl⟩
  · have hf := zifn hf c3
    refine z_iload_n dX8_isDigit_6 rfl ?_
    refine z_bipush 57 dX8_isDigit_7 (by decide +kernel) ?_
    refine z_icmp_gt 16 dX8_isDigit_9 (by decide) (fun c9 => ?_) (fun c9 => ?_)
    · have hf := zifp hf c9
      refine z_iconst 0 dX8_isDigit_16 (by decide +kernel) ?_
      cases hf
      exact z_zret rfl (by decide) dX8_isDigit_17 (Nat.zero_le _) (Nat.zero_le _) ⟨rfl, rfl⟩
    · have hf := zifn hf c9
      refine z_iconst 1 dX8_isDigit_12 (by decide +kernel) ?_
      refine z_goto 17 dX8_isDigit_13 (by decide) ?_
      cases hf
      exact z_zret rfl (by decide) dX8_isDigit_17 (Nat.zero_le _) (Nat.zero_le _) ⟨rfl, rfl⟩

noncomputable def fX8_digitOf (N : Nat) (p0 : Int32) (s : zS) : Option (Int32 × zS) := zbn (fX8_isDigit N p0 s) (fun x1 s2 => if x1 = 0 then if p0 < 97 then if p0 < 65 then some (16, s2) else if 70 < p0 then some (16, s2) else some ((p0 - 65) + 10, s2) else if 102 < p0 then if p0 < 65 then some (16, s2) else if 70 < p0 then some (16, s2) else some ((p0 - 65) + 10, s2) else some ((p0 - 97) + 10, s2) else some (p0 - 48, s2))
set_option maxHeartbeats 400000 in
set_option maxRecDepth 100000 in
theorem tX8_digitOf {g : zGl} (hok : zGok g) (d : Nat) (hd : 1 ≤ d) (N : Nat) (p0 : Int32)  {s s' : zS} {w : Int32} (hf : fX8_digitOf N p0 s = some (w, s')) : zMet g mX8_digitOf d 0 0 [.int p0] (zHp s) (zret (some (.int w)) (zHp s')) := by
  refine zMet.ofW (by decide +kernel) (Nat.le_of_ble_eq_true rfl) ?_
  show zW g mX8_digitOf d 0 0 51 _ 0 0 (zHp s) [some (.int p0)] [] 0
  unfold fX8_digitOf at hf
  refine z_iload_n dX8_digitOf_0 rfl ?_
  obtain ⟨x1, s2, q3, hf⟩ := zbn_of hf
  refine z_cS (as := [_]) hok dX8_digitOf_1 kX8_61 (tX8_isDigit hok (d - 1) N p0  q3) rfl rfl (by omega) (Nat.le_of_ble_eq_true rfl) (Nat.zero_le _) (Nat.zero_le _) rfl ?_
  refine z_if_eq 12 dX8_digitOf_4 (by decide) (fun c4 => ?_) (fun c4 => ?_)
  · have hf := zifp hf c4
    refine z_iload_n dX8_digitOf_12 rfl ?_
    refine z_bipush 97 dX8_digitOf_13 (by decide +kernel) ?_
    refine z_icmp_lt 32 dX8_digitOf_15 (by decide) (fun c15 => ?_) (fun c15 => ?_)
    · have hf := zifp hf c15
      refine z_iload_n dX8_digitOf_32 rfl ?_
      refine z_bipush 65 dX8_digitOf_33 (by decide +kernel) ?_
      refine z_icmp_lt 54 dX8_digitOf_35 (by decide) (fun c35 => ?_) (fun c35 => ?_)
      · have hf := zifp hf c35
        refine z_bipush 16 dX8_digitOf_54 (by decide +kernel) ?_
        cases hf
        exact z_iret rfl dX8_digitOf_56 (Nat.zero_le _) (Nat.zero_le _) ⟨rfl, rfl⟩
      · have hf := zifn hf c35
        refine z_iload_n dX8_digitOf_38 rfl ?_
        refine z_bipush 70 dX8_digitOf_39 (by decide +kernel) ?_
        refine z_icmp_gt 54 dX8_digitOf_41 (by decide) (fun c41 => ?_) (fun c41 => ?_)
        · have hf := zifp hf c41
          refine z_bipush 16 dX8_digitOf_54 (by decide +kernel) ?_
          cases hf
          exact z_iret rfl dX8_digitOf_56 (Nat.zero_le _) (Nat.zero_le _) ⟨rfl, rfl⟩
        · have hf := zifn hf c41
          refine z_iload_n dX8_digitOf_44 rfl ?_
          refine z_bipush 65 dX8_digitOf_45 (by decide +kernel) ?_
          refine z_isub dX8_digitOf_47 ?_
          refine z_bipush 10 dX8_digitOf_48 (by decide +kernel) ?_
          refine z_iadd dX8_digitOf_50 ?_
          refine z_goto 56 dX8_digitOf_51 (by decide) ?_
          cases hf
          exact z_iret rfl dX8_digitOf_56 (Nat.zero_le _) (Nat.zero_le _) ⟨rfl, rfl⟩
    · have hf := zifn hf c15
      refine z_iload_n dX8_digitOf_18 rfl ?_
      refine z_bipush 102 dX8_digitOf_19 (by decide +kernel) ?_
      refine z_icmp_gt 32 dX8_digitOf_21 (by decide) (fun c21 => ?_) (fun c21 => ?_)
      · have hf := zifp hf c21
        refine z_iload_n dX8_digitOf_32 rfl ?_
        refine z_bipush 65 dX8_digitOf_33 (by decide +kernel) ?_
        refine z_icmp_lt 54 dX8_digitOf_35 (by decide) (fun c35 => ?_) (fun c35 => ?_)
        · have hf := zifp hf c35
          refine z_bipush 16 dX8_digitOf_54 (by decide +kernel) ?_
          cases hf
          exact z_iret rfl dX8_digitOf_56 (Nat.zero_le _) (Nat.zero_le _) ⟨rfl, rfl⟩
        · have hf := zifn hf c35
          refine z_iload_n dX8_digitOf_38 rfl ?_
          refine z_bipush 70 dX8_digitOf_39 (by decide +kernel) ?_
          refine z_icmp_gt 54 dX8_digitOf_41 (by decide) (fun c41 => ?_) (fun c41 => ?_)
          · have hf := zifp hf c41
            refine z_bipush 16 dX8_digitOf_54 (by decide +kernel) ?_
            cases hf
            exact z_iret rfl dX8_digitOf_56 (Nat.zero_le _) (Nat.zero_le _) ⟨rfl, rfl⟩
          · have hf := zifn hf c41
            refine z_iload_n dX8_digitOf_44 rfl ?_
            refine z_bipush 65 dX8_digitOf_45 (by decide +kernel) ?_
            refine z_isub dX8_digitOf_47 ?_
            refine z_bipush 10 dX8_digitOf_48 (by decide +kernel) ?_
            refine z_iadd dX8_digitOf_50 ?_
            refine z_goto 56 dX8_digitOf_51 (by decide) ?_
            cases hf
            exact z_iret rfl dX8_digitOf_56 (Nat.zero_le _) (Nat.zero_le _) ⟨rfl, rfl⟩
      · have hf := zifn hf c21
        refine z_iload_n dX8_digitOf_24 rfl ?_
        refine z_bipush 97 dX8_digitOf_25 (by decide +kernel) ?_
        refine z_isub dX8_digitOf_27 ?_
        refine z_bipush 10 dX8_digitOf_28 (by decide +kernel) ?_
        refine z_iadd dX8_digitOf_30 ?_
        cases hf
        exact z_iret rfl dX8_digitOf_31 (Nat.zero_le _) (Nat.zero_le _) ⟨rfl, rfl⟩
  · have hf := zifn hf c4
    refine z_iload_n dX8_digitOf_7 rfl ?_
    refine z_bipush 48 dX8_digitOf_8 (by decide +kernel) ?_
    refine z_isub dX8_digitOf_10 ?_
    cases hf
    exact z_iret rfl dX8_digitOf_11 (Nat.zero_le _) (Nat.zero_le _) ⟨rfl, rfl⟩

noncomputable def fX8_bad (N : Nat) (p0 : Int32) (s : zS) : Option (Int32 × zS) := some (24, (zsc s 405 p0))
set_option maxHeartbeats 400000 in
set_option maxRecDepth 100000 in
theorem tX8_bad {g : zGl} (hok : zGok g) (d : Nat)  (N : Nat) (p0 : Int32)  {s s' : zS} {w : Int32} (hf : fX8_bad N p0 s = some (w, s')) : zMet g mX8_bad d 0 0 [.ref 4, .int p0] (zHp s) (zret (some (.int w)) (zHp s')) := by
  refine zMet.ofW (by decide +kernel) (Nat.le_of_ble_eq_true rfl) ?_
  show zW g mX8_bad d 0 0 51 _ 0 0 (zHp s) [some (.ref 4), some (.int p0)] [] 0
  unfold fX8_bad at hf
  refine z_aload_n dX8_bad_0 rfl ?_
  refine z_iload_n dX8_bad_1 rfl ?_
  refine z_putf dX8_bad_2 fX8_37 wX8_5 (at_Words s) (Nat.le_of_ble_eq_true rfl) (fun _ => rfl) (fun _ => rfl) (st_Words_5 s p0) ?_
  refine z_bipush 24 dX8_bad_5 (by decide +kernel) ?_
  cases hf
  exact z_iret rfl dX8_bad_7 (Nat.zero_le _) (Nat.zero_le _) ⟨rfl, rfl⟩

