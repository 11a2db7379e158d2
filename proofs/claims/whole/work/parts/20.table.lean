noncomputable def fX6_isFull (N : Nat) (a : Nat) (s : zS) : Option (Int32 × zS) := if (s.1 (100 * a + 3)) < (s.1 (100 * a + 2)) then some (0, s) else some (1, s)
set_option maxHeartbeats 400000 in
set_option maxRecDepth 100000 in
theorem tX6_isFull {g : zGl} (hok : zGok g) (d : Nat)  (N : Nat) (a : Nat) (ha : zTb a) {s s' : zS} {w : Int32} (hf : fX6_isFull N a s = some (w, s')) : zMet g mX6_isFull d 0 0 [.ref a] (zHp s) (zret (some (.int w)) (zHp s')) := by
  refine zMet.ofW (by decide +kernel) (Nat.le_of_ble_eq_true rfl) ?_
  show zW g mX6_isFull d 0 0 51 _ 0 0 (zHp s) [some (.ref a)] [] 0
  unfold fX6_isFull at hf
  refine z_aload_n dX6_isFull_0 rfl ?_
  refine z_getf dX6_isFull_1 fX6_22 (at_Table s a ha) rfl ?_
  refine z_aload_n dX6_isFull_4 rfl ?_
  refine z_getf dX6_isFull_5 fX6_9 (at_Table s a ha) rfl ?_
  refine z_icmp_lt 15 dX6_isFull_8 (by decide) (fun c8 => ?_) (fun c8 => ?_)
  · have hf := zifp hf c8
    refine z_iconst 0 dX6_isFull_15 (by decide +kernel) ?_
    cases hf
    exact z_zret rfl (by decide) dX6_isFull_16 (Nat.zero_le _) (Nat.zero_le _) ⟨rfl, rfl⟩
  · have hf := zifn hf c8
    refine z_iconst 1 dX6_isFull_11 (by decide +kernel) ?_
    refine z_goto 16 dX6_isFull_12 (by decide) ?_
    cases hf
    exact z_zret rfl (by decide) dX6_isFull_16 (Nat.zero_le _) (Nat.zero_le _) ⟨rfl, rfl⟩

noncomputable def fX6_addRow_L25S (N : Nat) (a : Nat) (rec : Int32 → Int32 → zS → Option ((Int32 × zS) ⊕ (zS))) (v1 : Int32) (v2 : Int32) (s : zS) : Option ((Int32 × zS) ⊕ (zS)) := if v2 < 0 then some (.inr (s)) else if (v1 + (s.1 (100 * a + 1))) ≤ v2 then some (.inr (s)) else if (nI (zlen (a + 1))) ≤ v2 then some (.inr (s)) else if zga v2 (zlen (a + 1)) = true then rec v1 (v2 + 1) (zsr s (a + 1) v2 0) else none
noncomputable def fX6_addRow_L25 (N : Nat) (a : Nat) (n : Nat) : Int32 → Int32 → zS → Option ((Int32 × zS) ⊕ (zS)) := Nat.rec (motive := fun _ => Int32 → Int32 → zS → Option ((Int32 × zS) ⊕ (zS))) (fun _ _ _ => none) (fun _ rec => fX6_addRow_L25S N a rec) n
set_option maxHeartbeats 400000 in
set_option maxRecDepth 100000 in
theorem tX6_addRow_L25 {g : zGl} (hok : zGok g) (d : Nat)  (N : Nat) (a : Nat) (ha : zTb a) {mc ms n0 : Nat} {Q : zO → List zE → Prop} (n : Nat) : ∀ (v1 : Int32) (v2 : Int32) (s : zS) (r : (Int32 × zS) ⊕ (zS)) (hf : fX6_addRow_L25 N a n v1 v2 s = some r) (k1 : ∀ w s', r = .inl (w, s') → Q (.inl (some (.int w))) (zHp s')) (k2 : ∀  (s' : zS), r = .inr (s') → zW g mX6_addRow d mc ms n0 Q 0 0 (zHp s') [some (.ref a), none, none] [] 61), zW g mX6_addRow d mc ms n0 Q 0 0 (zHp s) [some (.ref a), some (.int v1), some (.int v2)] [] 25 := by
  induction n with
  | zero => intro v1 v2 s r hf; cases hf
  | succ n ih =>
    intro v1 v2 s r hf k1 k2
    have hrec : ∀ (v1 : Int32) (v2 : Int32) (s : zS) (r1 : (Int32 × zS) ⊕ (zS)), fX6_addRow_L25 N a n v1 v2 s = some r1 → r1 = r → zW g mX6_addRow d mc ms n0 Q 0 0 (zHp s) [some (.ref a), some (.int v1), some (.int v2)] [] 25 := fun v1 v2 s r1 h e => ih v1 v2 s r1 h (by subst e; exact k1) (by subst e; exact k2)
    have hrec : ∀ (v1 : Int32) (v2 : Int32) (s : zS), fX6_addRow_L25 N a n v1 v2 s = some r → zW g mX6_addRow d mc ms n0 Q 0 0 (zHp s) [some (.ref a), some (.int v1), some (.int v2)] [] 25 := fun v1 v2 s h => hrec v1 v2 s r h rfl
    have hf : fX6_addRow_L25S N a (fX6_addRow_L25 N a n) v1 v2 s = some r := hf
    unfold fX6_addRow_L25S at hf
    refine z_iload_n dX6_addRow_25 rfl ?_
    refine z_if_lt 61 dX6_addRow_26 (by decide) (fun c26 => ?_) (fun c26 => ?_)
    · have hf := zifp hf c26
      cases hf
      refine z_mask (ls' := [_, _, _]) [true, false, false] rfl ?_
      exact k2  _ rfl
    · have hf := zifn hf c26
      refine z_iload_n dX6_addRow_29 rfl ?_
      refine z_iload_n dX6_addRow_30 rfl ?_
      refine z_aload_n dX6_addRow_31 rfl ?_
      refine z_getf dX6_addRow_32 fX6_15 (at_Table s a ha) rfl ?_
      refine z_iadd dX6_addRow_35 ?_
      refine z_icmp_ge 61 dX6_addRow_36 (by decide) (fun c36 => ?_) (fun c36 => ?_)
      · have hf := zifp hf c36
        cases hf
        refine z_mask (ls' := [_, _, _]) [true, false, false] rfl ?_
        exact k2  _ rfl
      · have hf := zifn hf c36
        refine z_iload_n dX6_addRow_39 rfl ?_
        refine z_aload_n dX6_addRow_40 rfl ?_
        refine z_getf dX6_addRow_41 fX6_18 (at_Table s a ha) rfl ?_
        refine z_alen dX6_addRow_44 (at_arr s (a + 1) (zTb_a a ha)) ?_
        refine z_icmp_ge 61 dX6_addRow_45 (by decide) (fun c45 => ?_) (fun c45 => ?_)
        · have hf := zifp hf c45
          cases hf
          refine z_mask (ls' := [_, _, _]) [true, false, false] rfl ?_
          exact k2  _ rfl
        · have hf := zifn hf c45
          refine z_aload_n dX6_addRow_48 rfl ?_
          refine z_getf dX6_addRow_49 fX6_18 (at_Table s a ha) rfl ?_
          refine z_iload_n dX6_addRow_52 rfl ?_
          refine z_iconst 0 dX6_addRow_53 (by decide +kernel) ?_
          obtain ⟨hi1, hf⟩ := zifs hf
          refine z_iastore dX6_addRow_54 (at_arr s (a + 1) (zTb_a a ha)) (zga_in hi1) (st_arr s (a + 1) (zTb_a a ha) v2 0) ?_
          refine z_iinc (ls' := [_, _, _]) (v2 + 1) dX6_addRow_55 rfl rfl (by decide) rfl ?_
          refine z_goto 25 dX6_addRow_58 (by decide) ?_
          refine z_mask (ls' := [_, _, _]) [true, true, true] rfl ?_
          exact hrec v1 (v2 + 1) (zsr s (a + 1) v2 0) hf
noncomputable def fX6_addRow (N : Nat) (a : Nat) (s : zS) : Option (Int32 × zS) := if (s.1 (100 * a + 3)) < (s.1 (100 * a + 2)) then zbl (fX6_addRow_L25 N a N ((s.1 (100 * a + 3)) * (s.1 (100 * a + 1))) ((s.1 (100 * a + 3)) * (s.1 (100 * a + 1))) s) (fun x => some x) (fun s5 => some (((zsc s5 (100 * a + 3) ((s5.1 (100 * a + 3)) + 1)).1 (100 * a + 3)) - 1, (zsc s5 (100 * a + 3) ((s5.1 (100 * a + 3)) + 1)))) else some ((-1), s)
set_option maxHeartbeats 400000 in
set_option maxRecDepth 100000 in
theorem tX6_addRow {g : zGl} (hok : zGok g) (d : Nat)  (N : Nat) (a : Nat) (ha : zTb a) {s s' : zS} {w : Int32} (hf : fX6_addRow N a s = some (w, s')) : zMet g mX6_addRow d 0 0 [.ref a] (zHp s) (zret (some (.int w)) (zHp s')) := by
  refine zMet.ofW (by decide +kernel) (Nat.le_of_ble_eq_true rfl) ?_
  show zW g mX6_addRow d 0 0 51 _ 0 0 (zHp s) [some (.ref a), none, none] [] 0
  unfold fX6_addRow at hf
  refine z_aload_n dX6_addRow_0 rfl ?_
  refine z_getf dX6_addRow_1 fX6_22 (at_Table s a ha) rfl ?_
  refine z_aload_n dX6_addRow_4 rfl ?_
  refine z_getf dX6_addRow_5 fX6_9 (at_Table s a ha) rfl ?_
  refine z_icmp_lt 13 dX6_addRow_8 (by decide) (fun c8 => ?_) (fun c8 => ?_)
  · have hf := zifp hf c8
    refine z_aload_n dX6_addRow_13 rfl ?_
    refine z_getf dX6_addRow_14 fX6_22 (at_Table s a ha) rfl ?_
    refine z_aload_n dX6_addRow_17 rfl ?_
    refine z_getf dX6_addRow_18 fX6_15 (at_Table s a ha) rfl ?_
    refine z_imul dX6_addRow_21 ?_
    refine z_istore_n (ls' := [_, _, _]) dX6_addRow_22 (by decide) rfl ?_
    refine z_iload_n dX6_addRow_23 rfl ?_
    refine z_istore_n (ls' := [_, _, _]) dX6_addRow_24 (by decide) rfl ?_
    refine z_mask (ls' := [_, _, _]) [true, true, true] rfl ?_
    rcases zbl_of hf with ⟨lr3, le4, hf⟩ | ⟨lr3, le4, hf⟩
    · cases hf
      exact tX6_addRow_L25 hok d N a ha N ((s.1 (100 * a + 3)) * (s.1 (100 * a + 1))) ((s.1 (100 * a + 3)) * (s.1 (100 * a + 1))) s _ le4 (fun w1 s1 hh => by cases hh; exact ⟨rfl, rfl⟩) (fun  _ hh => by cases hh)
    · obtain ⟨s5, rfl⟩ : ∃ z, z = lr3 := ⟨_, rfl⟩
      refine tX6_addRow_L25 hok d N a ha N ((s.1 (100 * a + 3)) * (s.1 (100 * a + 1))) ((s.1 (100 * a + 3)) * (s.1 (100 * a + 1))) s _ le4 (fun w1 s1 hh => by cases hh) (fun  _ hh => ?_)
      cases hh
      refine z_aload_n dX6_addRow_61 rfl ?_
      refine z_dup dX6_addRow_62 rfl ?_
      refine z_getf dX6_addRow_63 fX6_22 (at_Table s5 a ha) rfl ?_
      refine z_iconst 1 dX6_addRow_66 (by decide +kernel) ?_
      refine z_iadd dX6_addRow_67 ?_
      refine z_putf dX6_addRow_68 fX6_22 wX6_3 (at_Table s5 a ha) (Nat.le_of_ble_eq_true rfl) (fun _ => rfl) (fun _ => rfl) (st_Table_3 s5 a ha ((s5.1 (100 * a + 3)) + 1)) ?_
      refine z_aload_n dX6_addRow_71 rfl ?_
      refine z_getf dX6_addRow_72 fX6_22 (at_Table (zsc s5 (100 * a + 3) ((s5.1 (100 * a + 3)) + 1)) a ha) rfl ?_
      refine z_iconst 1 dX6_addRow_75 (by decide +kernel) ?_
      refine z_isub dX6_addRow_76 ?_
      cases hf
      exact z_iret rfl dX6_addRow_77 (Nat.zero_le _) (Nat.zero_le _) ⟨rfl, rfl⟩
  · have hf := zifn hf c8
    refine z_iconst (-1) dX6_addRow_11 (by decide +kernel) ?_
    cases hf
    exact z_iret rfl dX6_addRow_12 (Nat.zero_le _) (Nat.zero_le _) ⟨rfl, rfl⟩

noncomputable def fX6_setCell (N : Nat) (a : Nat) (p0 : Int32) (p1 : Int32) (p2 : Int32) (s : zS) : Option (Unit × zS) := if p0 < 0 then some ((), s) else if (s.1 (100 * a + 3)) ≤ p0 then some ((), s) else if p1 < 0 then some ((), s) else if (s.1 (100 * a + 1)) ≤ p1 then some ((), s) else if ((p0 * (s.1 (100 * a + 1))) + p1) < 0 then some ((), s) else if (nI (zlen (a + 1))) ≤ ((p0 * (s.1 (100 * a + 1))) + p1) then some ((), s) else if zga ((p0 * (s.1 (100 * a + 1))) + p1) (zlen (a + 1)) = true then some ((), (zsr s (a + 1) ((p0 * (s.1 (100 * a + 1))) + p1) p2)) else none
set_option maxHeartbeats 400000 in
set_option maxRecDepth 100000 in
theorem tX6_setCell {g : zGl} (hok : zGok g) (d : Nat)  (N : Nat) (a : Nat) (p0 : Int32) (p1 : Int32) (p2 : Int32) (ha : zTb a) {s s' : zS} {w : Unit} (hf : fX6_setCell N a p0 p1 p2 s = some (w, s')) : zMet g mX6_setCell d 0 0 [.ref a, .int p0, .int p1, .int p2] (zHp s) (zret none (zHp s')) := by
  refine zMet.ofW (by decide +kernel) (Nat.le_of_ble_eq_true rfl) ?_
  show zW g mX6_setCell d 0 0 51 _ 0 0 (zHp s) [some (.ref a), some (.int p0), some (.int p1), some (.int p2), none] [] 0
  unfold fX6_setCell at hf
  refine z_iload_n dX6_setCell_0 rfl ?_
  refine z_aload_n dX6_setCell_1 rfl ?_
  refine z_getf dX6_setCell_2 fX6_15 (at_Table s a ha) rfl ?_
  refine z_imul dX6_setCell_5 ?_
  refine z_iload_n dX6_setCell_6 rfl ?_
  refine z_iadd dX6_setCell_7 ?_
  refine z_istore (ls' := [_, _, _, _, _]) dX6_setCell_8 (by decide) rfl ?_
  refine z_iload_n dX6_setCell_10 rfl ?_
  refine z_if_lt 57 dX6_setCell_11 (by decide) (fun c11 => ?_) (fun c11 => ?_)
  · have hf := zifp hf c11
    cases hf
    exact z_vret rfl dX6_setCell_57 (Nat.zero_le _) (Nat.zero_le _) ⟨rfl, rfl⟩
  · have hf := zifn hf c11
    refine z_iload_n dX6_setCell_14 rfl ?_
    refine z_aload_n dX6_setCell_15 rfl ?_
    refine z_getf dX6_setCell_16 fX6_22 (at_Table s a ha) rfl ?_
    refine z_icmp_ge 57 dX6_setCell_19 (by decide) (fun c19 => ?_) (fun c19 => ?_)
    · have hf := zifp hf c19
      cases hf
      exact z_vret rfl dX6_setCell_57 (Nat.zero_le _) (Nat.zero_le _) ⟨rfl, rfl⟩
    · have hf := zifn hf c19
      refine z_iload_n dX6_setCell_22 rfl ?_
      refine z_if_lt 57 dX6_setCell_23 (by decide) (fun c23 => ?_) (fun c23 => ?_)
      · have hf := zifp hf c23
        cases hf
        exact z_vret rfl dX6_setCell_57 (Nat.zero_le _) (Nat.zero_le _) ⟨rfl, rfl⟩
      · have hf := zifn hf c23
        refine z_iload_n dX6_setCell_26 rfl ?_
        refine z_aload_n dX6_setCell_27 rfl ?_
        refine z_getf dX6_setCell_28 fX6_15 (at_Table s a ha) rfl ?_
        refine z_icmp_ge 57 dX6_setCell_31 (by decide) (fun c31 => ?_) (fun c31 => ?_)
        · have hf := zifp hf c31
          cases hf
          exact z_vret rfl dX6_setCell_57 (Nat.zero_le _) (Nat.zero_le _) ⟨rfl, rfl⟩
        · have hf := zifn hf c31
          refine z_iload dX6_setCell_34 rfl ?_
          refine z_if_lt 57 dX6_setCell_36 (by decide) (fun c36 => ?_) (fun c36 => ?_)
          · have hf := zifp hf c36
            cases hf
            exact z_vret rfl dX6_setCell_57 (Nat.zero_le _) (Nat.zero_le _) ⟨rfl, rfl⟩
          · have hf := zifn hf c36
            refine z_iload dX6_setCell_39 rfl ?_
            refine z_aload_n dX6_setCell_41 rfl ?_
            refine z_getf dX6_setCell_42 fX6_18 (at_Table s a ha) rfl ?_
            refine z_alen dX6_setCell_45 (at_arr s (a + 1) (zTb_a a ha)) ?_
            refine z_icmp_ge 57 dX6_setCell_46 (by decide) (fun c46 => ?_) (fun c46 => ?_)
            · have hf := zifp hf c46
              cases hf
              exact z_vret rfl dX6_setCell_57 (Nat.zero_le _) (Nat.zero_le _) ⟨rfl, rfl⟩
            · have hf := zifn hf c46
              refine z_aload_n dX6_setCell_49 rfl ?_
              refine z_getf dX6_setCell_50 fX6_18 (at_Table s a ha) rfl ?_
              refine z_iload dX6_setCell_53 rfl ?_
              refine z_iload_n dX6_setCell_55 rfl ?_
              obtain ⟨hi1, hf⟩ := zifs hf
              refine z_iastore dX6_setCell_56 (at_arr s (a + 1) (zTb_a a ha)) (zga_in hi1) (st_arr s (a + 1) (zTb_a a ha) ((p0 * (s.1 (100 * a + 1))) + p1) p2) ?_
              cases hf
              exact z_vret rfl dX6_setCell_57 (Nat.zero_le _) (Nat.zero_le _) ⟨rfl, rfl⟩

noncomputable def fX6_cell (N : Nat) (a : Nat) (p0 : Int32) (p1 : Int32) (p2 : Int32) (s : zS) : Option (Int32 × zS) := if p0 < 0 then some (p2, s) else if (s.1 (100 * a + 3)) ≤ p0 then some (p2, s) else if p1 < 0 then some (p2, s) else if (s.1 (100 * a + 1)) ≤ p1 then some (p2, s) else if ((p0 * (s.1 (100 * a + 1))) + p1) < 0 then some (p2, s) else if ((p0 * (s.1 (100 * a + 1))) + p1) < (nI (zlen (a + 1))) then if zga ((p0 * (s.1 (100 * a + 1))) + p1) (zlen (a + 1)) = true then some (s.2.1 (a + 1) ((p0 * (s.1 (100 * a + 1))) + p1).toNatClampNeg, s) else none else some (p2, s)
set_option maxHeartbeats 400000 in
set_option maxRecDepth 100000 in
theorem tX6_cell {g : zGl} (hok : zGok g) (d : Nat)  (N : Nat) (a : Nat) (p0 : Int32) (p1 : Int32) (p2 : Int32) (ha : zTb a) {s s' : zS} {w : Int32} (hf : fX6_cell N a p0 p1 p2 s = some (w, s')) : zMet g mX6_cell d 0 0 [.ref a, .int p0, .int p1, .int p2] (zHp s) (zret (some (.int w)) (zHp s')) := by
  refine zMet.ofW (by decide +kernel) (Nat.le_of_ble_eq_true rfl) ?_
  show zW g mX6_cell d 0 0 51 _ 0 0 (zHp s) [some (.ref a), some (.int p0), some (.int p1), some (.int p2), none] [] 0
  unfold fX6_cell at hf
  refine z_iload_n dX6_cell_0 rfl ?_
  refine z_aload_n dX6_cell_1 rfl ?_
  refine z_getf dX6_cell_2 fX6_15 (at_Table s a ha) rfl ?_
  refine z_imul dX6_cell_5 ?_
  refine z_iload_n dX6_cell_6 rfl ?_
  refine z_iadd dX6_cell_7 ?_
  refine z_istore (ls' := [_, _, _, _, _]) dX6_cell_8 (by decide) rfl ?_
  refine z_iload_n dX6_cell_10 rfl ?_
  refine z_if_lt 49 dX6_cell_11 (by decide) (fun c11 => ?_) (fun c11 => ?_)
  · have hf := zifp hf c11
    refine z_iload_n dX6_cell_49 rfl ?_
    cases hf
    exact z_iret rfl dX6_cell_50 (Nat.zero_le _) (Nat.zero_le _) ⟨rfl, rfl⟩
  · have hf := zifn hf c11
    refine z_iload_n dX6_cell_14 rfl ?_
    refine z_aload_n dX6_cell_15 rfl ?_
    refine z_getf dX6_cell_16 fX6_22 (at_Table s a ha) rfl ?_
    refine z_icmp_ge 49 dX6_cell_19 (by decide) (fun c19 => ?_) (fun c19 => ?_)
    · have hf := zifp hf c19
      refine z_iload_n dX6_cell_49 rfl ?_
      cases hf
      exact z_iret rfl dX6_cell_50 (Nat.zero_le _) (Nat.zero_le _) ⟨rfl, rfl⟩
    · have hf := zifn hf c19
      refine z_iload_n dX6_cell_22 rfl ?_
      refine z_if_lt 49 dX6_cell_23 (by decide) (fun c23 => ?_) (fun c23 => ?_)
      · have hf := zifp hf c23
        refine z_iload_n dX6_cell_49 rfl ?_
        cases hf
        exact z_iret rfl dX6_cell_50 (Nat.zero_le _) (Nat.zero_le _) ⟨rfl, rfl⟩
      · have hf := zifn hf c23
        refine z_iload_n dX6_cell_26 rfl ?_
        refine z_aload_n dX6_cell_27 rfl ?_
        refine z_getf dX6_cell_28 fX6_15 (at_Table s a ha) rfl ?_
        refine z_icmp_ge 49 dX6_cell_31 (by decide) (fun c31 => ?_) (fun c31 => ?_)
        · have hf := zifp hf c31
          refine z_iload_n dX6_cell_49 rfl ?_
          cases hf
          exact z_iret rfl dX6_cell_50 (Nat.zero_le _) (Nat.zero_le _) ⟨rfl, rfl⟩
        · have hf := zifn hf c31
          refine z_iload dX6_cell_34 rfl ?_
          refine z_if_lt 49 dX6_cell_36 (by decide) (fun c36 => ?_) (fun c36 => ?_)
          · have hf := zifp hf c36
            refine z_iload_n dX6_cell_49 rfl ?_
            cases hf
            exact z_iret rfl dX6_cell_50 (Nat.zero_le _) (Nat.zero_le _) ⟨rfl, rfl⟩
          · have hf := zifn hf c36
            refine z_iload dX6_cell_39 rfl ?_
            refine z_aload_n dX6_cell_41 rfl ?_
            refine z_getf dX6_cell_42 fX6_18 (at_Table s a ha) rfl ?_
            refine z_alen dX6_cell_45 (at_arr s (a + 1) (zTb_a a ha)) ?_
            refine z_icmp_lt 51 dX6_cell_46 (by decide) (fun c46 => ?_) (fun c46 => ?_)
            · have hf := zifp hf c46
              refine z_aload_n dX6_cell_51 rfl ?_
              refine z_getf dX6_cell_52 fX6_18 (at_Table s a ha) rfl ?_
              refine z_iload dX6_cell_55 rfl ?_
              obtain ⟨hi1, hf⟩ := zifs hf
              refine z_iald dX6_cell_57 (at_arr s (a + 1) (zTb_a a ha)) (zga_in hi1) ?_
              cases hf
              exact z_iret rfl dX6_cell_58 (Nat.zero_le _) (Nat.zero_le _) ⟨rfl, rfl⟩
            · have hf := zifn hf c46
              refine z_iload_n dX6_cell_49 rfl ?_
              cases hf
              exact z_iret rfl dX6_cell_50 (Nat.zero_le _) (Nat.zero_le _) ⟨rfl, rfl⟩
