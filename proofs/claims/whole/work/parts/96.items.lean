def zIC (b : Nat) (l : List (Int32 × Int32)) (c : zS) : Prop := c.1 (100 * (b + 5) + 3) = nI l.length ∧ ∀ j, j < l.length → c.2.1 (b + 6) (j * 2 + 0) = (l.getD j (0, 0)).1 ∧ c.2.1 (b + 6) (j * 2 + 1) = (l.getD j (0, 0)).2
def zIM (l : List (Int32 × Int32)) (m : zS) : Prop := m.2.1 36 2 = nI l.length ∧ ∀ j, j < l.length → m.2.1 39 (2 * j) = (l.getD j (0, 0)).1 ∧ m.2.1 39 (2 * j + 1) = (l.getD j (0, 0)).2
set_option maxHeartbeats 200000 in
theorem zgetD_l {l : List (Int32 × Int32)} {x : Int32 × Int32} {j : Nat} (h : j < l.length) : (l ++ [x]).getD j (0, 0) = l.getD j (0, 0) := by
  rw [List.getD_eq_getElem?_getD, List.getD_eq_getElem?_getD, List.getElem?_append_left h]
set_option maxHeartbeats 200000 in
theorem zgetD_r {l : List (Int32 × Int32)} {x : Int32 × Int32} : (l ++ [x]).getD l.length (0, 0) = x := by
  rw [List.getD_eq_getElem?_getD, List.getElem?_append_right (Nat.le_refl _), Nat.sub_self]
  rfl
set_option maxHeartbeats 200000 in
theorem zsr2 {s : zS} {a i k : Nat} {x y : Int32} (hi : i + 1 < 2 ^ 31) : (zsr (zsr s a (nI i) x) a (nI (i + 1)) y).2.1 a k = if k = i + 1 then y else if k = i then x else s.2.1 a k := by
  by_cases e : k = i + 1
  · subst e
    rw [if_pos rfl, zsr_a hi]
  · rw [if_neg e, zsr_n hi e]
    by_cases e2 : k = i
    · subst e2
      rw [if_pos rfl, zsr_a (by omega)]
    · rw [if_neg e2, zsr_n (by omega) e2]
set_option maxHeartbeats 200000 in
theorem q_emit {N : Nat} {l : List (Int32 × Int32)} {u v : Int32} {m : zS} (h : zIM l m) (hl : l.length < 2000) : ∃ m', fX10_emit N u v m = some ((), m') ∧ zIM (l ++ [(u, v)]) m' ∧ zeq [] [36, 39] m m' ∧ zFM m m' ∧ ∀ j, j ≠ 2 → m'.2.1 36 j = m.2.1 36 j := by
  have g2 : (2 : Int32).toNatClampNeg = 2 := by decide
  have e2 : 2 * nI l.length = nI (2 * l.length) := pk_mul 2 l.length
  have e3 : nI (2 * l.length) + 1 = nI (2 * l.length + 1) := nI_1 _
  have o36 : ∀ (y : zS) (w : Int32), (zsr y 36 2 w).2.1 39 = y.2.1 39 := fun y w => zsr_o (show (39 : Nat) ≠ 36 by decide)
  have o39 : ∀ (y : zS) (i w : Int32), (zsr y 39 i w).2.1 36 = y.2.1 36 := fun y i w => zsr_o (show (36 : Nat) ≠ 39 by decide)
  refine ⟨zsr (zsr (zsr m 39 (nI (2 * l.length)) u) 39 (nI (2 * l.length + 1)) v) 36 2 (nI (l.length + 1)), ?_, ⟨?_, fun j hj => ?_⟩, zeq_trans (zeq_r (by decide)) (zeq_trans (zeq_r (by decide)) (zeq_r (by decide))), ?_, fun j hj => ?_⟩
  · unfold fX10_emit
    rw [g2, h.1, e2, e3, nI_1]
    have z1 : zga 2 (zlen 36) = true := by decide +kernel
    have z2 : zga (nI (2 * l.length)) (zlen 39) = true := zga_l (by rfl) (show 2 * l.length < 8000 by omega) (by decide)
    have z3 : zga (nI (2 * l.length + 1)) (zlen 39) = true := zga_l (by rfl) (show 2 * l.length + 1 < 8000 by omega) (by decide)
    rw [if_pos z1, if_pos z2, if_pos z3, if_pos z1, if_pos z1]
  · rw [zsr_same, g2, pk_us, List.length_append, List.length_singleton]
  · rw [List.length_append, List.length_singleton] at hj
    rw [o36, zsr2 (by omega), zsr2 (by omega)]
    by_cases e : j = l.length
    · subst e
      rw [zgetD_r, if_neg (by omega), if_pos rfl, if_pos rfl]
      exact ⟨rfl, rfl⟩
    · rw [zgetD_l (by omega), if_neg (by omega), if_neg (by omega), if_neg (by omega), if_neg (by omega)]
      exact h.2 j (by omega)
  · refine zFM_trans (zFM_r (by decide) (by omega) (fun h => absurd h (by decide)) (fun h => absurd h (by decide)) (fun h => absurd h (by decide)) (fun _ => by omega) (fun h => absurd h (by decide)) (fun h => absurd h (by decide)) (fun h => absurd h (by decide)) (fun h => absurd h (by decide))) (zFM_trans (zFM_r (by decide) (by omega) (fun h => absurd h (by decide)) (fun h => absurd h (by decide)) (fun h => absurd h (by decide)) (fun _ => by omega) (fun h => absurd h (by decide)) (fun h => absurd h (by decide)) (fun h => absurd h (by decide)) (fun h => absurd h (by decide))) (zFM_r (i := 2) (by decide) (by omega) (fun _ => by omega) (fun h => absurd h (by decide)) (fun h => absurd h (by decide)) (fun h => absurd h (by decide)) (fun h => absurd h (by decide)) (fun h => absurd h (by decide)) (fun h => absurd h (by decide)) (fun h => absurd h (by decide))))
  · rw [zsr_same, g2, pk_un hj, o39, o39]
set_option maxHeartbeats 200000 in
theorem q_addItem {N b : Nat} {l : List (Int32 × Int32)} {u v : Int32} {c : zS} (hb : zBk b) (hT : zTbl c) (h : zIC b l c) (hl : l.length < 2000) (hN : 20 ≤ N) : ∃ c', fX0_addItem N b u v c = some ((), c') ∧ zIC b (l ++ [(u, v)]) c' ∧ zeq [100 * (b + 5) + 3] [b + 6] c c' := by
  obtain ⟨-, -, ⟨w1, w2⟩, -⟩ := hT.2.2 b hb
  obtain ⟨q, eq, g1, g2, g3, g4, g5⟩ := q_addRow (N := N) (a := b + 5) (w := 2) (n := l.length) (m := 2000) (L := 4000) w1 w2 h.1 (zlen_b hb).2.2.1 hl (by omega) (by omega) (by omega) (by omega) hN
  have f1 : q.2.1 (100 * (b + 5) + 1) = nI 2 := (g2.1 _ (by simp)).trans w1
  have s0 := q_setCell (N := N) (a := b + 5) (w := 2) (n := l.length + 1) (k := l.length) (j := 0) (L := 4000) (s := q.2) (p2 := u) f1 g3 (zlen_b hb).2.2.1 (by omega) (by omega) (by omega) (by omega) (by omega) (by omega)
  have s1 := q_setCell (N := N) (a := b + 5) (w := 2) (n := l.length + 1) (k := l.length) (j := 1) (L := 4000) (s := zsr q.2 (b + 6) (nI (l.length * 2 + 0)) u) (p2 := v) f1 g3 (zlen_b hb).2.2.1 (by omega) (by omega) (by omega) (by omega) (by omega) (by omega)
  refine ⟨zsr (zsr q.2 (b + 6) (nI (l.length * 2 + 0)) u) (b + 6) (nI (l.length * 2 + 1)) v, ?_, ⟨?_, fun j hj => ?_⟩, ?_⟩
  · unfold fX0_addItem
    have eq' : fX6_addRow N (b + 5) c = some (q.1, q.2) := eq
    rw [eq', zbn_s, g1, show (0 : Int32) = nI 0 from rfl, s0, zbn_s, show (1 : Int32) = nI 1 from rfl]
    have s1' : fX6_setCell N (b + 5) (nI l.length) (nI 1) v (zsr q.2 (b + 5 + 1) (nI (l.length * 2 + 0)) u) = _ := s1
    rw [s1', zbn_s]
  · rw [List.length_append]
    exact g3
  · rw [List.length_append, List.length_singleton] at hj
    show (zsr (zsr q.2 (b + 6) (nI (l.length * 2)) u) (b + 6) (nI (l.length * 2 + 1)) v).2.1 (b + 6) (j * 2) = _ ∧ (zsr (zsr q.2 (b + 6) (nI (l.length * 2)) u) (b + 6) (nI (l.length * 2 + 1)) v).2.1 (b + 6) (j * 2 + 1) = _
    rw [zsr2 (by omega), zsr2 (by omega)]
    by_cases e : j = l.length
    · subst e
      rw [zgetD_r, if_neg (by omega), if_pos rfl, if_pos rfl]
      exact ⟨rfl, rfl⟩
    · rw [zgetD_l (by omega), if_neg (by omega), if_neg (by omega), if_neg (by omega), if_neg (by omega)]
      have h4 : ∀ x, x < l.length * 2 → q.2.2.1 (b + 6) x = c.2.1 (b + 6) x := fun x hx => g4 x hx
      rw [h4 _ (by omega), h4 _ (by omega)]
      exact h.2 j (by omega)
  · exact zeq_trans g2 (zeq_trans (zeq_r (List.mem_singleton.mpr rfl)) (zeq_r (List.mem_singleton.mpr rfl)))
def zTau : List Nat → (Nat → Int32) → Prop
  | [], _ => True
  | x :: r, a => a r.length = nI x ∧ zTau r a
set_option maxHeartbeats 200000 in
theorem zTau_upd {x : Int32} {a : Nat → Int32} {k : Nat} : ∀ (r : List Nat), zTau r a → r.length ≤ k → zTau r (upd a k x)
  | [], _, _ => trivial
  | y :: r, h, hk => by
    have hl : (y :: r).length = r.length + 1 := rfl
    exact ⟨(pk_un (by omega)).trans h.1, zTau_upd r h.2 (by omega)⟩
def zSK (τ : List Nat) (m : zS) : Prop := m.1 3323 = nI τ.length ∧ zTau τ (m.2.1 43)
set_option maxHeartbeats 200000 in
theorem zSK_keep {τ : List Nat} {m t : zS} (h : zSK τ m) (h1 : t.1 3323 = m.1 3323) (h2 : t.2.1 43 = m.2.1 43) : zSK τ t := ⟨h1.trans h.1, by rw [h2]; exact h.2⟩
def zlvl (kd : Nat) : Nat := if 12 ≤ kd ∧ kd ≤ 21 then ([5, 5, 6, 6, 6, 4, 4, 3, 2, 1] : List Nat).getD (kd - 12) 0 else 0
def zbnd (kd : Nat) : Nat := if 12 ≤ kd ∧ kd ≤ 21 then zlvl kd else 7
set_option maxHeartbeats 200000 in
theorem zlvl_le : ∀ kd, kd < 26 → zlvl kd ≤ 6 ∧ (12 ≤ kd → kd ≤ 21 → 1 ≤ zlvl kd ∧ zbnd kd = zlvl kd) ∧ (¬ (12 ≤ kd ∧ kd ≤ 21) → zlvl kd = 0) := by decide +kernel
set_option maxHeartbeats 200000 in
theorem zlvl_0 {kd : Nat} (h : ¬ (12 ≤ kd ∧ kd ≤ 21)) : zlvl kd = 0 := if_neg h
set_option maxHeartbeats 200000 in
theorem zlev_n : ∀ j, j < 10 → zlev j = nI (zlvl (12 + j)) := by decide +kernel
set_option maxHeartbeats 200000 in
theorem e1_lev {N kd : Nat} {s : zS} (hk : kd < 26) : fX1_levelOf N (nI kd) s = some (nI (zlvl kd), s) := by
  unfold fX1_levelOf
  by_cases c : 12 ≤ kd
  · have e : nI kd - 12 = nI (kd - 12) := pk_sub (b := 12) c
    rw [e, if_neg (nI_pos (by omega))]
    by_cases c2 : kd ≤ 21
    · rw [if_neg (show ¬ (10 : Int32) ≤ nI (kd - 12) from nI_ge (b := 10) (by omega) (by decide)), if_pos (zga_n (by omega) (by decide)), nI_clamp (by omega), zlev_n _ (by omega), show 12 + (kd - 12) = kd by omega]
    · rw [if_pos (show (10 : Int32) ≤ nI (kd - 12) from nI_le (a := 10) (by omega) (by omega)), zlvl_0 (by omega)]
      rfl
  · rw [if_pos (show nI kd - 12 < 0 from pk_sneg (b := 12) (by omega) (by omega)), zlvl_0 (by omega)]
    rfl
set_option maxHeartbeats 200000 in
theorem e10_bnd {N kd : Nat} {s : zS} (hk : kd < 26) : fX10_binds N (nI kd) s = some (nI (zbnd kd), s) := by
  have e : ∀ x, x < 26 → (nI kd = nI x ↔ kd = x) := fun x hx => nI_eq (by omega) (by omega)
  have hv : (if kd = 12 then (5 : Int32) else if kd = 13 then 5 else if kd = 14 then 6 else if kd = 15 then 6 else if kd = 16 then 6 else if kd = 17 then 4 else if kd = 18 then 4 else if kd = 19 then 3 else if kd = 20 then 2 else if kd = 21 then 1 else 7) = nI (zbnd kd) := by
    have h : ∀ kd, kd < 26 → (if kd = 12 then (5 : Int32) else if kd = 13 then 5 else if kd = 14 then 6 else if kd = 15 then 6 else if kd = 16 then 6 else if kd = 17 then 4 else if kd = 18 then 4 else if kd = 19 then 3 else if kd = 20 then 2 else if kd = 21 then 1 else 7) = nI (zbnd kd) := by decide +kernel
    exact h kd hk
  unfold fX10_binds
  show (if nI kd = nI 12 then some ((5 : Int32), s) else if nI kd = nI 13 then some (5, s) else if nI kd = nI 14 then some (6, s) else if nI kd = nI 15 then some (6, s) else if nI kd = nI 16 then some (6, s) else if nI kd = nI 17 then some (4, s) else if nI kd = nI 18 then some (4, s) else if nI kd = nI 19 then some (3, s) else if nI kd = nI 20 then some (2, s) else if nI kd = nI 21 then some (1, s) else some (7, s)) = _
  simp only [e 12 (by omega), e 13 (by omega), e 14 (by omega), e 15 (by omega), e 16 (by omega), e 17 (by omega), e 18 (by omega), e 19 (by omega), e 20 (by omega), e 21 (by omega)]
  rw [← hv]
  repeat' (first | refine q_ite (fun _ => ?_) (fun _ => ?_) | rfl)
abbrev zi0 (U : List Nat) : List (Int32 × Int32) := U.map (fun u => (nI u, (0 : Int32)))
set_option maxHeartbeats 200000 in
theorem l10_ahead {N : Nat} : ∀ (U : List Nat) (rest : List Nat) (l : List (Int32 × Int32)) (d M : Nat) (m : zS), zSK (U ++ rest) m → (∀ u, u ∈ U → u = 10 ∨ u = 11) → (∀ x r, rest = x :: r → x ≠ 10 ∧ x ≠ 11 ∧ x < 100) → (U ++ rest).length ≤ 2000 → m.1 3326 = nI d → U.length ≤ d → zIM l m → l.length + U.length ≤ 2000 → U.length < M → ∃ m', fX10_ahead_L0 N M m = some (.inr m') ∧ zSK rest m' ∧ zIM (l ++ zi0 U) m' ∧ m'.1 3326 = nI (d - U.length) ∧ zeq [3323, 3326] [36, 39] m m' ∧ zFM m m' ∧ ∀ j, j ≠ 2 → m'.2.1 36 j = m.2.1 36 j := by
  intro U
  induction U with
  | nil =>
    intro rest l d M m hS hU hr hlen hd hUd hI hl hM
    obtain ⟨M, rfl⟩ : ∃ k, M = k + 1 := ⟨M - 1, by omega⟩
    refine ⟨m, ?_, hS, by rw [show l ++ zi0 [] = l from List.append_nil l]; exact hI, hd, zeq_refl _ _ _, zFM_refl _, fun _ _ => rfl⟩
    show fX10_ahead_L0S N (fX10_ahead_L0 N M) m = _
    unfold fX10_ahead_L0S
    cases rest with
    | nil =>
      have h0 : m.1 3323 = nI 0 := hS.1
      rw [h0, if_pos (by decide)]
    | cons x r =>
      have h0 : m.1 3323 = nI (r.length + 1) := hS.1
      have h1 : m.2.1 43 r.length = nI x := hS.2.1
      have hx := hr x r rfl
      have hl2 : r.length + 1 ≤ 2000 := hlen
      have zg : zga (nI r.length) (zlen 43) = true := zga_l (by rfl) (show r.length < 2100 by omega) (by decide)
      rw [h0, if_neg (nI_nle (by omega) (by omega)), nI_pred, nI_clamp (by omega), h1, if_pos zg, if_neg (show ¬ nI x = (10 : Int32) from fun z => hx.1 ((nI_eq (b := 10) (by omega) (by decide)).mp z)), if_pos zg, if_neg (show ¬ nI x = (11 : Int32) from fun z => hx.2.1 ((nI_eq (b := 11) (by omega) (by decide)).mp z))]
  | cons u U ih =>
    intro rest l d M m hS hU hr hlen hd hUd hI hl hM
    have hUl : (u :: U).length = U.length + 1 := rfl
    rw [hUl] at hUd hl hM
    obtain ⟨M, rfl⟩ : ∃ k, M = k + 1 := ⟨M - 1, by omega⟩
    have h0 : m.1 3323 = nI ((U ++ rest).length + 1) := hS.1
    have h1 : m.2.1 43 (U ++ rest).length = nI u := hS.2.1
    have hl2 : (U ++ rest).length + 1 ≤ 2000 := hlen
    have hu := hU u (by simp)
    have zg : zga (nI (U ++ rest).length) (zlen 43) = true := zga_l (by rfl) (show (U ++ rest).length < 2100 by omega) (by decide)
    obtain ⟨m1, e1, e2, e3, e4, e5⟩ := q_emit (N := N) (l := l) (u := nI u) (v := 0) (m := zsc m 3323 (nI (U ++ rest).length)) hI (by omega)
    obtain ⟨m', f1, f2, f3, f4, f5, f6, f7⟩ := ih rest (l ++ [(nI u, 0)]) (d - 1) M (zsc m1 3326 (nI (d - 1))) ⟨(zsc_ne (by decide)).trans ((e3.1 3323 List.not_mem_nil).trans zsc_at), by rw [show (zsc m1 3326 (nI (d - 1))).2.1 43 = m.2.1 43 from e3.2.1 43 (by decide)]; exact hS.2.2⟩ (fun x hx => hU x (by simp [hx])) hr (by omega) zsc_at (by omega) e2 (by rw [List.length_append, List.length_singleton]; omega) (by omega)
    have zz : zeq [3323, 3326] [36, 39] m m' := zeq_trans (zeq_c (by decide)) (zeq_trans (zeq_mono e3 (fun _ h => absurd h List.not_mem_nil) (fun _ h => h)) (zeq_trans (zeq_c (by decide)) f5))
    refine ⟨m', ?_, f2, ?_, ?_, zz, zFM_trans (zFM_eq (zeq_c (K := [3323]) (A := []) (by decide)) (by decide) (by simp)) (zFM_trans e4 (zFM_trans (zFM_eq (zeq_c (K := [3326]) (A := []) (by decide)) (by decide) (by simp)) f6)), fun j hj => (f7 j hj).trans (e5 j hj)⟩
    · show fX10_ahead_L0S N (fX10_ahead_L0 N M) m = _
      unfold fX10_ahead_L0S
      have hJ : fX10_ahead_J39 N (fX10_ahead_L0 N M) m = some (.inr m') := by
        unfold fX10_ahead_J39
        rw [h0, nI_pred, if_pos zg, nI_clamp (by omega), h1, e1, zbn_s]
        have h26 : m1.1 3326 = nI d := (e3.1 3326 List.not_mem_nil).trans ((zsc_ne (by decide)).trans hd)
        rw [h26, show nI d - 1 = nI (d - 1) from pk_sub (b := 1) (by omega)]
        exact f1
      rw [hJ, h0, if_neg (nI_nle (by omega) (by omega)), nI_pred, nI_clamp (by omega), h1, if_pos zg, if_pos zg]
      rcases hu with rfl | rfl
      · rw [if_pos (show nI 10 = 10 from rfl)]
      · rw [if_neg (show ¬ nI 11 = 10 by decide), if_pos (show nI 11 = 11 from rfl)]
    · rw [List.append_assoc] at f3
      exact f3
    · rw [f4, hUl, Nat.sub_sub, Nat.add_comm 1]
set_option maxHeartbeats 200000 in
theorem q_ahead {N : Nat} {U rest : List Nat} {l : List (Int32 × Int32)} {d : Nat} {m : zS} (hN : 2100 ≤ N) (hS : zSK (U ++ rest) m) (hU : ∀ u, u ∈ U → u = 10 ∨ u = 11) (hr : ∀ x r, rest = x :: r → x ≠ 10 ∧ x ≠ 11 ∧ x < 100) (hlen : (U ++ rest).length ≤ 2000) (hd : m.1 3326 = nI d) (hUd : U.length ≤ d) (hI : zIM l m) (hl : l.length + U.length ≤ 2000) : ∃ m', fX10_ahead N m = some ((), m') ∧ zSK rest m' ∧ zIM (l ++ zi0 U) m' ∧ m'.1 3326 = nI (d - U.length) ∧ zeq [3323, 3326] [36, 39] m m' ∧ zFM m m' ∧ ∀ j, j ≠ 2 → m'.2.1 36 j = m.2.1 36 j := by
  obtain ⟨m', h1, h2⟩ := l10_ahead (N := N) U rest l d N m hS hU hr hlen hd hUd hI hl (by omega)
  refine ⟨m', ?_, h2⟩
  unfold fX10_ahead
  rw [h1]
  rfl
set_option maxHeartbeats 200000 in
theorem l10_reduce {N by_ : Nat} (hby : by_ ≤ 7) : ∀ (P : List Nat) (rest : List Nat) (l : List (Int32 × Int32)) (M : Nat) (m : zS), zSK (P ++ rest) m → (∀ u, u ∈ P → 12 ≤ u ∧ u ≤ 21 ∧ by_ ≤ zbnd u) → (∀ x r, rest = x :: r → x ≤ 21 ∧ (x ≤ 11 ∨ zbnd x < by_)) → (P ++ rest).length ≤ 2000 → zIM l m → l.length + P.length ≤ 2000 → P.length < M → ∃ m', fX10_reduce_L0 N (nI by_) M m = some (.inr m') ∧ zSK rest m' ∧ zIM (l ++ zi0 P) m' ∧ zeq [3323] [36, 39] m m' ∧ zFM m m' ∧ ∀ j, j ≠ 2 → m'.2.1 36 j = m.2.1 36 j := by
  have hbl : ∀ x, x ≤ 21 → zbnd x ≤ 7 := by decide +kernel
  intro P
  induction P with
  | nil =>
    intro rest l M m hS hP hr hlen hI hl hM
    obtain ⟨M, rfl⟩ : ∃ k, M = k + 1 := ⟨M - 1, by omega⟩
    refine ⟨m, ?_, hS, by rw [show l ++ zi0 [] = l from List.append_nil l]; exact hI, zeq_refl _ _ _, zFM_refl _, fun _ _ => rfl⟩
    show fX10_reduce_L0S N (nI by_) (fX10_reduce_L0 N (nI by_) M) m = _
    unfold fX10_reduce_L0S
    cases rest with
    | nil =>
      have h0 : m.1 3323 = nI 0 := hS.1
      rw [h0, if_pos (by decide)]
    | cons x r =>
      have h0 : m.1 3323 = nI (r.length + 1) := hS.1
      have h1 : m.2.1 43 r.length = nI x := hS.2.1
      have hx := hr x r rfl
      have hl2 : r.length + 1 ≤ 2000 := hlen
      have zg : zga (nI r.length) (zlen 43) = true := zga_l (by rfl) (show r.length < 2100 by omega) (by decide)
      rw [h0, if_neg (nI_nle (by omega) (by omega)), nI_pred, nI_clamp (by omega), h1, if_pos zg]
      by_cases c : x ≤ 11
      · rw [if_pos (show nI x ≤ (11 : Int32) from nI_le (b := 11) c (by decide))]
      · have hb := hbl x hx.1
        rw [if_neg (show ¬ nI x ≤ (11 : Int32) from nI_ge (a := 11) (by omega) (by omega)), if_pos zg, e10_bnd (by omega), zbn_s, if_pos (nI_lt (by omega) (by omega))]
  | cons u P ih =>
    intro rest l M m hS hP hr hlen hI hl hM
    have hUl : (u :: P).length = P.length + 1 := rfl
    rw [hUl] at hl hM
    obtain ⟨M, rfl⟩ : ∃ k, M = k + 1 := ⟨M - 1, by omega⟩
    have h0 : m.1 3323 = nI ((P ++ rest).length + 1) := hS.1
    have h1 : m.2.1 43 (P ++ rest).length = nI u := hS.2.1
    have hl2 : (P ++ rest).length + 1 ≤ 2000 := hlen
    have hu := hP u (by simp)
    have hb := hbl u hu.2.1
    have zg : zga (nI (P ++ rest).length) (zlen 43) = true := zga_l (by rfl) (show (P ++ rest).length < 2100 by omega) (by decide)
    obtain ⟨m1, e1, e2, e3, e4, e5⟩ := q_emit (N := N) (l := l) (u := nI u) (v := 0) (m := zsc m 3323 (nI (P ++ rest).length)) hI (by omega)
    obtain ⟨m', f1, f2, f3, f5, f6, f7⟩ := ih rest (l ++ [(nI u, 0)]) M m1 ⟨(e3.1 3323 List.not_mem_nil).trans zsc_at, by rw [e3.2.1 43 (by decide)]; exact hS.2.2⟩ (fun x hx => hP x (by simp [hx])) hr (by omega) e2 (by rw [List.length_append, List.length_singleton]; omega) (by omega)
    refine ⟨m', ?_, f2, ?_, zeq_trans (zeq_c (by decide)) (zeq_trans (zeq_mono e3 (fun _ h => absurd h List.not_mem_nil) (fun _ h => h)) f5), zFM_trans (zFM_eq (zeq_c (K := [3323]) (A := []) (by decide)) (by decide) (by simp)) (zFM_trans e4 f6), fun j hj => (f7 j hj).trans (e5 j hj)⟩
    · show fX10_reduce_L0S N (nI by_) (fX10_reduce_L0 N (nI by_) M) m = _
      unfold fX10_reduce_L0S
      rw [h0, if_neg (nI_nle (by omega) (by omega)), nI_pred, nI_clamp (by omega), h1, if_pos zg, if_neg (show ¬ nI u ≤ (11 : Int32) from nI_ge (a := 11) (by omega) (by omega)), if_pos zg, e10_bnd (by omega), zbn_s, if_neg (nI_nlt (by omega) (by omega)), h0, nI_pred, if_pos zg, nI_clamp (by omega), h1, e1, zbn_s]
      exact f1
    · rw [List.append_assoc] at f3
      exact f3
set_option maxHeartbeats 200000 in
theorem q_reduce {N by_ : Nat} {P rest : List Nat} {l : List (Int32 × Int32)} {m : zS} {x : Int32} (hx : x = nI by_) (hby : by_ ≤ 7) (hN : 2100 ≤ N) (hS : zSK (P ++ rest) m) (hP : ∀ u, u ∈ P → 12 ≤ u ∧ u ≤ 21 ∧ by_ ≤ zbnd u) (hr : ∀ x r, rest = x :: r → x ≤ 21 ∧ (x ≤ 11 ∨ zbnd x < by_)) (hlen : (P ++ rest).length ≤ 2000) (hI : zIM l m) (hl : l.length + P.length ≤ 2000) : ∃ m', fX10_reduce N x m = some ((), m') ∧ zSK rest m' ∧ zIM (l ++ zi0 P) m' ∧ zeq [3323] [36, 39] m m' ∧ zFM m m' ∧ ∀ j, j ≠ 2 → m'.2.1 36 j = m.2.1 36 j := by
  subst hx
  have hPl : P.length ≤ 2000 := by rw [List.length_append] at hlen; omega
  obtain ⟨m', h1, h2⟩ := l10_reduce (N := N) hby P rest l N m hS hP hr hlen hI hl (by omega)
  refine ⟨m', ?_, h2⟩
  unfold fX10_reduce
  rw [h1]
  rfl
set_option maxHeartbeats 200000 in
theorem q_fail {N : Nat} {T : Nat → Nat} {n i x : Nat} {m : zS} {y : Int32} (h : zPM T n i m) (hy : y = nI x) : fX10_fail N y m = some (0, zsc (zsc m 3320 (if (zw T n i).1 = 24 then (zw T n i).2.1 else nI x)) 3321 (nI (zw T n i).2.2.1)) := by
  subst hy
  obtain ⟨h1, h2, h3⟩ := h
  unfold fX10_fail
  rw [h3, if_pos (by decide), h2.1, h2.2.1]
  by_cases c : (zw T n i).1 = 24
  · rw [c, if_pos (show nI (zMs 24) = 6 from rfl), if_pos rfl, h2.2.2.2.1 (Or.inr (Or.inr (Or.inr c)))]
  · rw [if_neg c, if_neg]
    intro z
    have hz : ∀ kd, kd < 25 → kd ≠ 24 → ¬ nI (zMs kd) = 6 := by
      have h9 : ∀ kd, kd < 24 → ¬ nI (zMs kd) = 6 := by decide +kernel
      exact fun kd q1 q2 => h9 kd (by omega)
    have hk : (zw T n i).1 < 25 := by
      show (zwd T n (zps T n i)).1 < 25
      unfold zwd
      split
      · exact Nat.le_of_ble_eq_true rfl
      split
      · exact Nat.le_of_ble_eq_true rfl
      · exact ztok_k (h1.2.2 _ (by omega)).1
    exact hz _ hk c z
