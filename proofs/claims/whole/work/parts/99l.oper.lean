set_option maxHeartbeats 1000000 in
theorem zsr_g {s : zS} {a i k : Nat} {x : Int32} (hi : i < 2 ^ 31) : (zsr s a (nI i) x).2.1 a k = if k = i then x else s.2.1 a k := by
  by_cases e : k = i
  · subst e
    rw [if_pos rfl, zsr_a hi]
  · rw [if_neg e, zsr_n hi e]
set_option maxHeartbeats 1000000 in
theorem o_full {N b n1 : Nat} {c : zS} (hb : zBk b) (h302 : c.2.2.1 302 = b) (hT : zTbl c) (h1 : c.1 (100 * (b + 3) + 3) = nI n1) (hn1 : n1 ≤ 800) : fX6_isFull N (b + 3) c = if n1 < 800 then some (0, c) else some (1, c) := by
  unfold fX6_isFull
  rw [h1, (hT.2.2 b hb).2.1.2]
  by_cases c9 : n1 < 800
  · rw [if_pos (nI_lt c9 (by decide)), if_pos c9]
  · rw [if_neg (nI_nlt (by omega) (by omega)), if_neg c9]
set_option maxHeartbeats 1000000 in
theorem o_set {N b n1 j : Nat} {c : zS} {v x y : Int32} (hb : zBk b) (hT : zTbl c) (h1 : c.1 (100 * (b + 3) + 3) = nI (n1 + 1)) (hn1 : n1 < 800) (hj : j < 8) (hx : x = nI n1) (hy : y = nI j) : fX6_setCell N (b + 3) x y v c = some ((), zsr c (b + 4) (nI (n1 * 8 + j)) v) := by
  subst hx
  subst hy
  exact q_setCell (a := b + 3) (w := 8) (n := n1 + 1) (k := n1) (j := j) (L := 6400) (hT.2.2 b hb).2.1.1 h1 (zlen_b hb).2.1 (by omega) hj (by omega) (by omega) (by omega) (by omega)
set_option maxHeartbeats 1000000 in
theorem zTbl_z {b : Nat} {c c' : zS} {K A : List Nat} (hb : zBk b) (hT : zTbl c) (hz : zeq K A c c') (hK : ∀ k, k ∈ K → k ∈ zKC b) (hA : ∀ a, a ∈ A → a ∈ zAC b) : zTbl c' := zTbl_C hb hT (zeq_mono hz hK hA)
set_option maxHeartbeats 1000000 in
theorem o_add {N b n1 F so : Nat} {c : zS} {x : Int32} (hb : zBk b) (h302 : c.2.2.1 302 = b) (hT : zTbl c) (h1 : c.1 (100 * (b + 3) + 3) = nI n1) (hn1 : n1 < 800) (h5 : c.1 (100 * (b + 5) + 3) = nI F) (hx : x = nI so) (hN : 20 ≤ N) : ∃ c', fX3_addOperand N x c = some (some (), c') ∧ zeq [306, 307, 308, 100 * (b + 3) + 3] [b + 4] c c' ∧ c'.1 306 = nI n1 ∧ c'.1 307 = nI F ∧ c'.1 308 = nI 0 ∧ c'.1 (100 * (b + 3) + 3) = nI (n1 + 1) ∧ (∀ y, y < n1 * 8 → c'.2.1 (b + 4) y = c.2.1 (b + 4) y) ∧ c'.2.1 (b + 4) (n1 * 8 + 0) = nI so ∧ c'.2.1 (b + 4) (n1 * 8 + 1) = (-1) ∧ c'.2.1 (b + 4) (n1 * 8 + 2) = 0 ∧ c'.2.1 (b + 4) (n1 * 8 + 3) = nI F ∧ c'.2.1 (b + 4) (n1 * 8 + 4) = 0 ∧ c'.2.1 (b + 4) (n1 * 8 + 5) = c.1 305 ∧ c'.2.1 (b + 4) (n1 * 8 + 6) = 0 ∧ c'.2.1 (b + 4) (n1 * 8 + 7) = 0 := by
  subst hx
  have hbb := zb_lt hb
  obtain ⟨c0, hc0⟩ : ∃ c0, c0 = zsc (zsc c 307 (nI F)) 308 0 := ⟨_, rfl⟩
  have zc0 : zeq [306, 307, 308, 100 * (b + 3) + 3] [b + 4] c c0 := by rw [hc0]; exact zeq_trans (zeq_c (by simp)) (zeq_c (by simp))
  have mK : ∀ k, k ∈ [306, 307, 308, 100 * (b + 3) + 3] → k ∈ zKC b := fun k hk => by unfold zKC; simp only [List.mem_cons, List.not_mem_nil, or_false] at hk ⊢; omega
  have mA : ∀ k, k ∈ [b + 4] → k ∈ zAC b := fun k hk => by unfold zAC; simp only [List.mem_cons, List.not_mem_nil, or_false] at hk ⊢; omega
  have hT0 : zTbl c0 := zTbl_z hb hT zc0 mK mA
  obtain ⟨w1, w2⟩ := (hT0.2.2 b hb).2.1
  have h10 : c0.1 (100 * (b + 3) + 3) = nI n1 := by rw [hc0]; exact (zsc_ne (by omega)).trans ((zsc_ne (by omega)).trans h1)
  obtain ⟨q, eq, g1, g2, g3, g4, g5⟩ := q_addRow (N := N) (a := b + 3) (w := 8) (n := n1) (m := 800) (L := 6400) w1 w2 h10 (zlen_b hb).2.1 hn1 (by omega) (by omega) (by omega) (by omega) hN
  have eq' : fX6_addRow N (b + 3) c0 = some (q.1, q.2) := eq
  obtain ⟨c1, hc1⟩ : ∃ c1, c1 = zsc q.2 306 (nI n1) := ⟨_, rfl⟩
  have zq : zeq [306, 307, 308, 100 * (b + 3) + 3] [b + 4] c c1 := by
    rw [hc1]
    exact zeq_trans zc0 (zeq_trans (zeq_mono g2 (by simp) (by simp)) (zeq_c (by simp)))
  have zz : ∀ (t : zS) (i v : Int32), zeq [306, 307, 308, 100 * (b + 3) + 3] [b + 4] c t → zeq [306, 307, 308, 100 * (b + 3) + 3] [b + 4] c (zsr t (b + 4) i v) := fun t i v h => zeq_trans h (zeq_r (by simp))
  have e302 : ∀ t, zeq [306, 307, 308, 100 * (b + 3) + 3] [b + 4] c t → t.2.2.1 302 = b := fun t h => by rw [h.2.2]; exact h302
  have tT : ∀ t, zeq [306, 307, 308, 100 * (b + 3) + 3] [b + 4] c t → zTbl t := fun t h => zTbl_z hb hT h mK mA
  have s1 : c1.1 (100 * (b + 3) + 3) = nI (n1 + 1) := by rw [hc1]; exact (zsc_ne (by omega)).trans g3
  have k6 : c1.1 306 = nI n1 := by rw [hc1]; exact zsc_at
  have k7 : c1.1 307 = nI F := by rw [hc1]; exact (zsc_ne (by decide)).trans ((g2.1 307 (by simp; omega)).trans (by rw [hc0]; exact (zsc_ne (by decide)).trans zsc_at))
  have k8 : c1.1 308 = nI 0 := by rw [hc1]; exact (zsc_ne (by decide)).trans ((g2.1 308 (by simp; omega)).trans (by rw [hc0]; exact zsc_at))
  have k5 : c1.1 305 = c.1 305 := zq.1 305 (by simp; omega)
  obtain ⟨c2, hc2⟩ : ∃ c2, c2 = zsr c1 (b + 4) (nI (n1 * 8 + 0)) (nI so) := ⟨_, rfl⟩
  obtain ⟨c3, hc3⟩ : ∃ c3, c3 = zsr c2 (b + 4) (nI (n1 * 8 + 1)) (-1) := ⟨_, rfl⟩
  obtain ⟨c4, hc4⟩ : ∃ c4, c4 = zsr c3 (b + 4) (nI (n1 * 8 + 3)) (nI F) := ⟨_, rfl⟩
  obtain ⟨c5, hc5⟩ : ∃ c5, c5 = zsr c4 (b + 4) (nI (n1 * 8 + 5)) (c.1 305) := ⟨_, rfl⟩
  have z2 : zeq [306, 307, 308, 100 * (b + 3) + 3] [b + 4] c c2 := by rw [hc2]; exact zz _ _ _ zq
  have z3 : zeq [306, 307, 308, 100 * (b + 3) + 3] [b + 4] c c3 := by rw [hc3]; exact zz _ _ _ z2
  have z4 : zeq [306, 307, 308, 100 * (b + 3) + 3] [b + 4] c c4 := by rw [hc4]; exact zz _ _ _ z3
  have z5 : zeq [306, 307, 308, 100 * (b + 3) + 3] [b + 4] c c5 := by rw [hc5]; exact zz _ _ _ z4
  have f2 : c2.1 = c1.1 := by rw [hc2]
  have f3 : c3.1 = c1.1 := by rw [hc3, hc2]
  have f4 : c4.1 = c1.1 := by rw [hc4, hc3, hc2]
  have f5 : c5.1 = c1.1 := by rw [hc5, hc4, hc3, hc2]
  have arr : ∀ y, c5.2.1 (b + 4) y = if y = n1 * 8 + 5 then c.1 305 else if y = n1 * 8 + 3 then nI F else if y = n1 * 8 + 1 then (-1) else if y = n1 * 8 + 0 then nI so else q.2.2.1 (b + 4) y := by
    intro y
    rw [hc5, zsr_g (by omega), hc4, zsr_g (by omega), hc3, zsr_g (by omega), hc2, zsr_g (by omega), hc1]
  refine ⟨c5, ?_, z5, by rw [f5]; exact k6, by rw [f5]; exact k7, by rw [f5]; exact k8, by rw [f5]; exact s1, fun y hy => ?_, ?_, ?_, ?_, ?_, ?_, ?_, ?_, ?_⟩
  · unfold fX3_addOperand
    rw [h302, if_pos hb, o_full hb h302 hT h1 (by omega), if_pos hn1, zbn_s, if_pos rfl]
    unfold fX3_addOperand_J19
    rw [h302, if_pos hb, if_pos hb, h5, ← hc0, eq', zbn_s, e302 q.2 (zeq_trans zc0 (zeq_mono g2 (by simp) (by simp))), if_pos hb, g1, ← hc1, o_set (n1 := n1) (j := 0) (y := 0) hb (tT _ zq) s1 hn1 (by omega) rfl rfl, zbn_s, ← hc2, e302 _ z2, if_pos hb, f2, k6, o_set (n1 := n1) (j := 1) (y := 1) hb (tT _ z2) (by rw [f2]; exact s1) hn1 (by omega) rfl rfl, zbn_s, ← hc3, e302 _ z3, if_pos hb, f3, k6, k7, o_set (n1 := n1) (j := 3) (y := 3) hb (tT _ z3) (by rw [f3]; exact s1) hn1 (by omega) rfl rfl, zbn_s, ← hc4, e302 _ z4, if_pos hb, f4, k6, k5, o_set (n1 := n1) (j := 5) (y := 5) hb (tT _ z4) (by rw [f4]; exact s1) hn1 (by omega) rfl rfl, zbn_s, ← hc5]
  · rw [arr, if_neg (by omega), if_neg (by omega), if_neg (by omega), if_neg (by omega)]
    have h9 := g4 y hy
    rw [show q.2.2.1 (b + 4) y = q.2.2.1 (b + 3 + 1) y from rfl, h9, hc0]
  · rw [arr, if_neg (by omega), if_neg (by omega), if_neg (by omega), if_pos rfl]
  · rw [arr, if_neg (by omega), if_neg (by omega), if_pos rfl]
  · rw [arr, if_neg (by omega), if_neg (by omega), if_neg (by omega), if_neg (by omega)]; exact g5 _ (by omega) (by omega)
  · rw [arr, if_neg (by omega), if_pos rfl]
  · rw [arr, if_neg (by omega), if_neg (by omega), if_neg (by omega), if_neg (by omega)]; exact g5 _ (by omega) (by omega)
  · rw [arr, if_pos rfl]
  · rw [arr, if_neg (by omega), if_neg (by omega), if_neg (by omega), if_neg (by omega)]; exact g5 _ (by omega) (by omega)
  · rw [arr, if_neg (by omega), if_neg (by omega), if_neg (by omega), if_neg (by omega)]; exact g5 _ (by omega) (by omega)
