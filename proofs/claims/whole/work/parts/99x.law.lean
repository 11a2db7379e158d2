def zIw (s : zS) : Prop := ∀ k, k < 20 → s.2.1 1 k = s.2.1 34 k ∧ zby (s.2.1 1 k)
def zIt (n : Nat) (s : zS) : Prop := s.1 402 = nI n ∧ s.1 3303 = nI n ∧ ∀ k, k < n → s.2.1 5 k = s.2.1 35 k ∧ zby (s.2.1 5 k)
def zIf (s : zS) : Prop := s.1 309 = s.1 3313 ∧ s.1 310 = s.1 3314
def zIo (s : zS) : Prop := ∃ n, n ≤ 6000 ∧ s.1 3001 = nI n ∧ s.1 3329 = nI n ∧ ∀ i, i < n → s.2.1 31 i = s.2.1 44 i
def zIb (s : zS) : Prop := zBk (s.2.2.1 301) ∧ zBk (s.2.2.1 302) ∧ s.2.2.1 301 ≠ s.2.2.1 302
def zInv (j : Nat) (s : zS) : Prop := zTbl s ∧ zIb s ∧ zIw s ∧ (∃ n, n ≤ 20 * j ∧ zIt n s) ∧ zIf s ∧ zIo s ∧ ∃ n0 n1 n2 n3 nb nl, zBR (s.2.2.1 301) 1 n0 n1 n2 n3 nb nl s s ∧ zWF (s.2.2.1 301) n0 n1 n2 n3 s
abbrev zSK1 : List Nat := [303, 304, 305, 306, 307, 308, 403, 404, 405, 603, 3003, 3004, 3300, 3311, 3312, 3315, 3316, 3317, 3318, 3319, 3320, 3321, 3323, 3324, 3325, 3326, 3327, 3335]
abbrev zSA1 : List Nat := [2, 7, 29, 32, 43, 45, 46, 47, 48]
set_option maxHeartbeats 1000000 in
theorem zTbl_1 {s t : zS} {K A : List Nat} (h : zTbl s) (hz : zeq K A s t) (hK : ∀ k, k ∈ K → k ∉ [601, 602] ∧ (k < 800 ∨ 2700 < k)) : zTbl t := by
  have e : ∀ k, k = 601 ∨ k = 602 ∨ (800 ≤ k ∧ k ≤ 2700) → t.1 k = s.1 k := fun k hk => hz.1 k (fun z => by
    have := hK k z
    simp only [List.mem_cons, List.not_mem_nil, or_false] at this
    omega)
  refine ⟨(e 601 (by omega)).trans h.1, (e 602 (by omega)).trans h.2.1, fun b hb => ?_⟩
  have hbb := zb_lt hb
  obtain ⟨⟨a1, a2⟩, ⟨a3, a4⟩, ⟨a5, a6⟩, ⟨a7, a8⟩⟩ := h.2.2 b hb
  exact ⟨⟨(e _ (by omega)).trans a1, (e _ (by omega)).trans a2⟩, ⟨(e _ (by omega)).trans a3, (e _ (by omega)).trans a4⟩, ⟨(e _ (by omega)).trans a5, (e _ (by omega)).trans a6⟩, ⟨(e _ (by omega)).trans a7, (e _ (by omega)).trans a8⟩⟩
set_option maxHeartbeats 1000000 in
theorem zIr_1 {s t : zS} {K A : List Nat} (h : zIb s) (hr : ∃ n0 n1 n2 n3 nb nl, zBR (s.2.2.1 301) 1 n0 n1 n2 n3 nb nl s s ∧ zWF (s.2.2.1 301) n0 n1 n2 n3 s) (hz : zeq K A s t) (hK : ∀ k, k ∈ K → k < 800 ∨ 2700 < k) (hA : ∀ a, a ∈ A → a ∉ [36, 37, 38, 39, 40, 41, 42, 49] ∧ (a < 10 ∨ 27 < a)) : ∃ n0 n1 n2 n3 nb nl, zBR (t.2.2.1 301) 1 n0 n1 n2 n3 nb nl t t ∧ zWF (t.2.2.1 301) n0 n1 n2 n3 t := by
  obtain ⟨n0, n1, n2, n3, nb, nl, h1, h2⟩ := hr
  obtain ⟨B, hB⟩ : ∃ B, B = s.2.2.1 301 := ⟨_, rfl⟩
  have hb : B = 8 ∨ B = 18 := by rw [hB]; exact h.1
  rw [hz.2.2]
  rw [← hB] at h1 h2 ⊢
  have ea : ∀ a, a ∈ [B + 2, B + 4, B + 6, B + 8, B + 9] → t.2.1 a = s.2.1 a := fun a ha => hz.2.1 a (fun z => by
    have h9 := (hA a z).2
    simp only [List.mem_cons, List.not_mem_nil, or_false] at ha
    clear hA hK hz h1 h2 h hB
    omega)
  refine ⟨n0, n1, n2, n3, nb, nl, zBR_c (zBR_m h1 (fun a ha => hz.2.1 a (fun z => (hA a z).1 ha))) (fun k hk => hz.1 k (fun z => by
    have h9 := hK k z
    simp only [List.mem_cons, List.not_mem_nil, or_false] at hk
    clear hA hK hz h1 h2 h hB
    omega)) ea, zWF_c h2 ea⟩
set_option maxHeartbeats 1000000 in
theorem zInv_1 {j : Nat} {s t : zS} (h : zInv j s) (hz : zeq zSK1 zSA1 s t) : zInv (j + 1) t := by
  obtain ⟨h1, h2, h3, ⟨n, hn, h4, h5, h6⟩, ⟨h7, h8⟩, ⟨k, hk, h9, h10, h11⟩, h12⟩ := h
  have hk1 : ∀ k, k ∈ zSK1 → k ∉ [601, 602] ∧ (k < 800 ∨ 2700 < k) := by decide
  have hk2 : ∀ k, k ∈ zSK1 → (k < 800 ∨ 2700 < k) := by decide
  have ha2 : ∀ a, a ∈ zSA1 → a ∉ [36, 37, 38, 39, 40, 41, 42, 49] ∧ (a < 10 ∨ 27 < a) := by decide
  refine ⟨zTbl_1 h1 hz hk1, ?_, ?_, ⟨n, by omega, ?_, ?_, ?_⟩, ⟨?_, ?_⟩, ⟨k, hk, ?_, ?_, ?_⟩, zIr_1 h2 h12 hz hk2 ha2⟩
  · unfold zIb; rw [hz.2.2]; exact h2
  · unfold zIw; rw [hz.2.1 1 (by decide), hz.2.1 34 (by decide)]; exact h3
  · rw [hz.1 402 (by decide)]; exact h4
  · rw [hz.1 3303 (by decide)]; exact h5
  · rw [hz.2.1 5 (by decide), hz.2.1 35 (by decide)]; exact h6
  · rw [hz.1 309 (by decide), hz.1 3313 (by decide)]; exact h7
  · rw [hz.1 310 (by decide), hz.1 3314 (by decide)]; exact h8
  · rw [hz.1 3001 (by decide)]; exact h9
  · rw [hz.1 3329 (by decide)]; exact h10
  · rw [hz.2.1 31 (by decide), hz.2.1 44 (by decide)]; exact h11
set_option maxHeartbeats 1000000 in
theorem zInv_0 {j : Nat} {s : zS} (h : zInv j s) : zInv (j + 1) (zsc s 3300 0) := zInv_1 h (zeq_c (by decide))
def zRd (N : Nat) : Prop := ∀ (j : Nat) (s : zS), j < 48 → zInv j s → ∃ (w : Option Int32) (s1 : zS) (x : Int32) (s2 : zS), fX9_read N s = some (w, s1) ∧ fX10_read N (zrs w s1) = some (x, s2) ∧ s2.1 3300 = zrk w ∧ (∀ v, w = some v → x = v) ∧ s2.2.2.2 = (zrs w s1).2.2.2 ∧ zInv (j + 1) s2
def zTl (N : Nat) : Prop := ∀ (j : Nat) (s : zS), j < 48 → zInv j s → ∀ p : Int32, ∃ (x : Int32) (s1 s2 : zS), fX9_tell N p s = some (x, s1) ∧ fX10_tell N p s1 = some (x, s2) ∧ zInv (j + 1) s2
set_option maxHeartbeats 1000000 in
theorem i_feed {N j : Nat} {s : zS} (hN : 10000 ≤ N) (h : zInv j s) (p0 p1 p2 p3 p4 : Int32) : ∃ s1 s2, fX9_feed N p0 p1 p2 p3 p4 s = some ((), s1) ∧ fX10_feed N p0 p1 p2 p3 p4 s1 = some ((), s2) ∧ zInv (j + 1) s2 := by
  obtain ⟨q1, e1, z1, a1⟩ := q_feedC (N := N) (by omega) p0 p1 p2 p3 p4 s
  obtain ⟨q2, e2, z2, a2⟩ := q_feedM (N := N) (by omega) p0 p1 p2 p3 p4 q1.2
  refine ⟨q1.2, q2.2, e1, e2, ?_⟩
  have hz : zeq [3300] [1, 34] s q2.2 := zeq_trans (zeq_mono z1 (fun _ h => absurd h List.not_mem_nil) (by decide)) (zeq_mono z2 (by decide) (by decide))
  obtain ⟨h1, h2, h3, ⟨n, hn, h4, h5, h6⟩, ⟨h7, h8⟩, ⟨k, hk, h9, h10, h11⟩, h12⟩ := h
  refine ⟨zTbl_1 h1 hz (by decide), ?_, ?_, ⟨n, by omega, ?_, ?_, ?_⟩, ⟨?_, ?_⟩, ⟨k, hk, ?_, ?_, ?_⟩, zIr_1 h2 h12 hz (by decide) (by decide)⟩
  · unfold zIb; rw [hz.2.2]; exact h2
  · intro x hx
    have e34 : q1.2.2.1 34 = s.2.1 34 := z1.2.1 34 (by decide)
    have e11 : q2.2.2.1 1 = q1.2.2.1 1 := z2.2.1 1 (by decide)
    rw [e11, a1, a2, e34]
    exact zfed_same h3 x hx
  · rw [hz.1 402 (by decide)]; exact h4
  · rw [hz.1 3303 (by decide)]; exact h5
  · rw [hz.2.1 5 (by decide), hz.2.1 35 (by decide)]; exact h6
  · rw [hz.1 309 (by decide), hz.1 3313 (by decide)]; exact h7
  · rw [hz.1 310 (by decide), hz.1 3314 (by decide)]; exact h8
  · rw [hz.1 3001 (by decide)]; exact h9
  · rw [hz.1 3329 (by decide)]; exact h10
  · rw [hz.2.1 31 (by decide), hz.2.1 44 (by decide)]; exact h11
set_option maxHeartbeats 1000000 in
theorem i_end {N j : Nat} {s : zS} (hN : 10000 ≤ N) (hj : j < 48) (h : zInv j s) (p : Int32) : ∃ x s1 s2, fX9_end N p s = some (x, s1) ∧ fX10_end N p s1 = some (x, s2) ∧ zInv (j + 1) s2 := by
  have h' := h
  obtain ⟨h1, h2, h3, ⟨n, hn, h4, h5, h6⟩, ⟨h7, h8⟩, ⟨k, hk, h9, h10, h11⟩, h12⟩ := h
  have no : p < 0 ∨ 20 < p → ∃ x s1 s2, fX9_end N p s = some (x, s1) ∧ fX10_end N p s1 = some (x, s2) ∧ zInv (j + 1) s2 := fun hp => by
    obtain ⟨e1, e2⟩ := q_end_no (N := N) s h4 h5 (by omega) p hp
    exact ⟨_, s, _, e1, e2, zInv_0 h'⟩
  rcases pk_ix p (n := 21) (by decide) with hp | hp | ⟨i, hi, rfl⟩
  · exact no (Or.inl hp)
  · refine no (Or.inr ?_)
    have h21 : (20 : Int32) < 21 := by decide
    exact Int32.lt_of_lt_of_le h21 hp
  obtain ⟨q1, e1, r1, z1, a1, b1, d1⟩ := q_endC (N := N) (n := n) (i := i) (by omega) s h4 (by omega) (by omega)
  have h5' : q1.2.1 3303 = nI n := (z1.1 3303 (by decide)).trans h5
  obtain ⟨q2, e2, r2, z2, a2, b2, d2⟩ := q_endM (N := N) (n := n) (i := i) (by omega) q1.2 h5' (by omega) (by omega)
  have hz : zeq [402, 3300, 3303] [1, 5, 34, 35] s q2.2 := zeq_trans (zeq_mono z1 (by decide) (by decide)) (zeq_mono z2 (by decide) (by decide))
  refine ⟨nI (n + i), q1.2, q2.2, ?_, ?_, ?_⟩
  · rw [e1, ← r1]
  · rw [e2, ← r2]
  refine ⟨zTbl_1 h1 hz (by decide), ?_, ?_, ⟨n + i, by omega, ?_, a2, ?_⟩, ⟨?_, ?_⟩, ⟨k, hk, ?_, ?_, ?_⟩, zIr_1 h2 h12 hz (by decide) (by decide)⟩
  · unfold zIb; rw [hz.2.2]; exact h2
  · intro x hx
    rw [z2.2.1 1 (by decide), b1 x hx, b2 x hx]
    exact ⟨rfl, 0, by omega, rfl⟩
  · rw [z2.1 402 (by decide)]; exact a1
  · intro x hx
    rw [z2.2.1 5 (by decide), d1, d2, z1.2.1 34 (by decide), z1.2.1 35 (by decide)]
    by_cases c : n ≤ x ∧ x < n + i
    · rw [if_pos c, if_pos c]
      exact h3 (x - n) (by omega)
    · rw [if_neg c, if_neg c]
      exact h6 x (by omega)
  · rw [hz.1 309 (by decide), hz.1 3313 (by decide)]; exact h7
  · rw [hz.1 310 (by decide), hz.1 3314 (by decide)]; exact h8
  · rw [hz.1 3001 (by decide)]; exact h9
  · rw [hz.1 3329 (by decide)]; exact h10
  · rw [hz.2.1 31 (by decide), hz.2.1 44 (by decide)]; exact h11
set_option maxRecDepth 10000 in
set_option maxHeartbeats 1000000 in
theorem inv_zs0 : zInv 0 zs0 := by
  refine ⟨⟨rfl, rfl, fun b hb => ?_⟩, ⟨Or.inl rfl, Or.inr rfl, by decide⟩, fun k _ => ⟨rfl, 0, by omega, rfl⟩, ⟨0, Nat.le_refl _, rfl, rfl, fun k hk => absurd hk (Nat.not_lt_zero _)⟩, ⟨rfl, rfl⟩, ⟨0, by omega, rfl, rfl, fun k hk => absurd hk (Nat.not_lt_zero _)⟩, 0, 0, 0, 0, 0, 0, ?_, ?_⟩
  · rcases hb with rfl | rfl <;> exact ⟨⟨rfl, rfl⟩, ⟨rfl, rfl⟩, ⟨rfl, rfl⟩, ⟨rfl, rfl⟩⟩
  · show zBR 8 1 0 0 0 0 0 0 zs0 zs0
    refine ⟨⟨by omega, rfl, rfl, fun k j hk => absurd hk (Nat.not_lt_zero _)⟩, ⟨by omega, rfl, rfl, fun k j hk => absurd hk (Nat.not_lt_zero _)⟩, ⟨by omega, rfl, rfl, fun k j hk => absurd hk (Nat.not_lt_zero _)⟩, ⟨by omega, rfl, rfl, fun k hk => absurd hk (Nat.not_lt_zero _)⟩, ⟨by omega, rfl, by omega, fun k hk => absurd hk (Nat.not_lt_zero _)⟩⟩
  · exact ⟨fun _ => 0, fun _ => 0, fun _ => 0, by decide, rfl, fun j hj => absurd hj (Nat.not_lt_zero _), fun j hj => absurd hj (Nat.not_lt_zero _), fun j hj => absurd hj (Nat.not_lt_zero _), fun j hj => absurd hj (Nat.not_lt_zero _)⟩
set_option maxHeartbeats 1000000 in
theorem law_step {N L j : Nat} {xs : Nat → Int32} {s : zS} {rec : Int32 → zS → Option ((Int32 × zS) ⊕ zS)} (hN : 10000 ≤ N) (hr : zRd N) (ht : zTl N) (hj : 6 * j + 6 ≤ L) (hL : L ≤ 288) (h : zInv j s) : ∃ s', zInv (j + 1) s' ∧ fL_law_L23S N L xs rec (nI (6 * j)) s = rec (nI (6 * (j + 1))) s' := by
  have g : ∀ k, k < 6 → zga (nI (6 * j + k)) L = true := fun k hk => zga_n (by omega) (by omega)
  have a : ∀ (k : Nat) (x : Int32), x = nI k → nI (6 * j) + x = nI (6 * j + k) := fun k x hx => by rw [hx, nI_add]
  have cl : ∀ k, k < 6 → (nI (6 * j + k)).toNatClampNeg = 6 * j + k := fun k hk => nI_clamp (by omega)
  have e6 : nI (6 * j) + 6 = nI (6 * (j + 1)) := a 6 6 rfl
  have hlt : ¬ nI L - 6 < nI (6 * j) := by
    rw [show nI L - 6 = nI (L - 6) from pk_sub (b := 6) (by omega)]
    exact nI_nlt (by omega) (by omega)
  have hb : zBk (s.2.2.1 301) := h.2.1.1
  have hT := h.1
  obtain ⟨n0, n1, n2, n3, nb, nl, hR, hW⟩ := h.2.2.2.2.2.2
  unfold fL_law_L23S
  rw [if_neg hlt, if_pos (show zga (nI (6 * j)) L = true from zga_n (by omega) (by omega)), e6, a 1 1 rfl, a 2 2 rfl, a 3 3 rfl, a 4 4 rfl, a 5 5 rfl, cl 1 (by omega), cl 2 (by omega), cl 3 (by omega), cl 4 (by omega), cl 5 (by omega)]
  simp only [g 1 (by omega), g 2 (by omega), g 3 (by omega), g 4 (by omega), g 5 (by omega), ↓reduceIte]
  obtain ⟨y, hy⟩ : ∃ y, y = xs (nI (6 * j)).toNatClampNeg &&& 15 := ⟨_, rfl⟩
  rw [← hy]
  by_cases c0 : y = 0
  · rw [if_pos c0]
    obtain ⟨s1, s2, e1, e2, hi⟩ := i_feed hN h (xs (6 * j + 1)) (xs (6 * j + 2)) (xs (6 * j + 3)) (xs (6 * j + 4)) (xs (6 * j + 5))
    exact ⟨s2, hi, by rw [e1, zbn_s, e2, zbn_s]⟩
  rw [if_neg c0]
  by_cases c1 : y = 1
  · rw [if_pos c1]
    obtain ⟨x, s1, s2, e1, e2, hi⟩ := i_end hN (by omega) h (xs (6 * j + 1))
    exact ⟨s2, hi, by rw [e1, zbn_s, e2, zbn_s, if_pos rfl]⟩
  rw [if_neg c1]
  by_cases c2 : y = 2
  · rw [if_pos c2]
    obtain ⟨w, s1, x, s2, e1, e2, e3, e4, e5, hi⟩ := hr j s (by omega) h
    refine ⟨s2, hi, ?_⟩
    have hbr : ∀ (k : Int32 → zS → Option ((Int32 × zS) ⊕ zS)), zbr (fX9_read N s) k = k (zrk w) (zrs w s1) := fun k => by rw [e1]; rfl
    have hth : fX10_thrown N s2 = some (zrk w, s2) := by unfold fX10_thrown; rw [e3]
    rw [hbr, e2, zbn_s, hth, zbn_s, if_pos rfl]
    cases w with
    | none => exact if_neg (by decide)
    | some v =>
      rw [if_pos (show zrk (some v) = 0 from rfl), if_pos]
      rw [zlg, e5, e4 v rfl]
      rfl
  rw [if_neg c2]
  by_cases c3 : y = 3
  · rw [if_pos c3]
    obtain ⟨x, e1, e2⟩ := c_fault (N := N) h.2.2.2.2.1.1 h.2.2.2.2.1.2 (xs (6 * j + 1))
    exact ⟨_, zInv_0 h, by rw [e1, zbn_s, e2, zbn_s, if_pos rfl]⟩
  rw [if_neg c3]
  by_cases c4 : y = 4
  · rw [if_pos c4]
    obtain ⟨x, e1, e2⟩ := c_count (N := N) hb hR (xs (6 * j + 1))
    exact ⟨_, zInv_0 h, by rw [e1, zbn_s, e2, zbn_s, if_pos rfl]⟩
  rw [if_neg c4]
  by_cases c5 : y = 5
  · rw [if_pos c5]
    obtain ⟨x, e1, e2⟩ := c_statement (N := N) hb hT hR (xs (6 * j + 1)) (xs (6 * j + 2))
    exact ⟨_, zInv_0 h, by rw [e1, zbn_s, e2, zbn_s, if_pos rfl]⟩
  rw [if_neg c5]
  by_cases c6 : y = 6
  · rw [if_pos c6]
    obtain ⟨x, e1, e2⟩ := c_operand (N := N) hb hT hR (xs (6 * j + 1)) (xs (6 * j + 2))
    exact ⟨_, zInv_0 h, by rw [e1, zbn_s, e2, zbn_s, if_pos rfl]⟩
  rw [if_neg c6]
  by_cases c7 : y = 7
  · rw [if_pos c7]
    obtain ⟨x, s1, s2, e1, e2, hz⟩ := c_constant (N := N) (by omega) hb hT hR hW (xs (6 * j + 1))
    exact ⟨s2, zInv_1 h (zeq_mono hz (by decide) (by decide)), by rw [e1, zbn_s, e2, zbn_s, if_pos (zlg.mpr rfl)]⟩
  rw [if_neg c7]
  by_cases c8 : y = 8
  · rw [if_pos c8]
    obtain ⟨x, e1, e2⟩ := c_item (N := N) hb hT hR (xs (6 * j + 1)) (xs (6 * j + 2))
    exact ⟨_, zInv_0 h, by rw [e1, zbn_s, e2, zbn_s, if_pos rfl]⟩
  rw [if_neg c8]
  by_cases c9 : y = 9
  · rw [if_pos c9]
    obtain ⟨x, e1, e2⟩ := c_name (N := N) hb hT hR (xs (6 * j + 1)) (xs (6 * j + 2))
    exact ⟨_, zInv_0 h, by rw [e1, zbn_s, e2, zbn_s, if_pos rfl]⟩
  rw [if_neg c9]
  by_cases c10 : y = 10
  · rw [if_pos c10]
    obtain ⟨x, e1, e2⟩ := c_string (N := N) hb hT hR (xs (6 * j + 1)) (xs (6 * j + 2))
    exact ⟨_, zInv_0 h, by rw [e1, zbn_s, e2, zbn_s, if_pos rfl]⟩
  rw [if_neg c10]
  by_cases c11 : y = 11
  · rw [if_pos c11]
    obtain ⟨x, s1, s2, e1, e2, hz⟩ := c_find (N := N) (by omega) hb hT hR ((((xs (6 * j + 1)).toInt64) <<< ((32 : Int32).toInt64 &&& 63)) ||| (((xs (6 * j + 2)).toInt64) &&& 4294967295)) ((((xs (6 * j + 3)).toInt64) <<< ((32 : Int32).toInt64 &&& 63)) ||| (((xs (6 * j + 4)).toInt64) &&& 4294967295))
    exact ⟨s2, zInv_1 h (zeq_mono hz (by decide) (by decide)), by rw [e1, zbn_s, e2, zbn_s, if_pos rfl]⟩
  rw [if_neg c11]
  by_cases c12 : y = 12
  · rw [if_pos c12]
    obtain ⟨x, s1, s2, e1, e2, hi⟩ := ht j s (by omega) h (xs (6 * j + 1))
    exact ⟨s2, hi, by rw [e1, zbn_s, e2, zbn_s, if_pos rfl]⟩
  rw [if_neg c12]
  by_cases c13 : y = 13
  · rw [if_pos c13]
    obtain ⟨k, hk, q1, q2, q3⟩ := h.2.2.2.2.2.1
    obtain ⟨x, e1, e2⟩ := c_letter (N := N) q1 q2 hk q3 (xs (6 * j + 1))
    exact ⟨_, zInv_0 h, by rw [e1, zbn_s, e2, zbn_s, if_pos rfl]⟩
  rw [if_neg c13]
  exact ⟨s, zInv_1 h (zeq_refl _ _ _), rfl⟩
set_option maxHeartbeats 1000000 in
theorem zPure_of {N : Nat} (hN : 10000 ≤ N) (hr : zRd N) (ht : zTl N) : zPure := by
  intro L xs hL
  have key : ∀ d j n s, j + d = 49 → d < n → zInv j s → 6 * j ≤ L + 6 → ∃ s', fL_law_L23 N L xs n (nI (6 * j)) s = some (.inr s') := by
    intro d
    induction d with
    | zero =>
      intro j n s hj hn h h6
      obtain ⟨n, rfl⟩ : ∃ q, n = q + 1 := ⟨n - 1, by omega⟩
      refine ⟨s, ?_⟩
      show fL_law_L23S N L xs (fL_law_L23 N L xs n) (nI (6 * j)) s = _
      unfold fL_law_L23S
      rw [if_pos]
      rw [show nI L - 6 = nI (L - 6) from pk_sub (b := 6) (by omega)]
      exact nI_lt (by omega) (by omega)
    | succ d ih =>
      intro j n s hj hn h h6
      obtain ⟨n, rfl⟩ : ∃ q, n = q + 1 := ⟨n - 1, by omega⟩
      by_cases c : 6 * j + 6 ≤ L
      · obtain ⟨s', hi, e⟩ := law_step (xs := xs) (rec := fL_law_L23 N L xs n) hN hr ht c hL h
        obtain ⟨s2, e2⟩ := ih (j + 1) n s' (by omega) (by omega) hi (by omega)
        exact ⟨s2, e.trans e2⟩
      · refine ⟨s, ?_⟩
        show fL_law_L23S N L xs (fL_law_L23 N L xs n) (nI (6 * j)) s = _
        unfold fL_law_L23S
        rw [if_pos]
        by_cases c6 : 6 ≤ L
        · rw [show nI L - 6 = nI (L - 6) from pk_sub (b := 6) c6]
          exact nI_lt (by omega) (by omega)
        · exact Int32.lt_of_lt_of_le (show nI L - 6 < 0 from pk_sneg (b := 6) (by omega) (by omega)) (nI_pos' (by omega))
  obtain ⟨s', e⟩ := key 49 0 50 zs0 rfl (by omega) inv_zs0 (by omega)
  exact ⟨N, 50, s', by omega, e⟩
