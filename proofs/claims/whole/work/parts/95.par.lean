abbrev zw (T : Nat → Nat) (n i : Nat) : Nat × Int32 × Nat × Nat := zwd T n (zps T n i)
/-- the class's reader at word i, its book at b -/
def zPC (T : Nat → Nat) (n b L i : Nat) (c : zS) : Prop := zBk b ∧ c.2.2.1 302 = b ∧ zTbl c ∧ zTx 5 403 T n c ∧ (c.1 603 = nI (L + 1) ∧ c.1 309 = 0 ∧ c.1 310 = (-1)) ∧ zRw T n c (L + 1) ∧ c.1 303 = nI i ∧ c.1 304 = nI (zw T n i).1 ∧ c.1 305 = nI (zw T n i).2.2.1
def zPM (T : Nat → Nat) (n i : Nat) (m : zS) : Prop := zTx 35 3303 T n m ∧ zMW T n (zw T n i) m ∧ m.1 3320 = nI 0
def zKC (b : Nat) : List Nat := [303, 304, 305, 306, 307, 308, 309, 310, 100 * (b + 1) + 3, 100 * (b + 3) + 3, 100 * (b + 5) + 3, 100 * (b + 7) + 3, 100 * b + 5]
def zAC (b : Nat) : List Nat := [b + 2, b + 4, b + 6, b + 8, b + 9]
abbrev zKM : List Nat := [3311, 3312, 3315, 3316, 3317, 3318, 3319, 3320, 3321, 3323, 3324, 3325, 3326, 3327]
abbrev zAM : List Nat := [36, 37, 38, 39, 40, 41, 42, 43, 48, 49]
def zFM (m t : zS) : Prop := zeq zKM zAM m t ∧ ∀ k, (4 ≤ k → t.2.1 36 k = m.2.1 36 k) ∧ (2400 ≤ k → t.2.1 37 k = m.2.1 37 k) ∧ (5600 ≤ k → t.2.1 38 k = m.2.1 38 k) ∧ (4000 ≤ k → t.2.1 39 k = m.2.1 39 k) ∧ (2400 ≤ k → t.2.1 40 k = m.2.1 40 k) ∧ (150 ≤ k → t.2.1 41 k = m.2.1 41 k) ∧ (3000 ≤ k → t.2.1 42 k = m.2.1 42 k) ∧ (800 ≤ k → t.2.1 49 k = m.2.1 49 k)
set_option maxHeartbeats 200000 in
theorem zFM_refl (m : zS) : zFM m m := ⟨zeq_refl _ _ _, fun _ => ⟨fun _ => rfl, fun _ => rfl, fun _ => rfl, fun _ => rfl, fun _ => rfl, fun _ => rfl, fun _ => rfl, fun _ => rfl⟩⟩
set_option maxHeartbeats 200000 in
theorem zFM_trans {m t u : zS} (h1 : zFM m t) (h2 : zFM t u) : zFM m u := ⟨zeq_trans h1.1 h2.1, fun k => by
  obtain ⟨a1, a2, a3, a4, a5, a6, a7, a8⟩ := h1.2 k
  obtain ⟨b1, b2, b3, b4, b5, b6, b7, b8⟩ := h2.2 k
  exact ⟨fun h => (b1 h).trans (a1 h), fun h => (b2 h).trans (a2 h), fun h => (b3 h).trans (a3 h), fun h => (b4 h).trans (a4 h), fun h => (b5 h).trans (a5 h), fun h => (b6 h).trans (a6 h), fun h => (b7 h).trans (a7 h), fun h => (b8 h).trans (a8 h)⟩⟩
set_option maxHeartbeats 200000 in
theorem zFM_eq {K A : List Nat} {m t : zS} (h : zeq K A m t) (hK : ∀ k, k ∈ K → k ∈ zKM) (hA : ∀ a, a ∈ A → a = 43 ∨ a = 48) : zFM m t := by
  have e : ∀ a, a ≠ 43 → a ≠ 48 → t.2.1 a = m.2.1 a := fun a h1 h2 => h.2.1 a (fun z => (hA a z).elim h1 h2)
  refine ⟨zeq_mono h hK (fun a z => (hA a z).elim (fun q => by rw [q]; decide) (fun q => by rw [q]; decide)), fun k => ?_⟩
  rw [e 36 (by decide) (by decide), e 37 (by decide) (by decide), e 38 (by decide) (by decide), e 39 (by decide) (by decide), e 40 (by decide) (by decide), e 41 (by decide) (by decide), e 42 (by decide) (by decide), e 49 (by decide) (by decide)]
  exact ⟨fun _ => rfl, fun _ => rfl, fun _ => rfl, fun _ => rfl, fun _ => rfl, fun _ => rfl, fun _ => rfl, fun _ => rfl⟩
set_option maxHeartbeats 200000 in
theorem zFM_r {m : zS} {a i : Nat} {x : Int32} (ha : a ∈ zAM) (hi : i < 2 ^ 31) (h36 : a = 36 → i < 4) (h37 : a = 37 → i < 2400) (h38 : a = 38 → i < 5600) (h39 : a = 39 → i < 4000) (h40 : a = 40 → i < 2400) (h41 : a = 41 → i < 150) (h42 : a = 42 → i < 3000) (h49 : a = 49 → i < 800) : zFM m (zsr m a (nI i) x) := by
  have key : ∀ a' bd k, (a = a' → i < bd) → bd ≤ k → (zsr m a (nI i) x).2.1 a' k = m.2.1 a' k := by
    intro a' bd k h1 h2
    by_cases e : a' = a
    · subst e
      have := h1 rfl
      rw [zsr_n hi (by omega)]
    · rw [zsr_o e]
  exact ⟨zeq_r ha, fun k => ⟨key 36 4 k h36, key 37 2400 k h37, key 38 5600 k h38, key 39 4000 k h39, key 40 2400 k h40, key 41 150 k h41, key 42 3000 k h42, key 49 800 k h49⟩⟩
set_option maxHeartbeats 200000 in
theorem zTx_M {T : Nat → Nat} {n : Nat} {m t : zS} (h : zTx 35 3303 T n m) (hf : zFM m t) : zTx 35 3303 T n t := zTx_keep h hf.1 (by decide) (by decide)
set_option maxHeartbeats 200000 in
theorem zb_lt {b : Nat} (hb : zBk b) : b < 20 ∧ 8 ≤ b := by rcases hb with rfl | rfl <;> decide
set_option maxHeartbeats 200000 in
theorem zTbl_C {b : Nat} {c c' : zS} (hb : zBk b) (hT : zTbl c) (hz : zeq (zKC b) (zAC b) c c') : zTbl c' := by
  have e : ∀ k, k ∉ zKC b → c'.1 k = c.1 k := hz.1
  have key : ∀ b', zBk b' → ∀ j, j = 1 ∨ j = 3 ∨ j = 5 ∨ j = 7 → c'.1 (100 * (b' + j) + 1) = c.1 (100 * (b' + j) + 1) ∧ c'.1 (100 * (b' + j) + 2) = c.1 (100 * (b' + j) + 2) := by
    intro b' hb' j hj
    constructor
    · apply e
      have h1 := zb_lt hb
      have h2 := zb_lt hb'
      unfold zKC
      simp only [List.mem_cons, List.not_mem_nil, or_false]
      omega
    · apply e
      have h1 := zb_lt hb
      have h2 := zb_lt hb'
      unfold zKC
      simp only [List.mem_cons, List.not_mem_nil, or_false]
      omega
  refine ⟨(e 601 ?_).trans hT.1, (e 602 ?_).trans hT.2.1, fun b' hb' => ?_⟩
  · have h1 := zb_lt hb
    unfold zKC
    simp only [List.mem_cons, List.not_mem_nil, or_false]
    omega
  · have h1 := zb_lt hb
    unfold zKC
    simp only [List.mem_cons, List.not_mem_nil, or_false]
    omega
  · obtain ⟨⟨a1, a2⟩, ⟨a3, a4⟩, ⟨a5, a6⟩, ⟨a7, a8⟩⟩ := hT.2.2 b' hb'
    refine ⟨⟨(key b' hb' 1 (by omega)).1.trans a1, (key b' hb' 1 (by omega)).2.trans a2⟩, ⟨(key b' hb' 3 (by omega)).1.trans a3, (key b' hb' 3 (by omega)).2.trans a4⟩, ⟨(key b' hb' 5 (by omega)).1.trans a5, (key b' hb' 5 (by omega)).2.trans a6⟩, ⟨(key b' hb' 7 (by omega)).1.trans a7, (key b' hb' 7 (by omega)).2.trans a8⟩⟩
set_option maxHeartbeats 200000 in
theorem zKC_no {b k : Nat} (hb : zBk b) (h1 : k < 303 ∨ 310 < k) (h2 : k < 800 ∨ 2700 < k) : k ∉ zKC b := by
  have := zb_lt hb
  unfold zKC
  simp only [List.mem_cons, List.not_mem_nil, or_false]
  omega
set_option maxHeartbeats 200000 in
theorem zAC_no {b a : Nat} (hb : zBk b) (h : a < 10 ∨ 27 < a) : a ∉ zAC b := by
  have := zb_lt hb
  unfold zAC
  simp only [List.mem_cons, List.not_mem_nil, or_false]
  omega
set_option maxHeartbeats 200000 in
theorem zPC_keep {T : Nat → Nat} {n b L i : Nat} {c c' : zS} (h : zPC T n b L i c) (hz : zeq (zKC b) (zAC b) c c') (h3 : c'.1 303 = c.1 303) (h4 : c'.1 304 = c.1 304) (h5 : c'.1 305 = c.1 305) (h9 : c'.1 309 = c.1 309) (h10 : c'.1 310 = c.1 310) : zPC T n b L i c' := by
  obtain ⟨hb, g1, g2, g3, g4, g5, g6, g7, g8⟩ := h
  refine ⟨hb, by rw [hz.2.2]; exact g1, zTbl_C hb g2 hz, zTx_keep g3 hz (zKC_no hb (by omega) (by omega)) (zAC_no hb (by omega)), ⟨(hz.1 603 (zKC_no hb (by omega) (by omega))).trans g4.1, h9.trans g4.2.1, h10.trans g4.2.2⟩, ?_, h3.trans g6, h4.trans g7, h5.trans g8⟩
  intro j hj
  rw [hz.2.1 7 (zAC_no hb (by omega))]
  exact g5 j hj
set_option maxHeartbeats 200000 in
theorem zcell_w {T : Nat → Nat} {n b L i : Nat} {c : zS} {N : Nat} {d : Int32} (h : zPC T n b L i c) (j : Nat) (hj : j ≤ L) (hL : L ≤ n) : fX6_cell N 6 (nI j) 0 d c = some (nI (zw T n j).1, c) ∧ fX6_cell N 6 (nI j) 1 d c = some (nI (zw T n j).2.2.1, c) ∧ fX6_cell N 6 (nI j) 2 d c = some ((zw T n j).2.1, c) := by
  obtain ⟨hb, g1, g2, g3, g4, g5, -⟩ := h
  have hn := g3.2.1
  have hr := g5 j (by omega)
  refine ⟨?_, ?_, ?_⟩
  · rw [show (0 : Int32) = nI 0 from rfl, q_cell_in (a := 6) 3 (L + 1) j 0 9003 g2.1 g4.1 rfl (by omega) (by omega) (by omega) (by decide) (by omega) (by decide)]
    exact congrArg (fun z => some (z, c)) hr.1
  · rw [show (1 : Int32) = nI 1 from rfl, q_cell_in (a := 6) 3 (L + 1) j 1 9003 g2.1 g4.1 rfl (by omega) (by omega) (by omega) (by decide) (by omega) (by decide)]
    exact congrArg (fun z => some (z, c)) hr.2.1
  · rw [show (2 : Int32) = nI 2 from rfl, q_cell_in (a := 6) 3 (L + 1) j 2 9003 g2.1 g4.1 rfl (by omega) (by omega) (by omega) (by decide) (by omega) (by decide)]
    exact congrArg (fun z => some (z, c)) hr.2.2
/-- a fault, as the class keeps it, as the reference keeps it -/
def zFF (fn fp : Nat) (c m : zS) : Prop := 1 ≤ fn ∧ fn ≤ 8 ∧ c.1 309 = nI fn ∧ c.1 310 = nI fp ∧ m.1 3320 = nI fn ∧ m.1 3321 = nI fp
set_option maxHeartbeats 200000 in
theorem s3_step {N : Nat} {T : Nat → Nat} {n b L i : Nat} {c : zS} (h : zPC T n b L i c) (hi : i < L) (hL : L ≤ n) : ∃ c', zeq [303, 304, 305, 309, 310] [] c c' ∧ ((zw T n (i + 1)).1 ≠ 24 → zPC T n b L (i + 1) c') ∧ (((zw T n (i + 1)).1 ≠ 24 ∧ fX3_step N c = some (some (), c')) ∨ ((zw T n (i + 1)).1 = 24 ∧ fX3_step N c = some (none, c') ∧ c'.1 309 = (zw T n (i + 1)).2.1 ∧ c'.1 310 = nI (zw T n (i + 1)).2.2.1)) := by
  have hh := h
  obtain ⟨hb, g1, g2, g3, g4, g5, g6, g7, g8⟩ := h
  have hn := g3.2.1
  have hbb := zb_lt hb
  obtain ⟨c1, hc1⟩ : ∃ c1, c1 = zsc (zsc (zsc c 303 (nI (i + 1))) 304 (nI (zw T n (i + 1)).1)) 305 (nI (zw T n (i + 1)).2.2.1) := ⟨_, rfl⟩
  have z1 : zeq [303, 304, 305, 309, 310] [] c c1 := by
    rw [hc1]
    exact zeq_trans (zeq_c (by decide)) (zeq_trans (zeq_c (by decide)) (zeq_c (by decide)))
  have zk : ∀ (x y : zS), zeq [303, 304, 305, 309, 310] [] x y → zeq (zKC b) (zAC b) x y := fun x y q => zeq_mono q (fun k hk => by unfold zKC; simp only [List.mem_cons, List.not_mem_nil, or_false] at hk ⊢; omega) (fun a ha => absurd ha List.not_mem_nil)
  have key : ∀ y : zS, zeq [303, 304, 305, 309, 310] [] c y → y.1 303 = nI (i + 1) → y.1 304 = nI (zw T n (i + 1)).1 → y.1 305 = nI (zw T n (i + 1)).2.2.1 → y.1 309 = c.1 309 → y.1 310 = c.1 310 → zPC T n b L (i + 1) y := by
    intro y q q3 q4 q5 q9 q10
    refine ⟨hb, by rw [q.2.2]; exact g1, zTbl_C hb g2 (zk _ _ q), zTx_keep g3 q (by decide) List.not_mem_nil, ⟨(q.1 603 (by decide)).trans g4.1, q9.trans g4.2.1, q10.trans g4.2.2⟩, ?_, q3, q4, q5⟩
    intro j hj
    rw [q.2.1 7 List.not_mem_nil]
    exact g5 j hj
  have f3 : c1.1 303 = nI (i + 1) := by rw [hc1]; exact (zsc_ne (by decide)).trans ((zsc_ne (by decide)).trans zsc_at)
  have f4 : c1.1 304 = nI (zw T n (i + 1)).1 := by rw [hc1]; exact (zsc_ne (by decide)).trans zsc_at
  have f5 : c1.1 305 = nI (zw T n (i + 1)).2.2.1 := by rw [hc1]; exact zsc_at
  have p1 : zPC T n b L (i + 1) c1 := key c1 z1 f3 f4 f5 (by rw [hc1]; exact (zsc_ne (by decide)).trans ((zsc_ne (by decide)).trans (zsc_ne (by decide)))) (by rw [hc1]; exact (zsc_ne (by decide)).trans ((zsc_ne (by decide)).trans (zsc_ne (by decide))))
  have kind : fX8_kindOf N (nI (i + 1)) (zsc c 303 (nI (i + 1))) = some (nI (zw T n (i + 1)).1, zsc c 303 (nI (i + 1))) := by
    have hcell : fX6_cell N 6 (nI (i + 1)) 0 0 (zsc c 303 (nI (i + 1))) = some (nI (zw T n (i + 1)).1, zsc c 303 (nI (i + 1))) := by
      rw [show (0 : Int32) = nI 0 from rfl, q_cell_in (a := 6) (s := zsc c 303 (nI (i + 1))) 3 (L + 1) (i + 1) 0 9003 g2.1 g4.1 rfl (by omega) (by omega) (by omega) (by decide) (by omega) (by decide)]
      exact congrArg (fun z => some (z, zsc c 303 (nI (i + 1)))) (g5 (i + 1) (by omega)).1
    unfold fX8_kindOf
    rw [hcell]
    rfl
  have plac : fX8_placeOf N (nI (i + 1)) (zsc (zsc c 303 (nI (i + 1))) 304 (nI (zw T n (i + 1)).1)) = some (nI (zw T n (i + 1)).2.2.1, zsc (zsc c 303 (nI (i + 1))) 304 (nI (zw T n (i + 1)).1)) := by
    have hcell : ∀ d, fX6_cell N 6 (nI (i + 1)) 1 d (zsc (zsc c 303 (nI (i + 1))) 304 (nI (zw T n (i + 1)).1)) = some (nI (zw T n (i + 1)).2.2.1, zsc (zsc c 303 (nI (i + 1))) 304 (nI (zw T n (i + 1)).1)) := by
      intro d
      rw [show (1 : Int32) = nI 1 from rfl, q_cell_in (a := 6) (s := zsc (zsc c 303 (nI (i + 1))) 304 (nI (zw T n (i + 1)).1)) 3 (L + 1) (i + 1) 1 9003 g2.1 g4.1 rfl (by omega) (by omega) (by omega) (by decide) (by omega) (by decide)]
      exact congrArg (fun z => some (z, zsc (zsc c 303 (nI (i + 1))) 304 (nI (zw T n (i + 1)).1))) (g5 (i + 1) (by omega)).2.1
    unfold fX8_placeOf
    rw [hcell]
    rfl
  have hstep : fX3_step N c = if nI (zw T n (i + 1)).1 = 24 then zbn (fX8_valueOf N (nI (i + 1)) c1) (fun x7 s8 => zbt (fX3_refuse N x7 s8) (fun sx => some (none, sx)) (fun _ s11 => some (some (), s11))) else some (some (), c1) := by
    unfold fX3_step
    rw [g6, nI_1, kind, zbn_s]
    have e3 : (zsc c 303 (nI (i + 1))).1 303 = nI (i + 1) := zsc_at
    rw [e3, plac, zbn_s]
    have e4 : (zsc (zsc c 303 (nI (i + 1))) 304 (nI (zw T n (i + 1)).1)).1 304 = nI (zw T n (i + 1)).1 := zsc_at
    have e5 : (zsc (zsc c 303 (nI (i + 1))) 304 (nI (zw T n (i + 1)).1)).1 303 = nI (i + 1) := (zsc_ne (by decide)).trans zsc_at
    rw [e4, e5, ← hc1]
  by_cases c24 : (zw T n (i + 1)).1 = 24
  · have val : fX8_valueOf N (nI (i + 1)) c1 = some ((zw T n (i + 1)).2.1, c1) := by
      unfold fX8_valueOf
      rw [(zcell_w p1 (i + 1) (by omega) hL).2.2]
      rfl
    obtain ⟨c2, hc2⟩ : ∃ c2, c2 = zsc (zsc c1 309 (zw T n (i + 1)).2.1) 310 (c1.1 305) := ⟨_, rfl⟩
    have z2 : zeq [303, 304, 305, 309, 310] [] c c2 := by
      rw [hc2]
      exact zeq_trans z1 (zeq_trans (zeq_c (by decide)) (zeq_c (by decide)))
    refine ⟨c2, z2, fun z => absurd c24 z, Or.inr ⟨c24, ?_, ?_, ?_⟩⟩
    · rw [hstep, if_pos (by rw [c24]; rfl), val, zbn_s, hc2]
      rfl
    · rw [hc2]; exact (zsc_ne (by decide)).trans zsc_at
    · rw [hc2]; exact zsc_at.trans f5
  · refine ⟨c1, z1, fun _ => p1, Or.inl ⟨c24, ?_⟩⟩
    rw [hstep, if_neg]
    intro z
    have hk : (zw T n (i + 1)).1 < 25 := by
      show (zwd T n (zps T n (i + 1))).1 < 25
      unfold zwd
      split
      · exact Nat.le_of_ble_eq_true rfl
      split
      · exact Nat.le_of_ble_eq_true rfl
      · exact ztok_k (g3.2.2 _ (by omega)).1
    exact c24 ((nI_eq (b := 24) (by omega) (by decide)).mp z)
