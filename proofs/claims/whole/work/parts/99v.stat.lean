def zGr (b : Nat) (c m c' m' : zS) : Prop := zeq (zKC b) (zAC b) c c' ∧ zFM m m'
theorem zGr_trans {b : Nat} {c m c1 m1 c2 m2 : zS} (h1 : zGr b c m c1 m1) (h2 : zGr b c1 m1 c2 m2) : zGr b c m c2 m2 := ⟨zeq_trans h1.1 h2.1, zFM_trans h1.2 h2.2⟩
theorem zGr_refl (b : Nat) (c m : zS) : zGr b c m c m := ⟨zeq_refl _ _ _, zFM_refl _⟩
theorem zGr_o {b n1 n3 nb : Nat} {c m c' m' : zS} (h : zFo b n1 n3 nb c m c' m') : zGr b c m c' m' := by
  obtain ⟨a1, -, -, -, -, a6, -⟩ := h
  exact ⟨zeq_mono a1 (fun k hk => by unfold zKX at hk; unfold zKC; simp only [List.mem_cons, List.not_mem_nil, or_false] at hk ⊢; omega) (fun a ha => by unfold zAC; simp only [List.mem_cons, List.not_mem_nil, or_false] at ha ⊢; omega), a6⟩
theorem zGr_x {b n3 nb : Nat} {c m c' m' : zS} (hb : zBk b) (h : zFx2 b n3 nb c m c' m') : zGr b c m c' m' := zGr_o (zFo_x (n1 := 0) hb h)
theorem zGr_f {b : Nat} {c m : zS} {x y z : Int32} (hb : zBk b) : zGr b c m (zRF c x) (zsc (zsc m 3320 y) 3321 z) := zGr_x (n3 := 0) (nb := 0) hb (zFx2_trans zRF_F zMf_F (Nat.le_refl 0) (Nat.le_refl 0))
theorem zGr_m {b : Nat} {c m : zS} {y z : Int32} (hb : zBk b) : zGr b c m c (zsc (zsc m 3320 y) 3321 z) := zGr_x (n3 := 0) (nb := 0) hb zMf_F
def zSR (b n0 sc sm v f g g' pl ln : Nat) (c m : zS) : Prop := (c.2.1 (b + 2) (n0 * 6 + 0) = nI sc ∧ m.2.1 37 (6 * n0) = nI sm) ∧ (c.2.1 (b + 2) (n0 * 6 + 1) = nI v ∧ m.2.1 37 (6 * n0 + 1) = nI v) ∧ (c.2.1 (b + 2) (n0 * 6 + 2) = nI f ∧ m.2.1 37 (6 * n0 + 2) = nI f) ∧ (c.2.1 (b + 2) (n0 * 6 + 3) = nI g ∧ m.2.1 37 (6 * n0 + 3) = nI g') ∧ (c.2.1 (b + 2) (n0 * 6 + 4) = nI pl ∧ m.2.1 37 (6 * n0 + 4) = nI pl) ∧ (c.2.1 (b + 2) (n0 * 6 + 5) = nI ln ∧ m.2.1 37 (6 * n0 + 5) = nI ln)
theorem zSR_k {b n0 sc sm v f g g' pl ln : Nat} {c m c' m' : zS} (h : zSR b n0 sc sm v f g g' pl ln c m) (hc : c'.2.1 (b + 2) = c.2.1 (b + 2)) (hm : m'.2.1 37 = m.2.1 37) : zSR b n0 sc sm v f g g' pl ln c' m' := by
  unfold zSR
  rw [hc, hm]
  exact h
theorem zSR_o {b n0 sc sm v f g g' pl ln n1 n3 nb : Nat} {c m c' m' : zS} (h : zSR b n0 sc sm v f g g' pl ln c m) (hF : zFo b n1 n3 nb c m c' m') : zSR b n0 sc sm v f g g' pl ln c' m' := zSR_k h (hF.1.2.1 _ (by simp only [List.mem_cons, List.not_mem_nil, or_false]; omega)) (hF.2.2.2.2.1.2.1 37 (by decide))
theorem zFo_19 {b n1 n3 nb : Nat} {c m c' m' : zS} (hF : zFo b n1 n3 nb c m c' m') : m'.1 3319 = m.1 3319 := hF.2.2.2.2.1.1 3319 (by decide)
def zENb (B : Nat) (T : Nat → Nat) (n b L i n0 s0 n1 n3 nb nl : Nat) (lc : List (Int32 × Int32)) (c m : zS) : Prop := zPC T n b L i c ∧ i ≤ L ∧ zPM T n i m ∧ zPN b n3 nb c m ∧ (nb ≤ B ∧ nl ≤ B) ∧ zIC b lc c ∧ zIM lc m ∧ m.1 3324 = nI lc.length ∧ (lc.length ≤ i ∧ 2 * n1 ≤ i) ∧ zOP b n0 s0 n1 n1 nb nl c m
set_option maxHeartbeats 400000 in
theorem stepE {N n b L i n0 s0 n1 n3 nb nl B : Nat} {T : Nat → Nat} {lc : List (Int32 × Int32)} {c m : zS} (hx : zCx T n L N) (h : zENb B T n b L i n0 s0 n1 n3 nb nl lc c m) (hB : B ≤ (zw T n i).2.2.2) (h0 : (zw T n i).1 ≠ 0) (h24 : (zw T n i).1 ≠ 24) : ∃ c' m', fX10_next N m = some ((), m') ∧ zFx2 b n3 nb c m c' m' ∧ zPM T n (i + 1) m' ∧ i < L ∧ c'.2.1 = c.2.1 ∧ m'.2.1 37 = m.2.1 37 ∧ m'.1 3319 = m.1 3319 ∧ (((zw T n (i + 1)).1 ≠ 24 ∧ fX3_step N c = some (some (), c') ∧ zEN T n b L (i + 1) n0 s0 n1 n3 nb nl lc c' m') ∨ ((zw T n (i + 1)).1 = 24 ∧ fX3_step N c = some (none, c') ∧ c'.1 309 = (zw T n (i + 1)).2.1 ∧ c'.1 310 = nI (zw T n (i + 1)).2.2.1)) := by
  obtain ⟨h1, hi, h2, h3, ⟨h4, h4'⟩, h5, h6, h7, ⟨l1, l2⟩, h8⟩ := h
  have hiL : i < L := cx_lt hx hi h0 h24
  obtain ⟨x1, x2, x3, x4, x5, x6⟩ := id hx
  have hadv := zw_adv x1 x2 hiL
  have hb := h1.1
  have hbb := zb_lt hb
  obtain ⟨m3, e1, e2, e3⟩ := q_next (N := N) x1 x2 (by omega) hiL h2.1 (zPM_to h2 h24 h0) h2.2.2
  have zm : zeq zKY [36, 39, 40, 41, 43, 48] m m3 := zeq_mono e3 (by decide) (by decide)
  have fm : zFM m m3 := zFM_eq e3 (by decide) (by simp)
  have ma : ∀ a, a ≠ 48 → m3.2.1 a = m.2.1 a := fun a q2 => e3.2.1 a (by simp [q2])
  have mkk : ∀ kk, kk ∉ [3311, 3315, 3316, 3317, 3318] → m3.1 kk = m.1 kk := fun kk q2 => e3.1 kk q2
  obtain ⟨c1, d1, d2, d3⟩ := s3_step (N := N) h1 hiL x4
  have zc1 : zeq (zKX b) [b + 6, b + 8, b + 9] c c1 := zeq_mono d1 (fun kk hk => by unfold zKX; simp only [List.mem_cons, List.not_mem_nil, or_false] at hk ⊢; omega) (fun _ h => absurd h List.not_mem_nil)
  have nk : ∀ kk, 700 ≤ kk → c1.1 kk = c.1 kk := fun kk hk => d1.1 kk (by simp only [List.mem_cons, List.not_mem_nil, or_false]; omega)
  have ar : ∀ a, c1.2.1 a = c.2.1 a := fun a => d1.2.1 a List.not_mem_nil
  have fx : zFx2 b n3 nb c m c1 m3 := ⟨zc1, fun x _ => by rw [ar], fun x _ => by rw [ar], zm, fm, fun j _ _ => by rw [ma 36 (by decide)]⟩
  refine ⟨c1, m3, e1, fx, e2, hiL, funext ar, ma 37 (by decide), mkk 3319 (by decide), ?_⟩
  rcases d3 with ⟨d4, d5⟩ | ⟨d4, d5, d6, d7⟩
  · exact Or.inl ⟨d4, d5, (d2 d4), by omega, e2, zPN_keep h3 (nk _ (by omega)) (by rw [ma 36 (by decide)]) (nk _ (by omega)) (ar _) (ar _) (ma 40 (by decide)) (ma 41 (by decide)), ⟨by omega, by omega⟩, zIC_keep h5 (nk _ (by omega)) (ar _), zIM_keep h6 (by rw [ma 36 (by decide)]) (ma 39 (by decide)), (mkk 3324 (by decide)).trans h7, ⟨by omega, by omega⟩, zOP_fx hb h8 fx (Nat.le_refl _)⟩
  · exact Or.inr ⟨d4, d5, d6, d7⟩
theorem s_set {N b n0 j : Nat} {c : zS} {v x y : Int32} (hb : zBk b) (hT : zTbl c) (h1 : c.1 (100 * (b + 1) + 3) = nI (n0 + 1)) (hn0 : n0 < 400) (hj : j < 6) (hx : x = nI n0) (hy : y = nI j) : fX6_setCell N (b + 1) x y v c = some ((), zsr c (b + 2) (nI (n0 * 6 + j)) v) := by
  subst hx
  subst hy
  exact q_setCell (a := b + 1) (w := 6) (n := n0 + 1) (k := n0) (j := j) (L := 2400) (hT.2.2 b hb).1.1 h1 (zlen_b hb).1 (by omega) hj (by omega) (by omega) (by omega) (by omega)
theorem s_full {N b n0 : Nat} {c : zS} (hb : zBk b) (hT : zTbl c) (h1 : c.1 (100 * (b + 1) + 3) = nI n0) (hn0 : n0 ≤ 400) : fX6_isFull N (b + 1) c = if n0 < 400 then some (0, c) else some (1, c) := by
  unfold fX6_isFull
  rw [h1, (hT.2.2 b hb).1.2]
  by_cases c9 : n0 < 400
  · rw [if_pos (nI_lt c9 (by decide)), if_pos c9]
  · rw [if_neg (nI_nlt (by omega) (by omega)), if_neg c9]
theorem a_full {N b n0 : Nat} {c : zS} {x y z : Int32} (hb : zBk b) (h302 : c.2.2.1 302 = b) (hT : zTbl c) (h1 : c.1 (100 * (b + 1) + 3) = nI n0) (hn0 : n0 = 400) : fX3_addStatement N x y z c = some (none, zRF c 8) := by
  unfold fX3_addStatement
  rw [h302, if_pos hb, s_full hb hT h1 (by omega), if_neg (by omega), zbn_s, if_neg (by decide)]
  rfl
set_option maxHeartbeats 1000000 in
theorem a_add {N b n0 n1 pl : Nat} {c : zS} {x y z : Int32} (hb : zBk b) (h302 : c.2.2.1 302 = b) (hT : zTbl c) (h1 : c.1 (100 * (b + 1) + 3) = nI n0) (hn0 : n0 < 400) (h3 : c.1 (100 * (b + 3) + 3) = nI n1) (h5 : c.1 305 = nI pl) (hN : 20 ≤ N) : ∃ c', fX3_addStatement N x y z c = some (some (nI n0), c') ∧ zeq [100 * (b + 1) + 3] [b + 2] c c' ∧ c'.1 (100 * (b + 1) + 3) = nI (n0 + 1) ∧ (∀ w, w < n0 * 6 → c'.2.1 (b + 2) w = c.2.1 (b + 2) w) ∧ c'.2.1 (b + 2) (n0 * 6 + 0) = x ∧ c'.2.1 (b + 2) (n0 * 6 + 1) = y ∧ c'.2.1 (b + 2) (n0 * 6 + 2) = nI n1 ∧ c'.2.1 (b + 2) (n0 * 6 + 3) = 0 ∧ c'.2.1 (b + 2) (n0 * 6 + 4) = nI pl ∧ c'.2.1 (b + 2) (n0 * 6 + 5) = z := by
  have hbb := zb_lt hb
  have mK : ∀ k, k ∈ [100 * (b + 1) + 3] → k ∈ zKC b := fun k hk => by unfold zKC; simp only [List.mem_cons, List.not_mem_nil, or_false] at hk ⊢; omega
  have mA : ∀ k, k ∈ [b + 2] → k ∈ zAC b := fun k hk => by unfold zAC; simp only [List.mem_cons, List.not_mem_nil, or_false] at hk ⊢; omega
  obtain ⟨w1, w2⟩ := (hT.2.2 b hb).1
  obtain ⟨q, eq, g1, g2, g3, g4, g5⟩ := q_addRow (N := N) (a := b + 1) (w := 6) (n := n0) (m := 400) (L := 2400) w1 w2 h1 (zlen_b hb).1 hn0 (by omega) (by omega) (by omega) (by omega) hN
  obtain ⟨q0, c1⟩ := q
  have eq' : fX6_addRow N (b + 1) c = some (q0, c1) := eq
  simp only at g1 g2 g3 g4 g5
  have zz : ∀ (t : zS) (i v : Int32), zeq [100 * (b + 1) + 3] [b + 2] c t → zeq [100 * (b + 1) + 3] [b + 2] c (zsr t (b + 2) i v) := fun t i v h => zeq_trans h (zeq_r (by simp))
  have e302 : ∀ t, zeq [100 * (b + 1) + 3] [b + 2] c t → t.2.2.1 302 = b := fun t h => by rw [h.2.2]; exact h302
  have tT : ∀ t, zeq [100 * (b + 1) + 3] [b + 2] c t → zTbl t := fun t h => zTbl_z hb hT h mK mA
  obtain ⟨c2, hc2⟩ : ∃ c2, c2 = zsr c1 (b + 2) (nI (n0 * 6 + 0)) x := ⟨_, rfl⟩
  obtain ⟨c3, hc3⟩ : ∃ c3, c3 = zsr c2 (b + 2) (nI (n0 * 6 + 1)) y := ⟨_, rfl⟩
  obtain ⟨c4, hc4⟩ : ∃ c4, c4 = zsr c3 (b + 2) (nI (n0 * 6 + 2)) (nI n1) := ⟨_, rfl⟩
  obtain ⟨c5, hc5⟩ : ∃ c5, c5 = zsr c4 (b + 2) (nI (n0 * 6 + 4)) (nI pl) := ⟨_, rfl⟩
  obtain ⟨c6, hc6⟩ : ∃ c6, c6 = zsr c5 (b + 2) (nI (n0 * 6 + 5)) z := ⟨_, rfl⟩
  have z2 : zeq [100 * (b + 1) + 3] [b + 2] c c2 := by rw [hc2]; exact zz _ _ _ g2
  have z3 : zeq [100 * (b + 1) + 3] [b + 2] c c3 := by rw [hc3]; exact zz _ _ _ z2
  have z4 : zeq [100 * (b + 1) + 3] [b + 2] c c4 := by rw [hc4]; exact zz _ _ _ z3
  have z5 : zeq [100 * (b + 1) + 3] [b + 2] c c5 := by rw [hc5]; exact zz _ _ _ z4
  have z6 : zeq [100 * (b + 1) + 3] [b + 2] c c6 := by rw [hc6]; exact zz _ _ _ z5
  have f2 : c2.1 = c1.1 := by rw [hc2]
  have f3 : c3.1 = c1.1 := by rw [hc3, hc2]
  have f4 : c4.1 = c1.1 := by rw [hc4, hc3, hc2]
  have f5 : c5.1 = c1.1 := by rw [hc5, hc4, hc3, hc2]
  have f6 : c6.1 = c1.1 := by rw [hc6, hc5, hc4, hc3, hc2]
  have k3 : c1.1 (100 * (b + 3) + 3) = nI n1 := (g2.1 _ (by simp; omega)).trans h3
  have k5 : c1.1 305 = nI pl := (g2.1 _ (by simp; omega)).trans h5
  have arr : ∀ w, c6.2.1 (b + 2) w = if w = n0 * 6 + 5 then z else if w = n0 * 6 + 4 then nI pl else if w = n0 * 6 + 2 then nI n1 else if w = n0 * 6 + 1 then y else if w = n0 * 6 + 0 then x else c1.2.1 (b + 2) w := by
    intro w
    rw [hc6, zsr_g (by omega), hc5, zsr_g (by omega), hc4, zsr_g (by omega), hc3, zsr_g (by omega), hc2, zsr_g (by omega)]
  refine ⟨c6, ?_, z6, by rw [f6]; exact g3, fun w hw => ?_, ?_, ?_, ?_, ?_, ?_, ?_⟩
  · unfold fX3_addStatement
    rw [h302, if_pos hb, s_full hb hT h1 (by omega), if_pos hn0, zbn_s, if_pos rfl]
    unfold fX3_addStatement_J19
    rw [h302, if_pos hb, eq', zbn_s, g1, e302 c1 g2, if_pos hb, s_set (n0 := n0) (j := 0) (y := 0) hb (tT _ g2) g3 hn0 (by omega) rfl rfl, zbn_s, ← hc2, e302 _ z2, if_pos hb, s_set (n0 := n0) (j := 1) (y := 1) hb (tT _ z2) (by rw [f2]; exact g3) hn0 (by omega) rfl rfl, zbn_s, ← hc3, e302 _ z3, if_pos hb, if_pos hb, f3, k3, s_set (n0 := n0) (j := 2) (y := 2) hb (tT _ z3) (by rw [f3]; exact g3) hn0 (by omega) rfl rfl, zbn_s, ← hc4, e302 _ z4, if_pos hb, f4, k5, s_set (n0 := n0) (j := 4) (y := 4) hb (tT _ z4) (by rw [f4]; exact g3) hn0 (by omega) rfl rfl, zbn_s, ← hc5, e302 _ z5, if_pos hb, s_set (n0 := n0) (j := 5) (y := 5) hb (tT _ z5) (by rw [f5]; exact g3) hn0 (by omega) rfl rfl, zbn_s, ← hc6]
  · rw [arr, if_neg (by omega), if_neg (by omega), if_neg (by omega), if_neg (by omega), if_neg (by omega)]
    exact g4 w hw
  · rw [arr, if_neg (by omega), if_neg (by omega), if_neg (by omega), if_neg (by omega), if_pos rfl]
  · rw [arr, if_neg (by omega), if_neg (by omega), if_neg (by omega), if_pos rfl]
  · rw [arr, if_neg (by omega), if_neg (by omega), if_pos rfl]
  · rw [arr, if_neg (by omega), if_neg (by omega), if_neg (by omega), if_neg (by omega), if_neg (by omega)]; exact g5 _ (by omega) (by omega)
  · rw [arr, if_neg (by omega), if_pos rfl]
  · rw [arr, if_pos rfl]
theorem zFM_37 {m : zS} {y : Nat} {v : Int32} (hy : y < 2400) : zFM m (zsr m 37 (nI y) v) := zFM_r (by decide) (by omega) (fun h => absurd h (by decide)) (fun _ => hy) (fun h => absurd h (by decide)) (fun h => absurd h (by decide)) (fun h => absurd h (by decide)) (fun h => absurd h (by decide)) (fun h => absurd h (by decide)) (fun h => absurd h (by decide))
set_option maxHeartbeats 1000000 in
theorem s_add {N n0 n1 v pl ln : Nat} {m : zS} {x y : Int32} (h0 : m.2.1 36 0 = nI n0) (hn0 : n0 < 400) (h1 : m.2.1 36 1 = nI n1) (hy : y = nI v) (hv : v < 200) (h17 : m.1 3317 = nI pl) (h19 : m.1 3319 = nI ln) : ∃ m', fX10_state N x y m = some (1, m') ∧ zeq [] [36, 37] m m' ∧ zFM m m' ∧ m'.2.1 36 0 = nI (n0 + 1) ∧ (∀ j, j ≠ 0 → m'.2.1 36 j = m.2.1 36 j) ∧ (∀ w, w < 6 * n0 → m'.2.1 37 w = m.2.1 37 w) ∧ m'.2.1 37 (6 * n0) = x ∧ m'.2.1 37 (6 * n0 + 1) = y ∧ m'.2.1 37 (6 * n0 + 2) = nI n1 ∧ m'.2.1 37 (6 * n0 + 3) = 0 ∧ m'.2.1 37 (6 * n0 + 4) = nI pl ∧ m'.2.1 37 (6 * n0 + 5) = nI ln := by
  have g0 : (0 : Int32).toNatClampNeg = 0 := by decide
  have g1 : (1 : Int32).toNatClampNeg = 1 := by decide
  have e6 : 6 * nI n0 = nI (6 * n0) := pk_mul 6 n0
  have p1 : nI (6 * n0) + 1 = nI (6 * n0 + 1) := nI_1 _
  have p2 : nI (6 * n0) + 2 = nI (6 * n0 + 2) := nI_add _ 2
  have p3 : nI (6 * n0) + 3 = nI (6 * n0 + 3) := nI_add _ 3
  have p4 : nI (6 * n0) + 4 = nI (6 * n0 + 4) := nI_add _ 4
  have p5 : nI (6 * n0) + 5 = nI (6 * n0 + 5) := nI_add _ 5
  have z0 : zga 0 (zlen 36) = true := by decide +kernel
  have z1 : zga 1 (zlen 36) = true := by decide +kernel
  have zz : ∀ w, w < 4800 → zga (nI w) (zlen 37) = true := fun w hw => zga_l (by rfl) hw (by decide)
  obtain ⟨ma, hma⟩ : ∃ ma, ma = zsr (zsr (zsr (zsr (zsr (zsr m 37 (nI (6 * n0)) x) 37 (nI (6 * n0 + 1)) y) 37 (nI (6 * n0 + 2)) (nI n1)) 37 (nI (6 * n0 + 3)) 0) 37 (nI (6 * n0 + 4)) (nI pl)) 37 (nI (6 * n0 + 5)) (nI ln) := ⟨_, rfl⟩
  obtain ⟨m', hm'⟩ : ∃ m', m' = zsr ma 36 (nI 0) (nI (n0 + 1)) := ⟨_, rfl⟩
  have a37 : ∀ w, m'.2.1 37 w = if w = 6 * n0 + 5 then nI ln else if w = 6 * n0 + 4 then nI pl else if w = 6 * n0 + 3 then 0 else if w = 6 * n0 + 2 then nI n1 else if w = 6 * n0 + 1 then y else if w = 6 * n0 then x else m.2.1 37 w := by
    intro w
    rw [hm', zsr_o (show (37 : Nat) ≠ 36 by decide), hma, zsr_g (by omega), zsr_g (by omega), zsr_g (by omega), zsr_g (by omega), zsr_g (by omega), zsr_g (by omega)]
  have ma36 : ma.2.1 36 = m.2.1 36 := by
    rw [hma, zsr_o (show (36 : Nat) ≠ 37 by decide), zsr_o (show (36 : Nat) ≠ 37 by decide), zsr_o (show (36 : Nat) ≠ 37 by decide), zsr_o (show (36 : Nat) ≠ 37 by decide), zsr_o (show (36 : Nat) ≠ 37 by decide), zsr_o (show (36 : Nat) ≠ 37 by decide)]
  have a36 : ∀ w, m'.2.1 36 w = if w = 0 then nI (n0 + 1) else m.2.1 36 w := fun w => by rw [hm', zsr_g (by omega), ma36]
  refine ⟨m', ?_, ?_, ?_, by rw [a36, if_pos rfl], fun j hj => by rw [a36, if_neg hj], fun w hw => ?_, ?_, ?_, ?_, ?_, ?_, ?_⟩
  · unfold fX10_state
    rw [if_pos z0, g0, g1, h0, h1, h17, h19, if_neg (show ¬ nI n0 = (400 : Int32) from fun z => by have := (nI_eq (b := 400) (by omega) (by decide)).mp z; omega), if_neg (show ¬ y = (-1) by rw [hy]; exact nI_m1 v hv), if_pos z0, e6, if_pos (zz _ (by omega)), p1, if_pos (zz _ (by omega)), if_pos z1, p2, if_pos (zz _ (by omega)), p3, if_pos (zz _ (by omega)), p4, if_pos (zz _ (by omega)), p5, if_pos (zz _ (by omega)), if_pos z0, if_pos z0, ← hma, show nI n0 + 1 = nI (n0 + 1) from nI_1 _, hm']
    rfl
  · rw [hm', hma]
    exact zeq_trans (zeq_r (by decide)) (zeq_trans (zeq_r (by decide)) (zeq_trans (zeq_r (by decide)) (zeq_trans (zeq_r (by decide)) (zeq_trans (zeq_r (by decide)) (zeq_trans (zeq_r (by decide)) (zeq_r (by decide)))))))
  · rw [hm', hma]
    exact zFM_trans (zFM_37 (by omega)) (zFM_trans (zFM_37 (by omega)) (zFM_trans (zFM_37 (by omega)) (zFM_trans (zFM_37 (by omega)) (zFM_trans (zFM_37 (by omega)) (zFM_trans (zFM_37 (by omega)) (zFM_r (by decide) (by omega) (fun _ => by omega) (fun h => absurd h (by decide)) (fun h => absurd h (by decide)) (fun h => absurd h (by decide)) (fun h => absurd h (by decide)) (fun h => absurd h (by decide)) (fun h => absurd h (by decide)) (fun h => absurd h (by decide))))))))
  · rw [a37, if_neg (by omega), if_neg (by omega), if_neg (by omega), if_neg (by omega), if_neg (by omega), if_neg (by omega)]
  · rw [a37, if_neg (by omega), if_neg (by omega), if_neg (by omega), if_neg (by omega), if_neg (by omega), if_pos rfl]
  · rw [a37, if_neg (by omega), if_neg (by omega), if_neg (by omega), if_neg (by omega), if_pos rfl]
  · rw [a37, if_neg (by omega), if_neg (by omega), if_neg (by omega), if_pos rfl]
  · rw [a37, if_neg (by omega), if_neg (by omega), if_pos rfl]
  · rw [a37, if_neg (by omega), if_pos rfl]
  · rw [a37, if_pos rfl]
set_option maxHeartbeats 400000 in
theorem zWB_c2 {W b n0 n1 n2 n3 : Nat} {c c' : zS} (h : zWB W b n0 n1 n2 n3 c) (ha : ∀ a, a ≠ b + 2 → c'.2.1 a = c.2.1 a) (h2 : ∀ y, y < n0 * 6 → c'.2.1 (b + 2) y = c.2.1 (b + 2) y) : zWB W b n0 n1 n2 n3 c' := by
  obtain ⟨ic, oc, fo, a1, a2, a3, a4, a5, a6⟩ := h
  refine ⟨ic, oc, fo, a1, a2, a3, fun t ht => ?_, fun j hj => ?_, fun k hk => ?_⟩
  · have h9 := a4 t ht
    unfold zItk at h9 ⊢
    rw [ha (b + 6) (by omega), ha (b + 8) (by omega)]
    exact h9
  · have h9 := a5 j hj
    unfold zOpk at h9 ⊢
    rw [ha (b + 4) (by omega), ha (b + 6) (by omega)]
    exact h9
  · obtain ⟨so, v, f, g, p1, p2, p3, p4, p5, p6, p7, p8⟩ := a6 k (by omega)
    unfold zStk
    rw [h2 _ (by omega), h2 _ (by omega), h2 _ (by omega), h2 _ (by omega)]
    exact ⟨so, v, f, g, p1, p2, p3, p4, p5, p6, p7, p8⟩
set_option maxHeartbeats 1000000 in
theorem stA {N n b L i n0 n1 n3 nb nl sc sm v ln W B : Nat} {T : Nat → Nat} {lc : List (Int32 × Int32)} {c m : zS} {x x' y z : Int32} (hx : zCx T n L N) (h : zENb B T n b L i n0 n0 n1 n3 nb nl lc c m) (hw : zWB W b n0 n1 lc.length n3 c) (hn0 : n0 < 400) (hv : v < 200) (hln : m.1 3319 = nI ln) (hx1 : x = nI sc) (hx2 : x' = nI sm) (hy : y = nI v) (hz : z = nI ln) : ∃ c' m', fX3_addStatement N x y z c = some (some (nI n0), c') ∧ fX10_state N x' y m = some (1, m') ∧ zENb B T n b L i n0 (n0 + 1) n1 n3 nb nl lc c' m' ∧ zWB W b n0 n1 lc.length n3 c' ∧ zSR b n0 sc sm v n1 0 0 (zw T n i).2.2.1 ln c' m' ∧ zGr b c m c' m' ∧ m'.1 3319 = nI ln ∧ m'.2.1 36 0 = nI (n0 + 1) := by
  obtain ⟨h1, hi, h2, h3, ⟨h4, h4'⟩, h5, h6, h7, ⟨l1, l2⟩, ⟨⟨o1, o2, o3, o4⟩, ⟨p1, p2, p3, p4⟩, ⟨q1, q2, q3⟩⟩⟩ := h
  obtain ⟨x1, x2, x3, x4, x5, x6⟩ := id hx
  have hb := h1.1
  have hbb := zb_lt hb
  obtain ⟨c1, a1, a2, a3, a4, r0, r1, r2, r3, r4, r5⟩ := a_add (N := N) (x := x) (y := y) (z := z) hb h1.2.1 h1.2.2.1 o2 hn0 p2 h1.2.2.2.2.2.2.2.2 (by omega)
  obtain ⟨m1, b1, b2, b3, b4, b5, b6, t0, t1, t2, t3, t4, t5⟩ := s_add (N := N) (x := x') o3 hn0 p3 hy hv h2.2.1.2.1 hln
  have kc : ∀ w, w ≠ 100 * (b + 1) + 3 → c1.1 w = c.1 w := fun w hw => a2.1 w (by simp [hw])
  have ac : ∀ a, a ≠ b + 2 → c1.2.1 a = c.2.1 a := fun a ha => a2.2.1 a (by simp [ha])
  have km : ∀ w, m1.1 w = m.1 w := fun w => b2.1 w List.not_mem_nil
  have am : ∀ a, a ≠ 36 → a ≠ 37 → m1.2.1 a = m.2.1 a := fun a q1 q2 => b2.2.1 a (by simp [q1, q2])
  have zc : zeq (zKC b) (zAC b) c c1 := zeq_mono a2 (fun w hw => by rw [List.mem_singleton.mp hw]; unfold zKC; simp) (fun w hw => by rw [List.mem_singleton.mp hw]; unfold zAC; simp)
  refine ⟨c1, m1, a1, b1, ⟨zPC_keep h1 zc (kc _ (by omega)) (kc _ (by omega)) (kc _ (by omega)) (kc _ (by omega)) (kc _ (by omega)), hi, zPM_keep h2 b2 (by simp) (by decide), zPN_keep h3 (kc _ (by omega)) (b5 3 (by decide)) (kc _ (by omega)) (ac _ (by omega)) (ac _ (by omega)) (am 40 (by decide) (by decide)) (am 41 (by decide) (by decide)), ⟨h4, h4'⟩, zIC_keep h5 (kc _ (by omega)) (ac _ (by omega)), zIM_keep h6 (b5 2 (by decide)) (am 39 (by decide) (by decide)), (km _).trans h7, ⟨l1, l2⟩, ⟨⟨by omega, a3, b4, fun k j hk hj => by rw [a4 _ (by omega), b6 _ (by omega)]; exact o4 k j hk hj⟩, ⟨p1, (kc _ (by omega)).trans p2, (b5 1 (by decide)).trans p3, fun k j hk hj => by rw [ac _ (by omega), am 38 (by decide) (by decide)]; exact p4 k j hk hj⟩, ⟨q1, (km _).trans q2, fun k hk => ?_⟩⟩⟩, zWB_c2 hw ac a4, ⟨⟨r0.trans hx1, t0.trans hx2⟩, ⟨r1.trans hy, t1.trans hy⟩, ⟨r2, t2⟩, ⟨r3, t3⟩, ⟨r4, t4⟩, ⟨r5.trans hz, t5⟩⟩, ⟨zc, b3⟩, (km _).trans hln, b4⟩
  obtain ⟨p, q, l, d1, d2, d3, d4, d5, d6⟩ := q3 k hk
  refine ⟨p, q, l, d1, d2, ?_, ?_, ?_, fun x hx => ?_⟩
  · rw [ac _ (by omega)]; exact d3
  · rw [ac _ (by omega)]; exact d4
  · rw [am 49 (by decide) (by decide)]; exact d5
  · rw [ac _ (by omega), am 42 (by decide) (by decide)]; exact d6 x hx
set_option maxHeartbeats 1000000 in
theorem zEN_37 {n b L i n0 s0 n1 n3 nb nl : Nat} {T : Nat → Nat} {lc : List (Int32 × Int32)} {c m c' m' : zS} (h : zEN T n b L i n0 s0 n1 n3 nb nl lc c m) (hn0 : n0 < 400) (hc : c' = c ∨ ∃ (j : Nat) (v : Int32), j < 6 ∧ c' = zsr c (b + 2) (nI (n0 * 6 + j)) v) (hm : m' = m ∨ ∃ (j : Nat) (v : Int32), j < 6 ∧ m' = zsr m 37 (nI (6 * n0 + j)) v) : zEN T n b L i n0 s0 n1 n3 nb nl lc c' m' ∧ zGr b c m c' m' ∧ (∀ a, a ≠ b + 2 → c'.2.1 a = c.2.1 a) ∧ (∀ y, y < n0 * 6 → c'.2.1 (b + 2) y = c.2.1 (b + 2) y) ∧ c'.1 = c.1 ∧ m'.1 = m.1 := by
  obtain ⟨h1, hi, h2, h3, ⟨h4, h4'⟩, h5, h6, h7, ⟨l1, l2⟩, ⟨⟨o1, o2, o3, o4⟩, ⟨p1, p2, p3, p4⟩, ⟨q1, q2, q3⟩⟩⟩ := h
  have hb := h1.1
  have hbb := zb_lt hb
  have zc : zeq [] [b + 2] c c' ∧ (∀ y, y < n0 * 6 → c'.2.1 (b + 2) y = c.2.1 (b + 2) y) ∧ c'.1 = c.1 := by
    rcases hc with rfl | ⟨j, v, hj, rfl⟩
    · exact ⟨zeq_refl _ _ _, fun _ _ => rfl, rfl⟩
    · exact ⟨zeq_r (by simp), fun y hy => zsr_n (by omega) (by omega), rfl⟩
  have zm : zeq [] [37] m m' ∧ (∀ y, y < 6 * n0 → m'.2.1 37 y = m.2.1 37 y) ∧ zFM m m' ∧ m'.1 = m.1 := by
    rcases hm with rfl | ⟨j, v, hj, rfl⟩
    · exact ⟨zeq_refl _ _ _, fun _ _ => rfl, zFM_refl _, rfl⟩
    · exact ⟨zeq_r (by simp), fun y hy => zsr_n (by omega) (by omega), zFM_37 (by omega), rfl⟩
  obtain ⟨z1, z2, z3⟩ := zc
  obtain ⟨w1, w2, w3, w4⟩ := zm
  have kc : ∀ y, c'.1 y = c.1 y := fun y => z1.1 y List.not_mem_nil
  have km : ∀ y, m'.1 y = m.1 y := fun y => w1.1 y List.not_mem_nil
  have ac : ∀ a, a ≠ b + 2 → c'.2.1 a = c.2.1 a := fun a ha => z1.2.1 a (by simp [ha])
  have am : ∀ a, a ≠ 37 → m'.2.1 a = m.2.1 a := fun a ha => w1.2.1 a (by simp [ha])
  have zc2 : zeq (zKC b) (zAC b) c c' := zeq_mono z1 (fun _ h => absurd h List.not_mem_nil) (fun a ha => by rw [List.mem_singleton.mp ha]; unfold zAC; simp)
  refine ⟨⟨zPC_keep h1 zc2 (kc _) (kc _) (kc _) (kc _) (kc _), hi, zPM_keep h2 w1 (by simp) (by decide), zPN_keep h3 (kc _) (by rw [am 36 (by decide)]) (kc _) (ac _ (by omega)) (ac _ (by omega)) (am 40 (by decide)) (am 41 (by decide)), ⟨h4, h4'⟩, zIC_keep h5 (kc _) (ac _ (by omega)), zIM_keep h6 (by rw [am 36 (by decide)]) (am 39 (by decide)), (km _).trans h7, ⟨l1, l2⟩, ⟨⟨o1, (kc _).trans o2, by rw [am 36 (by decide)]; exact o3, fun y j hy hj => by rw [z2 _ (by omega), w2 _ (by omega)]; exact o4 y j hy hj⟩, ⟨p1, (kc _).trans p2, by rw [am 36 (by decide)]; exact p3, fun y j hy hj => by rw [ac _ (by omega), am 38 (by decide)]; exact p4 y j hy hj⟩, ⟨q1, (km _).trans q2, fun y hy => ?_⟩⟩⟩, ⟨zc2, w3⟩, ac, z2, z3, w4⟩
  obtain ⟨p, q, l, d1, d2, d3, d4, d5, d6⟩ := q3 y hy
  refine ⟨p, q, l, d1, d2, ?_, ?_, ?_, fun x hx => ?_⟩
  · rw [ac _ (by omega)]; exact d3
  · rw [ac _ (by omega)]; exact d4
  · rw [am 49 (by decide)]; exact d5
  · rw [ac _ (by omega), am 42 (by decide)]; exact d6 x hx
set_option maxHeartbeats 400000 in
theorem zEN_row {n b L i n0 n1 n3 nb nl so v f g pl ln : Nat} {T : Nat → Nat} {lc : List (Int32 × Int32)} {c m : zS} (h : zEN T n b L i n0 (n0 + 1) n1 n3 nb nl lc c m) (hr : zSR b n0 so so v f g g pl ln c m) : zEN T n b L i (n0 + 1) (n0 + 1) n1 n3 nb nl lc c m := by
  obtain ⟨h1, hi, h2, h3, h4, h5, h6, h7, l1, ⟨⟨o1, o2, o3, o4⟩, h8⟩⟩ := h
  refine ⟨h1, hi, h2, h3, h4, h5, h6, h7, l1, ⟨⟨o1, o2, o3, fun k j hk hj => ?_⟩, h8⟩⟩
  by_cases e : k = n0
  · subst e
    obtain ⟨⟨r0, r0'⟩, ⟨r1, r1'⟩, ⟨r2, r2'⟩, ⟨r3, r3'⟩, ⟨r4, r4'⟩, ⟨r5, r5'⟩⟩ := hr
    rw [show 2400 * 0 + 6 * k + j = 6 * k + j by omega]
    have hj : j = 0 ∨ j = 1 ∨ j = 2 ∨ j = 3 ∨ j = 4 ∨ j = 5 := by omega
    rcases hj with rfl | rfl | rfl | rfl | rfl | rfl
    · rw [r0]; exact r0'.symm
    · rw [r1, r1']
    · rw [r2, r2']
    · rw [r3, r3']
    · rw [r4, r4']
    · rw [r5, r5']
  · exact o4 k j (by omega) hj
theorem bt_id (o : Option (Option Unit × zS)) : zbt o (fun sx => some (none, sx)) (fun _ s => some (some (), s)) = o := by
  cases o with
  | none => rfl
  | some q =>
    obtain ⟨a, s⟩ := q
    cases a <;> rfl
