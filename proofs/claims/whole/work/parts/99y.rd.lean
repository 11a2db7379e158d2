set_option maxHeartbeats 400000 in
theorem zBR_h2 {b n0 n1 n2 n3 nb nl : Nat} {c m m' : zS} (h : zBR b 1 n0 n1 n2 n3 nb nl c m) (h2 : zH2 m m') : zBR b 1 n0 n1 n2 n3 nb nl c m' := by
  obtain ⟨⟨a1, a2, a3, a4⟩, ⟨b1, b2, b3, b4⟩, ⟨c1, c2, c3, c4⟩, ⟨d1, d2, d3, d4⟩, ⟨e1, e2, e3, e4⟩⟩ := h
  refine ⟨⟨a1, a2, ?_, fun k j hk hj => ?_⟩, ⟨b1, b2, ?_, fun k j hk hj => ?_⟩, ⟨c1, c2, ?_, fun k j hk hj => ?_⟩, ⟨d1, d2, ?_, fun k hk => ?_⟩, ⟨e1, e2, e3, fun k hk => ?_⟩⟩
  · rw [(h2 _).1 (by omega)]; exact a3
  · rw [(h2 _).2.1 (by omega)]; exact a4 k j hk hj
  · rw [(h2 _).1 (by omega)]; exact b3
  · rw [(h2 _).2.2.1 (by omega)]; exact b4 k j hk hj
  · rw [(h2 _).1 (by omega)]; exact c3
  · rw [(h2 _).2.2.2.1 (by omega)]; exact c4 k j hk hj
  · rw [(h2 _).1 (by omega)]; exact d3
  · obtain ⟨p, l, t1, t2, t3, t4, t5, t6, t7⟩ := d4 k hk
    refine ⟨p, l, t1, t2, t3, t4, t5, ?_, fun i hi => ?_⟩
    · rw [(h2 _).2.2.2.2.2.1 (by omega)]; exact t6
    · rw [(h2 _).2.2.2.2.1 (by omega)]; exact t7 i hi
  · obtain ⟨p, q, l, t1, t2, t3, t4, t5, t6⟩ := e4 k hk
    refine ⟨p, q, l, t1, t2, t3, t4, fun hl => ?_, fun x hx => ?_⟩
    · rw [(h2 _).2.2.2.2.2.2.2 (by omega)]; exact t5 hl
    · rw [(h2 _).2.2.2.2.2.2.1 (by omega)]; exact t6 x hx
theorem zKF_no {b k : Nat} (hb : zBk b) (h : 3300 ≤ k ∨ k = 3001 ∨ k = 601 ∨ k = 602) : k ∉ zKF b := by
  have hbb := zb_lt hb
  unfold zKF zKC
  simp only [List.mem_cons, List.not_mem_nil, or_false]
  omega
theorem zAF_no {b k : Nat} (hb : zBk b) (h : k < 7 ∨ 27 < k) : k ∉ zAF b := by
  have hbb := zb_lt hb
  unfold zAF zAC
  simp only [List.mem_cons, List.not_mem_nil, or_false]
  omega
theorem zKF_w {b b' i : Nat} (hb : zBk b) (hb' : zBk b') (hi : i = 1 ∨ i = 3 ∨ i = 5 ∨ i = 7) : 100 * (b' + i) + 1 ∉ zKF b ∧ 100 * (b' + i) + 2 ∉ zKF b := by
  have hbb := zb_lt hb
  unfold zKF zKC
  simp only [List.mem_cons, List.not_mem_nil, or_false]
  rcases hb with rfl | rfl <;> rcases hb' with rfl | rfl <;> rcases hi with rfl | rfl | rfl | rfl <;> omega
theorem zKF_o {b b' k : Nat} (hb : zBk b) (hb' : zBk b') (hne : b' ≠ b) (hk : k ∈ [100 * (b' + 1) + 3, 100 * (b' + 3) + 3, 100 * (b' + 5) + 3, 100 * (b' + 7) + 3, 100 * b' + 5]) : k ∉ zKF b := by
  unfold zKF zKC
  simp only [List.mem_cons, List.not_mem_nil, or_false] at hk ⊢
  rcases hb with rfl | rfl <;> rcases hb' with rfl | rfl
  · exact absurd rfl hne
  · omega
  · omega
  · exact absurd rfl hne
theorem zAF_o {b b' a : Nat} (hb : zBk b) (hb' : zBk b') (hne : b' ≠ b) (ha : a ∈ [b' + 2, b' + 4, b' + 6, b' + 8, b' + 9]) : a ∉ zAF b := by
  unfold zAF zAC
  simp only [List.mem_cons, List.not_mem_nil, or_false] at ha ⊢
  rcases hb with rfl | rfl <;> rcases hb' with rfl | rfl
  · exact absurd rfl hne
  · omega
  · omega
  · exact absurd rfl hne
theorem zKN_no {k : Nat} (h : k < 3300) : k ∉ zKN := by
  simp only [List.mem_cons, List.not_mem_nil, or_false]
  omega
theorem zAM_no {k : Nat} (h : k < 34) : k ∉ zAM := by
  simp only [List.mem_cons, List.not_mem_nil, or_false]
  omega
set_option maxHeartbeats 400000 in
theorem zTbl_r {b : Nat} {s t : zS} (hb : zBk b) (h : zTbl s) (e : ∀ k, k < 3300 → k ∉ zKF b → t.1 k = s.1 k) : zTbl t := by
  refine ⟨(e 601 (by omega) (zKF_no hb (by omega))).trans h.1, (e 602 (by omega) (zKF_no hb (by omega))).trans h.2.1, fun b' hb' => ?_⟩
  have hbb := zb_lt hb'
  obtain ⟨⟨a1, a2⟩, ⟨a3, a4⟩, ⟨a5, a6⟩, ⟨a7, a8⟩⟩ := h.2.2 b' hb'
  exact ⟨⟨(e _ (by omega) (zKF_w hb hb' (by omega)).1).trans a1, (e _ (by omega) (zKF_w hb hb' (by omega)).2).trans a2⟩, ⟨(e _ (by omega) (zKF_w hb hb' (by omega)).1).trans a3, (e _ (by omega) (zKF_w hb hb' (by omega)).2).trans a4⟩, ⟨(e _ (by omega) (zKF_w hb hb' (by omega)).1).trans a5, (e _ (by omega) (zKF_w hb hb' (by omega)).2).trans a6⟩, ⟨(e _ (by omega) (zKF_w hb hb' (by omega)).1).trans a7, (e _ (by omega) (zKF_w hb hb' (by omega)).2).trans a8⟩⟩
set_option maxHeartbeats 1000000 in
theorem rd_ok {N : Nat} (hN : 10000 ≤ N) : zRd N := by
  intro j s hj h
  obtain ⟨h1, ⟨hb1, hb2, hne⟩, h3, ⟨n, hn, h4, h5, h6⟩, ⟨h7, h8⟩, ⟨kk, hk, h9, h10, h11⟩, n0, n1, n2, n3, nb, nl, hR, hW⟩ := h
  obtain ⟨b, hb⟩ : ∃ b, b = s.2.2.1 302 := ⟨_, rfl⟩
  obtain ⟨B, hB⟩ : ∃ B, B = s.2.2.1 301 := ⟨_, rfl⟩
  rw [← hb] at hb2 hne
  rw [← hB] at hb1 hne hR hW
  obtain ⟨T, hTd⟩ : ∃ T : Nat → Nat, T = fun k => (s.2.1 5 k).toNatClampNeg := ⟨_, rfl⟩
  have hT : ∀ i, i < n → T i < 256 ∧ s.2.1 5 i = nI (T i) ∧ s.2.1 35 i = nI (T i) := by
    intro i hi
    obtain ⟨e1, q, hq, e2⟩ := h6 i hi
    have : T i = q := by rw [hTd]; show (s.2.1 5 i).toNatClampNeg = q; rw [e2, nI_clamp (by omega)]
    rw [this]
    exact ⟨hq, e2, e1.symm.trans e2⟩
  have J := fun (m : zS) (q1 : m.1 3303 = s.1 3303) (q2 : m.2.1 35 = s.2.1 35) => readJ (N := N) (n := n) (b := b) (T := T) (c := s) (m := m) hN (by omega) (fun i hi => (hT i hi).1) h1 hb2 hb.symm (by rw [← hB]; exact hb1) h4 (fun i hi => (hT i hi).2.1) (q1.trans h5) (fun i hi => by rw [q2]; exact (hT i hi).2.2)
  rcases J s rfl rfl with ⟨s1, x, m', fn, fp, a1, -, a3, -⟩ | ⟨c0, m', y0, y1, y2, y3, yb, yl, a1, -, a3, -⟩
  · rcases J s1 (a3.1 3303 (zKF_no hb2 (by omega))) (a3.2.1 35 (zAF_no hb2 (by omega))) with ⟨c2, x2, m2, fn, fp, b1, b2, b3, b4, b5, b6, b7, b8, b9, b10, b11, b12⟩ | ⟨c0, m2, y0, y1, y2, y3, yb, yl, b1, -⟩
    case inr => rw [a1] at b1; cases b1
    have e12 : c2 = s1 := by rw [a1] at b1; cases b1; rfl
    subst e12
    have kc : ∀ k, k < 3300 → k ∉ zKF b → m2.1 k = s.1 k := fun k q1 q2 => (b7.1 k (zKN_no q1)).trans (b3.1 k q2)
    have kl : ∀ k, k < 3300 → m2.1 k = c2.1 k := fun k q1 => b7.1 k (zKN_no q1)
    have ac : ∀ a, a < 34 → a ∉ zAF b → m2.2.1 a = s.2.1 a := fun a q1 q2 => (b7.2.1 a (zAM_no q1)).trans (b3.2.1 a q2)
    have ee : m2.2.2 = s.2.2 := b7.2.2.trans b3.2.2
    refine ⟨none, c2, x2, m2, b1, b2, b12, fun v hv => (by cases hv), (by rw [b7.2.2]; rfl), zTbl_r hb2 h1 kc, ?_, ?_, ⟨0, Nat.zero_le _, (kl 402 (by omega)).trans b4, b9, fun k hk => absurd hk (Nat.not_lt_zero _)⟩, ⟨?_, ?_⟩, ⟨kk, hk, ?_, ?_, ?_⟩, n0, n1, n2, n3, nb, nl, ?_, ?_⟩
    · unfold zIb
      rw [ee, ← hB, ← hb]
      exact ⟨hb1, hb2, hne⟩
    · unfold zIw
      rw [ac 1 (by omega) (zAF_no hb2 (by omega)), b7.2.1 34 (by decide), b3.2.1 34 (zAF_no hb2 (by omega))]
      exact h3
    · rw [kl 309 (by omega), b5, b10]
    · rw [kl 310 (by omega), b6, b11]
    · rw [kc 3001 (by omega) (zKF_no hb2 (by omega))]; exact h9
    · rw [b7.1 3329 (by decide), b3.1 3329 (zKF_no hb2 (by omega))]; exact h10
    · rw [ac 31 (by omega) (zAF_no hb2 (by omega)), b7.2.1 44 (by decide), b3.2.1 44 (zAF_no hb2 (by omega))]; exact h11
    · rw [ee, ← hB]
      have hBb := zb_lt hb1
      have r1 : zBR B 1 n0 n1 n2 n3 nb nl m2 s := zBR_c hR (fun k hk => kc k (by simp only [List.mem_cons, List.not_mem_nil, or_false] at hk; omega) (zKF_o hb2 hb1 hne hk)) (fun a ha => ac a (by simp only [List.mem_cons, List.not_mem_nil, or_false] at ha; omega) (zAF_o hb2 hb1 hne ha))
      refine zBR_h2 (zBR_m r1 (m' := c2) (fun a ha => b3.2.1 a (zAF_no hb2 (by simp only [List.mem_cons, List.not_mem_nil, or_false] at ha; omega)))) b8
    · rw [ee, ← hB]
      have hBb := zb_lt hb1
      exact zWF_c hW (fun a ha => ac a (by simp only [List.mem_cons, List.not_mem_nil, or_false] at ha; omega) (zAF_o hb2 hb1 hne ha))
  · obtain ⟨s1, hs1⟩ : ∃ s1, s1 = zse (zse c0 301 b) 302 (s.2.2.1 301) := ⟨_, rfl⟩
    rw [← hs1] at a1
    obtain ⟨m0, hm0⟩ : ∃ m0, m0 = zrs (some (nI y0)) s1 := ⟨_, rfl⟩
    have f1 : m0.1 = s1.1 := by rw [hm0]; rfl
    have f2 : m0.2.1 = s1.2.1 := by rw [hm0]; rfl
    have f3 : m0.2.2.1 = s1.2.2.1 := by rw [hm0]; rfl
    have g1 : s1.1 = c0.1 := by rw [hs1]
    have g2 : s1.2.1 = c0.2.1 := by rw [hs1]
    rcases J m0 (by rw [f1, g1]; exact a3.1 3303 (zKF_no hb2 (by omega))) (by rw [f2, g2]; exact a3.2.1 35 (zAF_no hb2 (by omega))) with ⟨c2, x2, m2, fn, fp, b1, -⟩ | ⟨c2, m2, z0, z1, z2, z3, zb, zl, b1, b2, b3, b4, b5, b6, b7, b8, b9, b10, b11, b12, b13⟩
    case inl => rw [a1] at b1; cases b1
    have e0 : nI z0 = nI y0 ∧ zse (zse c2 301 b) 302 (s.2.2.1 301) = s1 := by
      rw [a1] at b1
      have h9 := Option.some.inj b1
      exact ⟨(Option.some.inj (congrArg Prod.fst h9)).symm, (congrArg Prod.snd h9).symm⟩
    have g3 : s1.1 = c2.1 := by rw [← e0.2]
    have g4 : s1.2.1 = c2.2.1 := by rw [← e0.2]
    have g5 : s1.2.2.1 301 = b ∧ s1.2.2.1 302 = B := by
      rw [← e0.2, hB]
      exact ⟨rfl, rfl⟩
    have kl : ∀ k, k < 3300 → m2.1 k = c2.1 k := fun k q1 => (b9.1 k (zKN_no q1)).trans (by rw [f1, g3])
    have kc : ∀ k, k < 3300 → k ∉ zKF b → m2.1 k = s.1 k := fun k q1 q2 => (kl k q1).trans (b3.1 k q2)
    have al : ∀ a, a ∉ zAM → m2.2.1 a = c2.2.1 a := fun a q1 => (b9.2.1 a q1).trans (by rw [f2, g4])
    have e301 : m2.2.2.1 301 = b := by rw [b9.2.2, f3]; exact g5.1
    have e302 : m2.2.2.1 302 = B := by rw [b9.2.2, f3]; exact g5.2
    have hbb := zb_lt hb2
    refine ⟨some (nI y0), s1, nI z0, m2, a1, by rw [← hm0]; exact b2, b13, fun v hv => (by cases hv; exact e0.1), (by rw [← hm0, b9.2.2]), zTbl_r hb2 h1 kc, ?_, ?_, ⟨0, Nat.zero_le _, (kl 402 (by omega)).trans b4, b10, fun k hk => absurd hk (Nat.not_lt_zero _)⟩, ⟨?_, ?_⟩, ⟨kk, hk, ?_, ?_, ?_⟩, z0, z1, z2, z3, zb, zl, ?_, ?_⟩
    · unfold zIb
      rw [e301, e302]
      exact ⟨hb2, hb1, fun z => hne z.symm⟩
    · unfold zIw
      rw [al 1 (by decide), al 34 (by decide), b3.2.1 1 (zAF_no hb2 (by omega)), b3.2.1 34 (zAF_no hb2 (by omega))]
      exact h3
    · rw [kl 309 (by omega), b5, b11]
    · rw [kl 310 (by omega), b6, b12]
    · rw [kc 3001 (by omega) (zKF_no hb2 (by omega))]; exact h9
    · rw [b9.1 3329 (by decide), f1, g3, b3.1 3329 (zKF_no hb2 (by omega))]; exact h10
    · rw [al 31 (by decide), al 44 (by decide), b3.2.1 31 (zAF_no hb2 (by omega)), b3.2.1 44 (zAF_no hb2 (by omega))]; exact h11
    · rw [e301]
      exact zBR_c b7 (fun k hk => kl k (by simp only [List.mem_cons, List.not_mem_nil, or_false] at hk; omega)) (fun a ha => al a (zAM_no (by simp only [List.mem_cons, List.not_mem_nil, or_false] at ha; omega)))
    · rw [e301]
      exact zWF_c b8 (fun a ha => al a (zAM_no (by simp only [List.mem_cons, List.not_mem_nil, or_false] at ha; omega)))
