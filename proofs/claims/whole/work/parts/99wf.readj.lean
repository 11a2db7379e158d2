set_option maxHeartbeats 1000000 in
theorem zBR_keep {T : Nat → Nat} {n b L n0 n1 n3 nb nl : Nat} {lc : List (Int32 × Int32)} {c0 m0 c' s t : zS} (h : zEN T n b L L n0 n0 n1 n3 nb nl lc c0 m0) (hn : n ≤ 1000) (hL : L ≤ n) (hp : (zw T n L).2.2.1 ≤ n) (hc1 : ∀ k, 700 ≤ k → c'.1 k = c0.1 k) (hc2 : c'.2.1 = c0.2.1) (hs : ∀ a, s.2.1 a = m0.2.1 a) (k36 : ∀ k, t.2.1 36 k = if 4 ≤ k ∧ k < 4 + 4 then s.2.1 36 (k - 4) else s.2.1 36 k) (k37 : ∀ k, t.2.1 37 k = if 2400 ≤ k ∧ k < 2400 + 2400 then s.2.1 37 (k - 2400) else s.2.1 37 k) (k38 : ∀ k, t.2.1 38 k = if 5600 ≤ k ∧ k < 5600 + 5600 then s.2.1 38 (k - 5600) else s.2.1 38 k) (k39 : ∀ k, t.2.1 39 k = if 4000 ≤ k ∧ k < 4000 + 4000 then s.2.1 39 (k - 4000) else s.2.1 39 k) (k40 : ∀ k, t.2.1 40 k = if 2400 ≤ k ∧ k < 2400 + 2400 then s.2.1 40 (k - 2400) else s.2.1 40 k) (k41 : ∀ k, t.2.1 41 k = if 150 ≤ k ∧ k < 150 + 150 then s.2.1 41 (k - 150) else s.2.1 41 k) (k42 : ∀ k, t.2.1 42 k = if 3000 ≤ k ∧ k < 3000 + 3000 then s.2.1 42 (k - 3000) else s.2.1 42 k) (k49 : ∀ k, t.2.1 49 k = if 800 ≤ k ∧ k < 800 + 800 then s.2.1 49 (k - 800) else s.2.1 49 k) : zBR b 1 n0 n1 lc.length n3 nb nl c' t := by
  obtain ⟨h1, hi, h2, ⟨r1, r2, r3, r4, r5⟩, ⟨h4, h4'⟩, ⟨h5, h5'⟩, ⟨h6, h6'⟩, h7, ⟨l1, l2⟩, ⟨⟨o1, o2, o3, o4⟩, ⟨p1, p2, p3, p4⟩, ⟨q1, q2, q3⟩⟩⟩ := h
  have hbb := zb_lt h1.1
  refine ⟨⟨o1, (hc1 _ (by omega)).trans o2, ?_, fun k j hk hj => ?_⟩, ⟨p1, (hc1 _ (by omega)).trans p2, ?_, fun k j hk hj => ?_⟩, ⟨by omega, (hc1 _ (by omega)).trans h5, ?_, fun k j hk hj => ?_⟩, ⟨r1, (hc1 _ (by omega)).trans r2, ?_, fun k hk => ?_⟩, ⟨by omega, (hc1 _ (by omega)).trans r4, by omega, fun k hk => ?_⟩⟩
  · rw [k36, if_pos (by omega), hs]; exact o3
  · rw [hc2, k37, if_pos (by omega), hs, show 2400 * 1 + 6 * k + j - 2400 = 2400 * 0 + 6 * k + j by omega]; exact o4 k j hk hj
  · rw [k36, if_pos (by omega), hs]; exact p3
  · rw [hc2, k38, if_pos (by omega), hs, show 5600 * 1 + 7 * k + j - 5600 = 5600 * 0 + 7 * k + j by omega]; exact p4 k j hk hj
  · rw [k36, if_pos (by omega), hs]; exact h6
  · rw [hc2, k39, if_pos (by omega), hs, show 4000 * 1 + 2 * k + j - 4000 = 2 * k + j by omega]
    have hj : j = 0 ∨ j = 1 := by omega
    rcases hj with rfl | rfl
    · exact ((h5' k hk).1).trans ((h6' k hk).1).symm
    · exact ((h5' k hk).2).trans ((h6' k hk).2).symm
  · rw [k36, if_pos (by omega), hs]; exact r3
  · obtain ⟨p, l, t1, t2, t3, t4, t5, t6, t7⟩ := r5 k hk
    refine ⟨p, l, t1, t2, t3, ?_, ?_, ?_, fun i hi => ?_⟩
    · rw [hc2]; exact t4
    · rw [hc2]; exact t5
    · rw [k41, if_pos (by omega), hs, show 150 * 1 + k - 150 = 150 * 0 + k by omega]; exact t6
    · rw [hc2, k40, if_pos (by omega), hs, show 2400 * 1 + 16 * k + i - 2400 = 2400 * 0 + 16 * k + i by omega]; exact t7 i hi
  · obtain ⟨p, q, l, d1, d2, d3, d4, d5, d6⟩ := q3 k hk
    refine ⟨p, q, l, d1, d2, ?_, ?_, fun hl => ?_, fun x hx => ?_⟩
    · rw [hc2]; exact d3
    · rw [hc2]; exact d4
    · rw [k49, if_pos (by omega), hs, show 800 * 1 + k - 800 = 800 * 0 + k by omega]; exact d5 hl
    · rw [hc2, k42, if_pos (by omega), hs, show 3000 * 1 + q + x - 3000 = 3000 * 0 + q + x by omega]; exact d6 x hx
set_option maxHeartbeats 1000000 in
theorem readJ {N n b : Nat} {T : Nat → Nat} {c m : zS} (hN : 10000 ≤ N) (hn : n ≤ 940) (hT : ∀ i, i < n → T i < 256) (hTc : zTbl c) (hb : zBk b) (h302 : c.2.2.1 302 = b) (hb1 : zBk (c.2.2.1 301)) (h402 : c.1 402 = nI n) (h5 : ∀ i, i < n → c.2.1 5 i = nI (T i)) (h3 : m.1 3303 = nI n) (h35 : ∀ i, i < n → m.2.1 35 i = nI (T i)) : (∃ (c' : zS) (x : Int32) (m' : zS) (fn fp : Nat), fX9_read N c = some (none, c') ∧ fX10_read N m = some (x, m') ∧ zeq (zKF b) (zAF b) c c' ∧ c'.1 402 = nI 0 ∧ c'.1 309 = nI fn ∧ c'.1 310 = nI fp ∧ zeq zKN zAM m m' ∧ zH2 m m' ∧ m'.1 3303 = nI 0 ∧ m'.1 3313 = nI fn ∧ m'.1 3314 = nI fp ∧ m'.1 3300 = 1) ∨ (∃ (c0 m' : zS) (n0 n1 n2 n3 nb nl : Nat), fX9_read N c = some (some (nI n0), zse (zse c0 301 b) 302 (c.2.2.1 301)) ∧ fX10_read N m = some (nI n0, m') ∧ zeq (zKF b) (zAF b) c c0 ∧ c0.1 402 = nI 0 ∧ c0.1 309 = 0 ∧ c0.1 310 = (-1) ∧ zBR b 1 n0 n1 n2 n3 nb nl c0 m' ∧ zWF b n0 n1 n2 n3 c0 ∧ zeq zKN zAM m m' ∧ m'.1 3303 = nI 0 ∧ m'.1 3313 = 0 ∧ m'.1 3314 = (-1) ∧ m'.1 3300 = 0) := by
  have hbb := zb_lt hb
  have g0 : (0 : Int32).toNatClampNeg = 0 := by decide
  have hz0 : zga 0 (zlen 36) = true := by decide +kernel
  obtain ⟨m1, e1, hh⟩ := begJ (N := N) hN (by omega) hT hTc hb h302 h402 h5 h3 h35
  rcases hh with ⟨L, c1, c', m2, m', hx, a1, a2, a3, a4, a5, a6, a7⟩ | ⟨c', m', fn, fp, a1, a2, a3, a4, a5, a6⟩
  · right
    obtain ⟨n0, n1, n3, nb, nl, W, lc, c0, m0, k1, k2, k3, k4, k5, k6⟩ := a7
    obtain ⟨x1, x2, x3, x4, x5, x6⟩ := id hx
    have hpl : (zw T n L).2.2.1 ≤ n := by
      rcases cx_w hx (Nat.le_refl L) with ⟨-, -, -, hh⟩ | ⟨-, -, hh, -⟩ | ⟨-, hh1, hh, -⟩
      · rcases hh with hh | hh <;> omega
      · omega
      · omega
    have e20 : m'.1 3320 = 0 := (k5.1 3320 (by decide)).trans k1.2.2.1.2.2
    obtain ⟨ma, hma⟩ : ∃ ma, ma = zsc (zsc m' 3303 0) 3313 (m'.1 3320) := ⟨_, rfl⟩
    obtain ⟨mb, hmb⟩ : ∃ mb, mb = zsc (zsc ma 3314 (-1)) 3300 0 := ⟨_, rfl⟩
    have zmb : zeq [3300, 3303, 3313, 3314] [] m' mb := by
      rw [hmb, hma]
      exact zeq_trans (zeq_c (by decide)) (zeq_trans (zeq_c (by decide)) (zeq_trans (zeq_c (by decide)) (zeq_c (by decide))))
    obtain ⟨mc, q1, q2, k36, k37, k38, k39, k40, k41, k42, k49⟩ := q_keep (N := N) (by omega) mb
    have ea20 : ma.1 3320 = 0 := by rw [hma]; exact (zsc_ne (by decide)).trans ((zsc_ne (by decide)).trans e20)
    have hs : ∀ a, mb.2.1 a = m0.2.1 a := fun a => (zmb.2.1 a List.not_mem_nil).trans (k5.2.1 a List.not_mem_nil)
    have BR := zBR_keep (c' := c') k1 (by omega) x4 hpl (fun k hk => k4.1 k (by simp only [List.mem_cons, List.not_mem_nil, or_false]; omega)) (funext fun a => k4.2.1 a List.not_mem_nil) hs k36 k37 k38 k39 k40 k41 k42 k49
    have WF : zWF b n0 n1 lc.length n3 c' := by
      obtain ⟨ic, oc, fo, b1, b2⟩ := k2
      exact zWF_c ⟨ic, oc, fo, by omega, b2⟩ (fun a _ => k4.2.1 a List.not_mem_nil)
    have e302 : c'.2.2.1 302 = b := by rw [a4.2.2]; exact h302
    have e301 : c'.2.2.1 301 = c.2.2.1 301 := by rw [a4.2.2]
    refine ⟨c', mc, n0, n1, lc.length, n3, nb, nl, ?_, ?_, a4, a5, (k4.1 309 (by decide)).trans k1.1.2.2.2.2.1.2.1, (k4.1 310 (by decide)).trans k1.1.2.2.2.2.1.2.2, BR, WF, ?_, ?_, ?_, ?_, ?_⟩
    · unfold fX9_read fX3_finish
      rw [a1, zbt_s, a2, zbl_r, e301, if_pos hb1, e302, if_pos hb, if_pos hb, zbn_s, BR.1.2.1]
    · unfold fX10_read fX10_read_J136
      rw [e1, zbl_r, a3, zbl_r, if_pos e20, ← hma, ea20, if_pos rfl, if_pos rfl, ← hmb, q1, zbn_s, if_pos hz0, g0, k36, if_neg (by omega), hs, k1.2.2.2.2.2.2.2.2.2.1.2.2.1]
    · exact zeq_trans (zeq_mono a6.1 (fun k hk => by simp only [List.mem_cons]; exact Or.inr (Or.inr (Or.inr (Or.inr (by simpa using hk))))) (fun _ h => h)) (zeq_trans (zeq_mono zmb (by decide) (fun _ h => absurd h List.not_mem_nil)) (zeq_mono q2 (fun _ h => absurd h List.not_mem_nil) (by decide)))
    · rw [q2.1 _ List.not_mem_nil, hmb, hma]
      exact (zsc_ne (by decide)).trans ((zsc_ne (by decide)).trans ((zsc_ne (by decide)).trans zsc_at))
    · rw [q2.1 _ List.not_mem_nil, hmb, hma]
      exact (zsc_ne (by decide)).trans ((zsc_ne (by decide)).trans (zsc_at.trans e20))
    · rw [q2.1 _ List.not_mem_nil, hmb]
      exact (zsc_ne (by decide)).trans zsc_at
    · rw [q2.1 _ List.not_mem_nil, hmb]
      exact zsc_at
  · left
    obtain ⟨y1, y2, y3, y4, y5, y6⟩ := a6
    have n20 : ¬ m'.1 3320 = 0 := by rw [y5]; exact nI_ne0 (by omega) (by omega)
    obtain ⟨ma, hma⟩ : ∃ ma, ma = zsc (zsc m' 3303 0) 3313 (m'.1 3320) := ⟨_, rfl⟩
    have ea20 : ma.1 3320 = m'.1 3320 := by rw [hma]; exact (zsc_ne (by decide)).trans (zsc_ne (by decide))
    obtain ⟨mb, hmb⟩ : ∃ mb, mb = zsc (zsc ma 3314 (m'.1 3321)) 3300 1 := ⟨_, rfl⟩
    have zmb : zeq [3300, 3303, 3313, 3314] [] m' mb := by
      rw [hmb, hma]
      exact zeq_trans (zeq_c (by decide)) (zeq_trans (zeq_c (by decide)) (zeq_trans (zeq_c (by decide)) (zeq_c (by decide))))
    refine ⟨c', 0, mb, fn, fp, ?_, ?_, a3, a4, y3, y4, ?_, ?_, ?_, ?_, ?_, ?_⟩
    · unfold fX9_read
      cases hbg : fX3_begin N c with
      | none => rw [hbg] at a1; cases a1
      | some q =>
        obtain ⟨o, s⟩ := q
        rw [hbg] at a1
        cases o with
        | none =>
          have : some (Sum.inl (none, s)) = some (.inl (none, c') : (Option Int32 × zS) ⊕ zS) := a1
          cases this
          rfl
        | some u =>
          have h9 : fX9_read_L9 N N 0 s = some (.inl (none, c')) := a1
          rw [zbt_s, h9, zbl_l]
    · unfold fX10_read fX10_read_J136
      rw [e1, zbl_r, a2, zbl_r, if_neg n20, ← hma, ea20, if_neg n20, if_neg n20, ← hmb]
    · exact zeq_trans (zeq_mono a5.1 (fun k hk => by simp only [List.mem_cons]; exact Or.inr (Or.inr (Or.inr (Or.inr (by simpa using hk))))) (fun _ h => h)) (zeq_mono zmb (by decide) (fun _ h => absurd h List.not_mem_nil))
    · intro k
      have h9 := a5.2 k
      rw [zmb.2.1 36 List.not_mem_nil, zmb.2.1 37 List.not_mem_nil, zmb.2.1 38 List.not_mem_nil, zmb.2.1 39 List.not_mem_nil, zmb.2.1 40 List.not_mem_nil, zmb.2.1 41 List.not_mem_nil, zmb.2.1 42 List.not_mem_nil, zmb.2.1 49 List.not_mem_nil]
      exact h9
    · rw [hmb, hma]
      exact (zsc_ne (by decide)).trans ((zsc_ne (by decide)).trans ((zsc_ne (by decide)).trans zsc_at))
    · rw [hmb, hma]
      exact (zsc_ne (by decide)).trans ((zsc_ne (by decide)).trans (zsc_at.trans y5))
    · rw [hmb]
      exact (zsc_ne (by decide)).trans (zsc_at.trans y6)
    · rw [hmb]
      exact zsc_at
