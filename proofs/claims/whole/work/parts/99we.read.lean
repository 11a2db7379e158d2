def zKF (b : Nat) : List Nat := 402 :: 403 :: 404 :: 405 :: 603 :: zKC b
def zAF (b : Nat) : List Nat := 7 :: zAC b
abbrev zKN : List Nat := 3300 :: 3303 :: 3313 :: 3314 :: zKM
def zH2 (m t : zS) : Prop := ∀ k, (4 ≤ k → t.2.1 36 k = m.2.1 36 k) ∧ (2400 ≤ k → t.2.1 37 k = m.2.1 37 k) ∧ (5600 ≤ k → t.2.1 38 k = m.2.1 38 k) ∧ (4000 ≤ k → t.2.1 39 k = m.2.1 39 k) ∧ (2400 ≤ k → t.2.1 40 k = m.2.1 40 k) ∧ (150 ≤ k → t.2.1 41 k = m.2.1 41 k) ∧ (3000 ≤ k → t.2.1 42 k = m.2.1 42 k) ∧ (800 ≤ k → t.2.1 49 k = m.2.1 49 k)
set_option maxHeartbeats 400000 in
theorem l_zero {N : Nat} (hN : 100 ≤ N) (s : zS) : ∃ t, fX10_read_L2 N N 0 s = some (.inr t) ∧ zeq [] [36] s t ∧ ∀ k, t.2.1 36 k = if k < 4 then 0 else s.2.1 36 k := by
  have h := zfor1 (S := fX10_read_L2S N) 0 4 (fun i t => zeq [] [36] s t ∧ ∀ k, t.2.1 36 k = if k < i then 0 else s.2.1 36 k) (fun q => ∃ t, q = .inr t ∧ zeq [] [36] s t ∧ ∀ k, t.2.1 36 k = if k < 4 then 0 else s.2.1 36 k) (fun rec i t _ hi hI hr => by
    obtain ⟨h1, h2⟩ := hI
    unfold fX10_read_L2S
    by_cases c : i < 4
    · refine zp_neg (show ¬ (4 : Int32) ≤ nI i from nI_ge c (by decide)) (zp_pos (zga_l (by rfl) (show i < 8 by omega) (by decide)) ?_)
      rw [nI_1]
      refine hr c _ ⟨zeq_trans h1 (zeq_r (by simp)), fun k => ?_⟩
      rw [zsr_g (by omega), h2]
      by_cases e : k = i
      · rw [if_pos e, if_pos (by omega)]
      · rw [if_neg e]
        by_cases e2 : k < i
        · rw [if_pos e2, if_pos (by omega)]
        · rw [if_neg e2, if_neg (by omega)]
    · have e : i = 4 := by omega
      subst e
      exact zp_pos (show (4 : Int32) ≤ nI 4 by decide) (zp_some ⟨t, rfl, h1, h2⟩)) N s (by omega) (by omega) ⟨zeq_refl _ _ _, fun k => by rw [if_neg (by omega)]⟩
  obtain ⟨q, e, t, rfl, h1, h2⟩ := h
  exact ⟨t, e, h1, h2⟩
set_option maxHeartbeats 1000000 in
theorem begC {N n b : Nat} {T : Nat → Nat} {c : zS} (hN : 10000 ≤ N) (hn : n ≤ 1000) (hT : ∀ i, i < n → T i < 256) (hTc : zTbl c) (hb : zBk b) (h302 : c.2.2.1 302 = b) (h402 : c.1 402 = nI n) (h5 : ∀ i, i < n → c.2.1 5 i = nI (T i)) : ∃ (L : Nat) (c' : zS), zCx T n L N ∧ zeq (zKF b) (zAF b) c c' ∧ c'.1 402 = nI 0 ∧ c'.1 (100 * (b + 1) + 3) = nI 0 ∧ c'.1 (100 * (b + 3) + 3) = nI 0 ∧ c'.1 (100 * (b + 5) + 3) = nI 0 ∧ c'.1 (100 * (b + 7) + 3) = nI 0 ∧ c'.1 (100 * b + 5) = nI 0 ∧ (((zw T n 0).1 ≠ 24 ∧ fX3_begin N c = some (some (), c') ∧ zPC T n b L 0 c') ∨ ((zw T n 0).1 = 24 ∧ fX3_begin N c = some (none, c') ∧ c'.1 309 = (zw T n 0).2.1 ∧ c'.1 310 = nI (zw T n 0).2.2.1)) := by
  have hbb := zb_lt hb
  obtain ⟨ca, hca⟩ : ∃ ca, ca = zsc (zsc c 309 0) 310 (-1) := ⟨_, rfl⟩
  obtain ⟨cb, hcb⟩ : ∃ cb, cb = zsc (zsc (zsc (zsc (zsc ca (100 * (b + 1) + 3) 0) (100 * (b + 3) + 3) 0) (100 * (b + 5) + 3) 0) (100 * (b + 7) + 3) 0) (100 * b + 5) 0 := ⟨_, rfl⟩
  have zcb : zeq (zKC b) [] c cb := by
    rw [hcb, hca]
    refine zeq_trans (zeq_c (by unfold zKC; simp)) (zeq_trans (zeq_c (by unfold zKC; simp)) (zeq_trans (zeq_c (by unfold zKC; simp)) (zeq_trans (zeq_c (by unfold zKC; simp)) (zeq_trans (zeq_c (by unfold zKC; simp)) (zeq_trans (zeq_c (by unfold zKC; simp)) (zeq_c (by unfold zKC; simp)))))))
  have hTb : zTbl cb := zTbl_C hb hTc (zeq_mono zcb (fun _ h => h) (fun _ h => absurd h List.not_mem_nil))
  have v1 : cb.1 (100 * (b + 1) + 3) = nI 0 := by rw [hcb]; exact (zsc_ne (by omega)).trans ((zsc_ne (by omega)).trans ((zsc_ne (by omega)).trans ((zsc_ne (by omega)).trans zsc_at)))
  have v3 : cb.1 (100 * (b + 3) + 3) = nI 0 := by rw [hcb]; exact (zsc_ne (by omega)).trans ((zsc_ne (by omega)).trans ((zsc_ne (by omega)).trans zsc_at))
  have v5 : cb.1 (100 * (b + 5) + 3) = nI 0 := by rw [hcb]; exact (zsc_ne (by omega)).trans ((zsc_ne (by omega)).trans zsc_at)
  have v7 : cb.1 (100 * (b + 7) + 3) = nI 0 := by rw [hcb]; exact (zsc_ne (by omega)).trans zsc_at
  have v9 : cb.1 (100 * b + 5) = nI 0 := by rw [hcb]; exact zsc_at
  have w9 : cb.1 309 = 0 := by
    rw [hcb, hca]
    exact (zsc_ne (by omega)).trans ((zsc_ne (by omega)).trans ((zsc_ne (by omega)).trans ((zsc_ne (by omega)).trans ((zsc_ne (by omega)).trans ((zsc_ne (by omega)).trans zsc_at)))))
  have w10 : cb.1 310 = (-1) := by
    rw [hcb, hca]
    exact (zsc_ne (by omega)).trans ((zsc_ne (by omega)).trans ((zsc_ne (by omega)).trans ((zsc_ne (by omega)).trans ((zsc_ne (by omega)).trans zsc_at))))
  obtain ⟨q, eq, L, s1, s2, s3, s4, s5, s6, s7, s8⟩ := q_scan (N := N) (n := n) (T := T) (s := cb) hTb.1 hTb.2.1 ((zcb.1 402 (zKC_no hb (by omega) (by omega))).trans h402) (by omega) (fun i hi => ⟨hT i hi, by rw [zcb.2.1 5 List.not_mem_nil]; exact h5 i hi⟩) (by omega)
  obtain ⟨q0, cc⟩ := q
  have eq' : fX8_scan N cb = some (q0, cc) := eq
  simp only at s2 s3 s6 s7 s8
  have hx : zCx T n L N := ⟨hT, s5, s4, s1, hn, by omega⟩
  obtain ⟨cd, hcd⟩ : ∃ cd, cd = zsc cc 303 (-1) := ⟨_, rfl⟩
  have zcd : zeq [303] [] cc cd := by rw [hcd]; exact zeq_c (by decide)
  have zall : zeq (zKF b) (zAF b) c cd := zeq_trans (zeq_mono zcb (fun k hk => by unfold zKF; simp [hk]) (fun _ h => absurd h List.not_mem_nil)) (zeq_trans (zeq_mono s8 (fun k hk => by unfold zKF; simp only [List.mem_cons, List.not_mem_nil, or_false] at hk ⊢; omega) (fun a ha => by rw [List.mem_singleton.mp ha]; unfold zAF; simp)) (zeq_mono zcd (fun k hk => by rw [List.mem_singleton.mp hk]; unfold zKF zKC; simp) (fun _ h => absurd h List.not_mem_nil)))
  have kcc : ∀ k, k ∉ [402, 403, 404, 405, 603] → k ≠ 303 → cd.1 k = cb.1 k := fun k q1 q2 => (zcd.1 k (by simp [q2])).trans (s8.1 k q1)
  have nin : ∀ k, 700 ≤ k → k ∉ [402, 403, 404, 405, 603] := fun k hk => by simp only [List.mem_cons, List.not_mem_nil, or_false]; omega
  have hTd : zTbl cd := by
    have e : ∀ k, 601 ≤ k → k ≠ 603 → cd.1 k = cb.1 k := fun k q1 q2 => kcc k (by simp only [List.mem_cons, List.not_mem_nil, or_false]; omega) (by omega)
    refine ⟨(e 601 (by omega) (by omega)).trans hTb.1, (e 602 (by omega) (by omega)).trans hTb.2.1, fun b' hb' => ?_⟩
    have hbb' := zb_lt hb'
    obtain ⟨⟨a1, a2⟩, ⟨a3, a4⟩, ⟨a5, a6⟩, ⟨a7, a8⟩⟩ := hTb.2.2 b' hb'
    exact ⟨⟨(e _ (by omega) (by omega)).trans a1, (e _ (by omega) (by omega)).trans a2⟩, ⟨(e _ (by omega) (by omega)).trans a3, (e _ (by omega) (by omega)).trans a4⟩, ⟨(e _ (by omega) (by omega)).trans a5, (e _ (by omega) (by omega)).trans a6⟩, ⟨(e _ (by omega) (by omega)).trans a7, (e _ (by omega) (by omega)).trans a8⟩⟩
  obtain ⟨c', d1, d2, d3⟩ := s3_gen (N := N) (j := 0) (L := L) hb (by rw [zall.2.2]; exact h302) hTd (zTx_keep s6 zcd (by decide) List.not_mem_nil) ((zcd.1 603 (by decide)).trans s2) (fun j hj => by rw [zcd.2.1 7 List.not_mem_nil]; exact s3 j hj) ((kcc 309 (by decide) (by decide)).trans w9) ((kcc 310 (by decide) (by decide)).trans w10) (by rw [hcd, zsc_at]; rfl) (Nat.zero_le _) s1 (zw_lt (cx_w hx (Nat.zero_le L)))
  have nin2 : ∀ k, 700 ≤ k → k ∉ [303, 304, 305, 309, 310] := fun k hk => by simp only [List.mem_cons, List.not_mem_nil, or_false]; omega
  have kc' : ∀ k, 700 ≤ k → c'.1 k = cb.1 k := fun k hk => (d1.1 k (nin2 k hk)).trans (kcc k (nin k hk) (by omega))
  have hbeg : ∀ r, fX3_step N cd = r → fX3_begin N c = zbt r (fun sx => some (none, sx)) (fun _ s9 => some (some (), s9)) := by
    intro r hr
    unfold fX3_begin fX0_clear
    rw [h302, if_pos hb, zbn_s, ← hca, ← hcb, eq', zbn_s, ← hcd, hr]
  refine ⟨L, c', hx, zeq_trans zall (zeq_mono d1 (fun k hk => by unfold zKF zKC; simp only [List.mem_cons, List.not_mem_nil, or_false] at hk ⊢; omega) (fun _ h => absurd h List.not_mem_nil)), ?_, (kc' _ (by omega)).trans v1, (kc' _ (by omega)).trans v3, (kc' _ (by omega)).trans v5, (kc' _ (by omega)).trans v7, (kc' _ (by omega)).trans v9, ?_⟩
  · exact (d1.1 402 (by decide)).trans ((zcd.1 402 (by decide)).trans s7)
  rcases d3 with ⟨d4, d5⟩ | ⟨d4, d5, d6, d7⟩
  · exact Or.inl ⟨d4, by rw [hbeg _ d5, zbt_s], d2 d4⟩
  · exact Or.inr ⟨d4, by rw [hbeg _ d5, zbt_n], d6, d7⟩
set_option maxHeartbeats 1000000 in
theorem begM {N n : Nat} {T : Nat → Nat} {m : zS} (hN : 10000 ≤ N) (hn : n ≤ 1000) (hT : ∀ i, i < n → T i < 256) (h3 : m.1 3303 = nI n) (h35 : ∀ i, i < n → m.2.1 35 i = nI (T i)) : ∃ m1 m3, fX10_read_L2 N N 0 m = some (.inr m1) ∧ fX10_read_L52 N N 1 (zsc (zsc (zsc (zsc (zsc (zsc m1 3312 0) 3324 0) 3320 0) 3321 (-1)) 3319 0) 3318 0) = zRK N (N - 1) m3 ∧ zFM m m3 ∧ zPM T n 0 m3 ∧ (∀ j, j < 4 → m3.2.1 36 j = nI 0) ∧ m3.1 3312 = nI 0 ∧ m3.1 3324 = nI 0 ∧ m3.1 3319 = nI 0 := by
  obtain ⟨m1, e1, z1, h1⟩ := l_zero (N := N) (by omega) m
  obtain ⟨m2, hm2⟩ : ∃ m2, m2 = zsc (zsc (zsc (zsc (zsc (zsc m1 3312 0) 3324 0) 3320 0) 3321 (-1)) 3319 0) 3318 0 := ⟨_, rfl⟩
  have z2 : zeq [3312, 3318, 3319, 3320, 3321, 3324] [] m1 m2 := by
    rw [hm2]
    exact zeq_trans (zeq_c (by decide)) (zeq_trans (zeq_c (by decide)) (zeq_trans (zeq_c (by decide)) (zeq_trans (zeq_c (by decide)) (zeq_trans (zeq_c (by decide)) (zeq_c (by decide))))))
  have k12 : m2.1 3312 = 0 := by rw [hm2]; exact (zsc_ne (by decide)).trans ((zsc_ne (by decide)).trans ((zsc_ne (by decide)).trans ((zsc_ne (by decide)).trans ((zsc_ne (by decide)).trans zsc_at))))
  have k24 : m2.1 3324 = 0 := by rw [hm2]; exact (zsc_ne (by decide)).trans ((zsc_ne (by decide)).trans ((zsc_ne (by decide)).trans ((zsc_ne (by decide)).trans zsc_at)))
  have k20 : m2.1 3320 = 0 := by rw [hm2]; exact (zsc_ne (by decide)).trans ((zsc_ne (by decide)).trans ((zsc_ne (by decide)).trans zsc_at))
  have k19 : m2.1 3319 = 0 := by rw [hm2]; exact (zsc_ne (by decide)).trans zsc_at
  have k18 : m2.1 3318 = 0 := by rw [hm2]; exact zsc_at
  have z02 : zeq [3312, 3318, 3319, 3320, 3321, 3324] [36] m m2 := zeq_trans (zeq_mono z1 (fun _ h => absurd h List.not_mem_nil) (by decide)) (zeq_mono z2 (by decide) (fun _ h => absurd h List.not_mem_nil))
  have hx2 : zTx 35 3303 T n m2 := ⟨(z02.1 3303 (by decide)).trans h3, by omega, fun i hi => ⟨hT i hi, by rw [z02.2.1 35 (by decide)]; exact h35 i hi⟩⟩
  obtain ⟨q, eq, w1, w2⟩ := s10_next (N := N) (k := 0) hx2 (by omega) (Nat.zero_le _) k18
  obtain ⟨q0, m3⟩ := q
  have eq' : fX10_next N m2 = some (q0, m3) := eq
  have w1' : zeq [3311, 3315, 3316, 3317, 3318] [48] m2 m3 := w1
  have f1 : zFM m m1 := by
    refine ⟨zeq_mono z1 (fun _ h => absurd h List.not_mem_nil) (by decide), fun k => ⟨fun hk => by rw [h1, if_neg (by omega)], ?_⟩⟩
    rw [z1.2.1 37 (by decide), z1.2.1 38 (by decide), z1.2.1 39 (by decide), z1.2.1 40 (by decide), z1.2.1 41 (by decide), z1.2.1 42 (by decide), z1.2.1 49 (by decide)]
    exact ⟨fun _ => rfl, fun _ => rfl, fun _ => rfl, fun _ => rfl, fun _ => rfl, fun _ => rfl, fun _ => rfl⟩
  have f2 : zFM m1 m2 := zFM_eq z2 (by decide) (by simp)
  have f3 : zFM m2 m3 := zFM_eq w1' (by decide) (by simp)
  refine ⟨m1, m3, e1, ?_, zFM_trans f1 (zFM_trans f2 f3), ⟨zTx_keep hx2 w1' (by decide) (by decide), w2, (w1'.1 3320 (by decide)).trans k20⟩, fun j hj => ?_, (w1'.1 3312 (by decide)).trans k12, (w1'.1 3324 (by decide)).trans k24, (w1'.1 3319 (by decide)).trans k19⟩
  · rw [← hm2]
    have h9 := L52_1 (N := N) (M := N - 1) (s := m2)
    rw [show N - 1 + 1 = N by omega, eq', zbn_s] at h9
    exact h9
  · rw [w1'.2.1 36 (by decide), z2.2.1 36 List.not_mem_nil, h1, if_pos hj]
    rfl
set_option maxHeartbeats 1000000 in
theorem begJ {N n b : Nat} {T : Nat → Nat} {c m : zS} (hN : 10000 ≤ N) (hn : n ≤ 1000) (hT : ∀ i, i < n → T i < 256) (hTc : zTbl c) (hb : zBk b) (h302 : c.2.2.1 302 = b) (h402 : c.1 402 = nI n) (h5 : ∀ i, i < n → c.2.1 5 i = nI (T i)) (h3 : m.1 3303 = nI n) (h35 : ∀ i, i < n → m.2.1 35 i = nI (T i)) : ∃ m1, fX10_read_L2 N N 0 m = some (.inr m1) ∧ ((∃ (L : Nat) (c1 c' m2 m' : zS), zCx T n L N ∧ fX3_begin N c = some (some (), c1) ∧ fX9_read_L9 N N 0 c1 = some (.inr c') ∧ fX10_read_L52 N N 1 (zsc (zsc (zsc (zsc (zsc (zsc m1 3312 0) 3324 0) 3320 0) 3321 (-1)) 3319 0) 3318 0) = some (.inr m') ∧ zeq (zKF b) (zAF b) c c' ∧ c'.1 402 = nI 0 ∧ zFM m m' ∧ zFA T n b L c1 m2 c' m') ∨ (∃ (c' m' : zS) (fn fp : Nat), zbt (fX3_begin N c) (fun sx => some (.inl (none, sx))) (fun _ s2 => fX9_read_L9 N N 0 s2) = some (.inl (none, c')) ∧ fX10_read_L52 N N 1 (zsc (zsc (zsc (zsc (zsc (zsc m1 3312 0) 3324 0) 3320 0) 3321 (-1)) 3319 0) 3318 0) = some (.inr m') ∧ zeq (zKF b) (zAF b) c c' ∧ c'.1 402 = nI 0 ∧ zFM m m' ∧ zFF fn fp c' m')) := by
  have hbb := zb_lt hb
  obtain ⟨L, c1, hx, z1, k402, v1, v3, v5, v7, v9, hbeg⟩ := begC (N := N) hN hn hT hTc hb h302 h402 h5
  obtain ⟨m1, m3, e1, e2, f3, p3, t36, k12, k24, k19⟩ := begM (N := N) hN hn hT h3 h35
  obtain ⟨x1, x2, x3, x4, x5, x6⟩ := id hx
  refine ⟨m1, e1, ?_⟩
  rw [e2]
  have gz : ∀ c', zGr b c1 m3 c' c' → True := fun _ _ => trivial
  have fin : ∀ c' m', zGr b c1 m3 c' m' → zeq (zKF b) (zAF b) c c' ∧ c'.1 402 = nI 0 ∧ zFM m m' := by
    intro c' m' hg
    refine ⟨zeq_trans z1 (zeq_mono hg.1 (fun k hk => by unfold zKF; simp [hk]) (fun a ha => by unfold zAF; simp [ha])), (hg.1.1 402 (zKC_no hb (by omega) (by omega))).trans k402, zFM_trans f3 hg.2⟩
  rcases hbeg with ⟨d4, d5, d6⟩ | ⟨d4, d5, d6, d7⟩
  · have E0 : zEN T n b L 0 0 0 0 0 0 0 [] c1 m3 := by
      refine ⟨d6, Nat.zero_le _, p3, ⟨Nat.zero_le _, v7, t36 3 (by omega), v9, fun k hk => absurd hk (Nat.not_lt_zero _)⟩, ⟨Nat.zero_le _, Nat.zero_le _⟩, ⟨v5, fun j hj => absurd hj (Nat.not_lt_zero _)⟩, ⟨t36 2 (by omega), fun j hj => absurd hj (Nat.not_lt_zero _)⟩, k24, ⟨Nat.zero_le _, Nat.zero_le _⟩, ⟨Nat.zero_le _, v1, t36 0 (by omega), fun k j hk => absurd hk (Nat.not_lt_zero _)⟩, ⟨Nat.zero_le _, v3, t36 1 (by omega), fun k j hk => absurd hk (Nat.not_lt_zero _)⟩, ⟨Nat.zero_le _, k12, fun k hk => absurd hk (Nat.not_lt_zero _)⟩⟩
    have W0 : zWB 0 b 0 0 ([] : List (Int32 × Int32)).length 0 c1 := ⟨fun _ => 0, fun _ => 0, fun _ => 0, Nat.le_refl _, rfl, fun j hj => absurd hj (Nat.not_lt_zero _), fun j hj => absurd hj (Nat.not_lt_zero _), fun j hj => absurd hj (Nat.not_lt_zero _), fun j hj => absurd hj (Nat.not_lt_zero _)⟩
    rcases linesL (N := N) hx L 0 0 0 0 0 0 0 0 [] c1 m3 N (N - 1) (by omega) (by omega) (by omega) E0 W0 (Nat.zero_le _) k19 d4 (Nat.le_refl _) with P | P
    · obtain ⟨c', m', a1, a2, a3⟩ := P
      have hg : zGr b c1 m3 c' m' := by
        obtain ⟨_, _, _, _, _, _, _, _, _, _, _, _, _, _, hg⟩ := a3
        exact hg
      obtain ⟨g1, g2, g3⟩ := fin c' m' hg
      exact Or.inl ⟨L, c1, c', m3, m', hx, d5, a1, a2, g1, g2, g3, a3⟩
    · obtain ⟨c', m', fn, fp, a1, a2, a3, a4⟩ := P
      obtain ⟨g1, g2, g3⟩ := fin c' m' a4
      exact Or.inr ⟨c', m', fn, fp, by rw [d5, zbt_s]; exact a1, a2, g1, g2, g3, a3⟩
  · obtain ⟨f, fa, fb, fc⟩ := cx_bad hx (Nat.zero_le L) d4
    obtain ⟨mm, hmm⟩ : ∃ mm, mm = zsc (zsc m3 3320 (zw T n 0).2.1) 3321 (nI (zw T n 0).2.2.1) := ⟨_, rfl⟩
    have gmm : zGr b c1 m3 c1 mm := by rw [hmm]; exact zGr_m hb
    have fmm : zFF f (zw T n 0).2.2.1 c1 mm := by
      rw [hmm]
      exact ⟨fa, by omega, by rw [d6, fc], d7, ((zsc_ne (by decide)).trans zsc_at).trans fc, zsc_at⟩
    have hrl : fX10_readLine N m3 = some (0, mm) := by
      have h9 := RL_x (N := N) (M := N - 1) p3 (cx_w hx (Nat.zero_le L)) x5 (by omega)
      rw [show N - 1 + 1 = N by omega, if_pos d4, ← hmm] at h9
      unfold fX10_readLine
      rw [h9, zbl_l]
    obtain ⟨g1, g2, g3⟩ := fin c1 (zsc (zsc mm 3318 ((mm.1 3318) + 1)) 3319 ((mm.1 3319) + 1)) (zGr_trans gmm zGr_8)
    refine Or.inr ⟨c1, zsc (zsc mm 3318 ((mm.1 3318) + 1)) 3319 ((mm.1 3319) + 1), f, (zw T n 0).2.2.1, by rw [d5, zbt_n], ?_, g1, g2, g3, zFF_8 fmm⟩
    have h9 := J82_s (N := N) (M := N - 2) (s := mm)
    rw [show N - 2 + 1 = N - 1 by omega] at h9
    unfold zRK
    rw [hrl, zbn_s, if_pos rfl, h9]
