set_option maxHeartbeats 1000000 in
theorem s3_gen {N : Nat} {T : Nat → Nat} {n b L j : Nat} {c : zS} (hb : zBk b) (g1 : c.2.2.1 302 = b) (g2 : zTbl c) (g3 : zTx 5 403 T n c) (g4 : c.1 603 = nI (L + 1)) (g5 : zRw T n c (L + 1)) (g9 : c.1 309 = 0) (g10 : c.1 310 = (-1)) (g6 : c.1 303 + 1 = nI j) (hj : j ≤ L) (hL : L ≤ n) (hk : (zw T n j).1 < 25) : ∃ c', zeq [303, 304, 305, 309, 310] [] c c' ∧ ((zw T n j).1 ≠ 24 → zPC T n b L j c') ∧ (((zw T n j).1 ≠ 24 ∧ fX3_step N c = some (some (), c')) ∨ ((zw T n j).1 = 24 ∧ fX3_step N c = some (none, c') ∧ c'.1 309 = (zw T n j).2.1 ∧ c'.1 310 = nI (zw T n j).2.2.1)) := by
  have hn := g3.2.1
  have hbb := zb_lt hb
  obtain ⟨c1, hc1⟩ : ∃ c1, c1 = zsc (zsc (zsc c 303 (nI j)) 304 (nI (zw T n j).1)) 305 (nI (zw T n j).2.2.1) := ⟨_, rfl⟩
  have z1 : zeq [303, 304, 305, 309, 310] [] c c1 := by
    rw [hc1]
    exact zeq_trans (zeq_c (by decide)) (zeq_trans (zeq_c (by decide)) (zeq_c (by decide)))
  have zk : ∀ (x y : zS), zeq [303, 304, 305, 309, 310] [] x y → zeq (zKC b) (zAC b) x y := fun x y q => zeq_mono q (fun k hk => by unfold zKC; simp only [List.mem_cons, List.not_mem_nil, or_false] at hk ⊢; omega) (fun a ha => absurd ha List.not_mem_nil)
  have key : ∀ y : zS, zeq [303, 304, 305, 309, 310] [] c y → y.1 303 = nI j → y.1 304 = nI (zw T n j).1 → y.1 305 = nI (zw T n j).2.2.1 → y.1 309 = c.1 309 → y.1 310 = c.1 310 → zPC T n b L j y := by
    intro y q q3 q4 q5 q9 q10
    refine ⟨hb, by rw [q.2.2]; exact g1, zTbl_C hb g2 (zk _ _ q), zTx_keep g3 q (by decide) List.not_mem_nil, ⟨(q.1 603 (by decide)).trans g4, q9.trans g9, q10.trans g10⟩, ?_, q3, q4, q5⟩
    intro i hi
    rw [q.2.1 7 List.not_mem_nil]
    exact g5 i hi
  have f3 : c1.1 303 = nI j := by rw [hc1]; exact (zsc_ne (by decide)).trans ((zsc_ne (by decide)).trans zsc_at)
  have f4 : c1.1 304 = nI (zw T n j).1 := by rw [hc1]; exact (zsc_ne (by decide)).trans zsc_at
  have f5 : c1.1 305 = nI (zw T n j).2.2.1 := by rw [hc1]; exact zsc_at
  have p1 : zPC T n b L j c1 := key c1 z1 f3 f4 f5 (by rw [hc1]; exact (zsc_ne (by decide)).trans ((zsc_ne (by decide)).trans (zsc_ne (by decide)))) (by rw [hc1]; exact (zsc_ne (by decide)).trans ((zsc_ne (by decide)).trans (zsc_ne (by decide))))
  have kind : fX8_kindOf N (nI j) (zsc c 303 (nI j)) = some (nI (zw T n j).1, zsc c 303 (nI j)) := by
    have hcell : fX6_cell N 6 (nI j) 0 0 (zsc c 303 (nI j)) = some (nI (zw T n j).1, zsc c 303 (nI j)) := by
      rw [show (0 : Int32) = nI 0 from rfl, q_cell_in (a := 6) (s := zsc c 303 (nI j)) 3 (L + 1) j 0 9003 g2.1 g4 rfl (by omega) (by omega) (by omega) (by decide) (by omega) (by decide)]
      exact congrArg (fun z => some (z, zsc c 303 (nI j))) (g5 j (by omega)).1
    unfold fX8_kindOf
    rw [hcell]
    rfl
  have plac : fX8_placeOf N (nI j) (zsc (zsc c 303 (nI j)) 304 (nI (zw T n j).1)) = some (nI (zw T n j).2.2.1, zsc (zsc c 303 (nI j)) 304 (nI (zw T n j).1)) := by
    have hcell : ∀ d, fX6_cell N 6 (nI j) 1 d (zsc (zsc c 303 (nI j)) 304 (nI (zw T n j).1)) = some (nI (zw T n j).2.2.1, zsc (zsc c 303 (nI j)) 304 (nI (zw T n j).1)) := by
      intro d
      rw [show (1 : Int32) = nI 1 from rfl, q_cell_in (a := 6) (s := zsc (zsc c 303 (nI j)) 304 (nI (zw T n j).1)) 3 (L + 1) j 1 9003 g2.1 g4 rfl (by omega) (by omega) (by omega) (by decide) (by omega) (by decide)]
      exact congrArg (fun z => some (z, zsc (zsc c 303 (nI j)) 304 (nI (zw T n j).1))) (g5 j (by omega)).2.1
    unfold fX8_placeOf
    rw [hcell]
    rfl
  have hstep : fX3_step N c = if nI (zw T n j).1 = 24 then zbn (fX8_valueOf N (nI j) c1) (fun x7 s8 => zbt (fX3_refuse N x7 s8) (fun sx => some (none, sx)) (fun _ s11 => some (some (), s11))) else some (some (), c1) := by
    unfold fX3_step
    rw [g6, kind, zbn_s]
    have e3 : (zsc c 303 (nI j)).1 303 = nI j := zsc_at
    rw [e3, plac, zbn_s]
    have e4 : (zsc (zsc c 303 (nI j)) 304 (nI (zw T n j).1)).1 304 = nI (zw T n j).1 := zsc_at
    have e5 : (zsc (zsc c 303 (nI j)) 304 (nI (zw T n j).1)).1 303 = nI j := (zsc_ne (by decide)).trans zsc_at
    rw [e4, e5, ← hc1]
  by_cases c24 : (zw T n j).1 = 24
  · have val : fX8_valueOf N (nI j) c1 = some ((zw T n j).2.1, c1) := by
      unfold fX8_valueOf
      rw [(zcell_w p1 j hj hL).2.2]
      rfl
    obtain ⟨c2, hc2⟩ : ∃ c2, c2 = zsc (zsc c1 309 (zw T n j).2.1) 310 (c1.1 305) := ⟨_, rfl⟩
    have z2 : zeq [303, 304, 305, 309, 310] [] c c2 := by
      rw [hc2]
      exact zeq_trans z1 (zeq_trans (zeq_c (by decide)) (zeq_c (by decide)))
    refine ⟨c2, z2, fun z => absurd c24 z, Or.inr ⟨c24, ?_, ?_, ?_⟩⟩
    · rw [hstep, if_pos (by rw [c24]; rfl), val, zbn_s, hc2]
      rfl
    · rw [hc2]; exact (zsc_ne (by decide)).trans zsc_at
    · rw [hc2]; exact zsc_at.trans f5
  · refine ⟨c1, z1, fun _ => p1, Or.inl ⟨c24, ?_⟩⟩
    rw [hstep, if_neg (show ¬ nI (zw T n j).1 = (24 : Int32) from fun z => c24 ((nI_eq (b := 24) (by omega) (by decide)).mp z))]
set_option maxHeartbeats 1000000 in
theorem s3_out {N : Nat} {T : Nat → Nat} {n b L : Nat} {c : zS} (h : zPC T n b L L c) (hL : L ≤ n) : ∃ c', fX3_step N c = some (some (), c') ∧ zeq [303, 304, 305] [] c c' ∧ c'.1 303 = nI (L + 1) := by
  obtain ⟨hb, g1, g2, g3, g4, g5, g6, g7, g8⟩ := h
  have hn := g3.2.1
  obtain ⟨ca, hca⟩ : ∃ ca, ca = zsc c 303 (nI (L + 1)) := ⟨_, rfl⟩
  have za : zeq [303, 304, 305] [] c ca := by rw [hca]; exact zeq_c (by decide)
  have k603 : ∀ t, zeq [303, 304, 305] [] c t → t.1 (100 * 6 + 3) ≤ nI (L + 1) := fun t ht => by
    rw [show 100 * 6 + 3 = 603 from rfl, ht.1 603 (by decide), g4.1]
    exact nI_le (Nat.le_refl _) (by omega)
  have e1 : fX8_kindOf N (nI (L + 1)) ca = some (0, ca) := by
    unfold fX8_kindOf
    rw [q_cell_out (Or.inr (Or.inl (k603 ca za))), zbn_s]
  obtain ⟨cb, hcb⟩ : ∃ cb, cb = zsc ca 304 0 := ⟨_, rfl⟩
  have zb : zeq [303, 304, 305] [] c cb := by rw [hcb]; exact zeq_trans za (zeq_c (by decide))
  have e2 : fX8_placeOf N (nI (L + 1)) cb = some (cb.1 403, cb) := by
    unfold fX8_placeOf
    rw [q_cell_out (Or.inr (Or.inl (k603 cb zb))), zbn_s]
  have f3 : ca.1 303 = nI (L + 1) := by rw [hca]; exact zsc_at
  have f4 : cb.1 304 = 0 := by rw [hcb]; exact zsc_at
  refine ⟨zsc cb 305 (cb.1 403), ?_, zeq_trans zb (zeq_c (by decide)), ?_⟩
  · unfold fX3_step
    rw [g6, nI_1, ← hca, e1, zbn_s, f3, ← hcb, e2, zbn_s, f4, if_neg (by decide)]
  · rw [hcb]
    exact (zsc_ne (by decide)).trans ((zsc_ne (by decide)).trans f3)
set_option maxHeartbeats 1000000 in
theorem stepEnd {N n b L i n0 s0 n1 n3 nb nl ln : Nat} {T : Nat → Nat} {lc : List (Int32 × Int32)} {c m : zS} (hx : zCx T n L N) (h : zEN T n b L i n0 s0 n1 n3 nb nl lc c m) (h0 : (zw T n i).1 = 0) (hiL : i < L) (h19 : m.1 3319 = nI ln) : ∃ c' m', fX10_next N (zsc (zsc m 3318 ((m.1 3318) + 1)) 3319 ((m.1 3319) + 1)) = some ((), m') ∧ zGr b c m c' m' ∧ zPM T n (i + 1) m' ∧ c'.2.1 = c.2.1 ∧ m'.1 3319 = nI (ln + 1) ∧ (((zw T n (i + 1)).1 ≠ 24 ∧ fX3_step N c = some (some (), c') ∧ zEN T n b L (i + 1) n0 s0 n1 n3 nb nl lc c' m') ∨ ((zw T n (i + 1)).1 = 24 ∧ fX3_step N c = some (none, c') ∧ c'.1 309 = (zw T n (i + 1)).2.1 ∧ c'.1 310 = nI (zw T n (i + 1)).2.2.1)) := by
  obtain ⟨h1, hi, h2, h3, ⟨h4, h4'⟩, h5, h6, h7, ⟨l1, l2⟩, h8⟩ := h
  obtain ⟨x1, x2, x3, x4, x5, x6⟩ := id hx
  have hadv := zw_adv x1 x2 hiL
  have hb := h1.1
  have hbb := zb_lt hb
  have hend : (zw T n i).2.2.2 = (zw T n i).2.2.1 + 1 := by
    have hlst := x2 i hiL
    rcases cx_w hx hi with ⟨-, -, -, hh⟩ | ⟨z, -⟩ | ⟨-, -, -, hh⟩
    · rcases hh with hh | hh
      · exact absurd (Or.inr hh.1) hlst
      · exact hh.2
    · omega
    · rcases hh with ⟨z, -⟩ | ⟨z, -⟩ | ⟨z, -⟩ | ⟨z, -⟩ | ⟨z, -⟩ | ⟨z, -⟩ | ⟨z, -⟩
      all_goals omega
  have e18 : m.1 3318 = nI (zw T n i).2.2.1 := (h2.2.1.2.2.1 (by omega)).trans (by rw [if_pos h0])
  obtain ⟨m0, hm0⟩ : ∃ m0, m0 = zsc (zsc m 3318 (nI (zw T n i).2.2.2)) 3319 (nI (ln + 1)) := ⟨_, rfl⟩
  have zm0 : zeq [3318, 3319] [] m m0 := by rw [hm0]; exact zeq_trans (zeq_c (by decide)) (zeq_c (by decide))
  have k18 : m0.1 3318 = nI (zw T n i).2.2.2 := by rw [hm0]; exact (zsc_ne (by decide)).trans zsc_at
  have k19 : m0.1 3319 = nI (ln + 1) := by rw [hm0]; exact zsc_at
  obtain ⟨m3, e1, e2, e3⟩ := q_next (N := N) x1 x2 (by omega) hiL (zTx_keep h2.1 zm0 (by decide) List.not_mem_nil) k18 ((zm0.1 3320 (by decide)).trans h2.2.2)
  have zm : zeq [3311, 3315, 3316, 3317, 3318, 3319] [48] m m3 := zeq_trans (zeq_mono zm0 (by decide) (fun _ h => absurd h List.not_mem_nil)) (zeq_mono e3 (by decide) (by decide))
  have fm : zFM m m3 := zFM_eq zm (by decide) (by simp)
  have ma : ∀ a, a ≠ 48 → m3.2.1 a = m.2.1 a := fun a q2 => zm.2.1 a (by simp [q2])
  have mkk : ∀ kk, kk ∉ [3311, 3315, 3316, 3317, 3318, 3319] → m3.1 kk = m.1 kk := fun kk q2 => zm.1 kk q2
  obtain ⟨c1, d1, d2, d3⟩ := s3_step (N := N) h1 hiL x4
  have zc1 : zeq (zKC b) (zAC b) c c1 := zeq_mono d1 (fun kk hk => by unfold zKC; simp only [List.mem_cons, List.not_mem_nil, or_false] at hk ⊢; omega) (fun _ h => absurd h List.not_mem_nil)
  have nk : ∀ kk, 700 ≤ kk → c1.1 kk = c.1 kk := fun kk hk => d1.1 kk (by simp only [List.mem_cons, List.not_mem_nil, or_false]; omega)
  have ar : ∀ a, c1.2.1 a = c.2.1 a := fun a => d1.2.1 a List.not_mem_nil
  refine ⟨c1, m3, ?_, ⟨zc1, fm⟩, e2, funext ar, (e3.1 3319 (by decide)).trans k19, ?_⟩
  · rw [e18, h19, nI_1, nI_1, ← hend, ← hm0, e1]
  rcases d3 with ⟨d4, d5⟩ | ⟨d4, d5, d6, d7⟩
  · obtain ⟨⟨o1, o2, o3, o4⟩, ⟨p1, p2, p3, p4⟩, ⟨q1, q2, q3⟩⟩ := h8
    refine Or.inl ⟨d4, d5, (d2 d4), by omega, e2, zPN_keep h3 (nk _ (by omega)) (by rw [ma 36 (by decide)]) (nk _ (by omega)) (ar _) (ar _) (ma 40 (by decide)) (ma 41 (by decide)), ⟨by omega, by omega⟩, zIC_keep h5 (nk _ (by omega)) (ar _), zIM_keep h6 (by rw [ma 36 (by decide)]) (ma 39 (by decide)), (mkk 3324 (by decide)).trans h7, ⟨by omega, by omega⟩, ⟨o1, (nk _ (by omega)).trans o2, by rw [ma 36 (by decide)]; exact o3, fun k j hk hj => by rw [ar, ma 37 (by decide)]; exact o4 k j hk hj⟩, ⟨p1, (nk _ (by omega)).trans p2, by rw [ma 36 (by decide)]; exact p3, fun k j hk hj => by rw [ar, ma 38 (by decide)]; exact p4 k j hk hj⟩, ⟨q1, (mkk 3312 (by decide)).trans q2, fun k hk => ?_⟩⟩
    rw [ar, ar, ma 49 (by decide), ma 42 (by decide)]
    exact q3 k hk
  · exact Or.inr ⟨d4, d5, d6, d7⟩
noncomputable def zRK (N M : Nat) (m : zS) : Option ((Int32 × zS) ⊕ zS) := zbn (fX10_readLine N m) (fun x9 s10 => if x9 = 0 then fX10_read_J82 N (fX10_read_L52 N M) s10 else if (s10.1 3303) ≤ (s10.1 3318) then fX10_read_J82 N (fX10_read_L52 N M) s10 else fX10_read_L52 N M 1 (zsc (zsc s10 3318 ((s10.1 3318) + 1)) 3319 ((s10.1 3319) + 1)))
theorem L52_1 {N M : Nat} {s : zS} : fX10_read_L52 N (M + 1) 1 s = zbn (fX10_next N s) (fun _ s7 => zRK N M s7) := by
  show fX10_read_L52S N (fX10_read_L52 N M) 1 s = _
  unfold fX10_read_L52S
  rw [if_neg (show ¬ (1 : Int32) = 0 by decide)]
  rfl
theorem L52_0 {N M : Nat} {s : zS} : fX10_read_L52 N (M + 1) 0 s = some (.inr s) := by
  show fX10_read_L52S N (fX10_read_L52 N M) 0 s = _
  unfold fX10_read_L52S
  rw [if_pos rfl]
theorem J82_s {N M : Nat} {s : zS} : fX10_read_J82 N (fX10_read_L52 N (M + 1)) s = some (.inr (zsc (zsc s 3318 ((s.1 3318) + 1)) 3319 ((s.1 3319) + 1))) := by
  unfold fX10_read_J82
  rw [L52_0]
theorem L9_1 {N Mf ln L i : Nat} {c : zS} (h603 : c.1 603 = nI (L + 1)) (h303 : c.1 303 = nI i) (hi : i ≤ L) (hL : L ≤ 3000) (hln : ln ≤ 3000) : fX9_read_L9 N (Mf + 1) (nI ln) c = zbt (zCL N ln N 0 c) (fun sx => some (.inl (none, sx))) (fun _ s11 => fX9_read_L9 N Mf (nI (ln + 1)) s11) := by
  show fX9_read_L9S N (fX9_read_L9 N Mf) (nI ln) c = _
  unfold fX9_read_L9S fX3_hasLine fX8_size
  rw [if_neg (show ¬ (3000 : Int32) < nI ln from nI_nlt (a := 3000) hln (by decide)), zbn_s, h603, h303, if_neg (nI_ge (by omega) (by omega)), zbn_s, if_neg (show ¬ (1 : Int32) = 0 by decide), nI_1]
  unfold zCL fX3_readLabels
  rw [show (0 : Int32) = nI 0 from rfl]
  cases zbl (fX3_readLabels_L2 N (nI ln) N (nI 0) c) (fun x => some x) (fun s37 => some (some (), s37)) with
  | none => rfl
  | some q =>
    obtain ⟨o, s⟩ := q
    cases o <;> rfl
theorem L9_0 {N Mf ln L : Nat} {c : zS} (h603 : c.1 603 = nI (L + 1)) (h303 : c.1 303 = nI (L + 1)) (hL : L ≤ 3000) (hln : ln ≤ 3000) : fX9_read_L9 N (Mf + 1) (nI ln) c = some (.inr c) := by
  show fX9_read_L9S N (fX9_read_L9 N Mf) (nI ln) c = _
  unfold fX9_read_L9S fX3_hasLine fX8_size
  rw [if_neg (show ¬ (3000 : Int32) < nI ln from nI_nlt (a := 3000) hln (by decide)), zbn_s, h603, h303, if_pos (nI_le (Nat.le_refl _) (by omega)), zbn_s, if_pos rfl]
def zFA (T : Nat → Nat) (n b L : Nat) (c m c' m' : zS) : Prop := ∃ (n0 n1 n3 nb nl W : Nat) (lc : List (Int32 × Int32)) (c0 m0 : zS), zEN T n b L L n0 n0 n1 n3 nb nl lc c0 m0 ∧ zWB W b n0 n1 lc.length n3 c0 ∧ W ≤ 5 * n + 2 ∧ zeq [303, 304, 305] [] c0 c' ∧ zeq [3318, 3319] [] m0 m' ∧ zGr b c m c' m'
theorem zGr_8 {b : Nat} {c m : zS} {x y : Int32} : zGr b c m c (zsc (zsc m 3318 x) 3319 y) := ⟨zeq_refl _ _ _, zFM_eq (K := [3318, 3319]) (A := []) (zeq_trans (zeq_c (by decide)) (zeq_c (by decide))) (by decide) (by simp)⟩
theorem zFF_8 {fn fp : Nat} {c m : zS} {x y : Int32} (h : zFF fn fp c m) : zFF fn fp c (zsc (zsc m 3318 x) 3319 y) := by
  obtain ⟨h1, h2, h3, h4, h5, h6⟩ := h
  exact ⟨h1, h2, h3, h4, (zsc_ne (by decide)).trans ((zsc_ne (by decide)).trans h5), (zsc_ne (by decide)).trans ((zsc_ne (by decide)).trans h6)⟩
set_option maxHeartbeats 1000000 in
theorem linesOne {N n b L d i n0 n1 n3 nb nl W ln Mf M : Nat} {T : Nat → Nat} {lc : List (Int32 × Int32)} {c m : zS} (hx : zCx T n L N) (hd : L ≤ i + d) (hMf : d + 1 < Mf) (hM : d + 1 < M) (h : zEN T n b L i n0 n0 n1 n3 nb nl lc c m) (hw : zWB W b n0 n1 lc.length n3 c) (hWb : W ≤ 5 * (zw T n i).2.2.1) (h19 : m.1 3319 = nI ln) (h24 : (zw T n i).1 ≠ 24) (hln : ln ≤ i) (ih : ∀ i', i ≤ i' → i' < L → ∀ (n0 n1 n3 nb nl W : Nat) (lc : List (Int32 × Int32)) (c m : zS) (Mf M : Nat), d < Mf → d < M → zEN T n b L (i' + 1) n0 n0 n1 n3 nb nl lc c m → zWB W b n0 n1 lc.length n3 c → W ≤ 5 * (zw T n (i' + 1)).2.2.1 → m.1 3319 = nI (ln + 1) → (zw T n (i' + 1)).1 ≠ 24 → (∃ c' m', fX9_read_L9 N Mf (nI (ln + 1)) c = some (.inr c') ∧ zRK N M m = some (.inr m') ∧ zFA T n b L c m c' m') ∨ (∃ (c' m' : zS) (fn fp : Nat), fX9_read_L9 N Mf (nI (ln + 1)) c = some (.inl (none, c')) ∧ zRK N M m = some (.inr m') ∧ zFF fn fp c' m' ∧ zGr b c m c' m')) : (∃ c' m', fX9_read_L9 N Mf (nI ln) c = some (.inr c') ∧ zRK N M m = some (.inr m') ∧ zFA T n b L c m c' m') ∨ (∃ (c' m' : zS) (fn fp : Nat), fX9_read_L9 N Mf (nI ln) c = some (.inl (none, c')) ∧ zRK N M m = some (.inr m') ∧ zFF fn fp c' m' ∧ zGr b c m c' m') := by
  obtain ⟨x1, x2, x3, x4, x5, x6⟩ := id hx
  have no1 : ¬ (1 : Int32) = 0 := by decide
  have hi := h.2.1
  have hb := h.1.1
  obtain ⟨Mf, rfl⟩ : ∃ w, Mf = w + 1 := ⟨Mf - 1, by omega⟩
  obtain ⟨M, rfl⟩ : ∃ w, M = w + 1 := ⟨M - 1, by omega⟩
  rw [L9_1 (L := L) (i := i) h.1.2.2.2.2.1.1 h.1.2.2.2.2.2.2.1 hi (by omega) (by omega)]
  have hRK : zRK N (M + 1) m = zbn (zRL (fX10_readLine_L2 N N 1 m)) (fun x9 s10 => if x9 = 0 then fX10_read_J82 N (fX10_read_L52 N (M + 1)) s10 else if (s10.1 3303) ≤ (s10.1 3318) then fX10_read_J82 N (fX10_read_L52 N (M + 1)) s10 else fX10_read_L52 N (M + 1) 1 (zsc (zsc s10 3318 ((s10.1 3318) + 1)) 3319 ((s10.1 3319) + 1))) := rfl
  rw [hRK]
  rcases lineL (N := N) (b := b) (ln := ln) hx L i n0 n1 n3 nb nl W lc c m N N 0 (by omega) (by omega) (by omega) h hw hWb h19 h24 (Nat.zero_le _) with P | P
  case inr =>
    obtain ⟨c', m', fn, fp, p1, p2, p3, p4⟩ := P
    right
    exact ⟨c', _, fn, fp, by rw [p1, zbt_n], by rw [p2, zbn_s, if_pos rfl, J82_s], zFF_8 p3, zGr_trans p4 zGr_8⟩
  obtain ⟨i', y0, y1, y3, yb, yl, yW, ylc, c0, m', q1, q2, q3, q4, q5, q6, q7, q8, q9⟩ := P
  have hi' := q3.2.1
  have e18 : m'.1 3318 = nI (zw T n i').2.2.1 := (q3.2.2.1.2.1.2.2.1 (by omega)).trans (by rw [if_pos q2])
  have e03 : m'.1 3303 = nI n := q3.2.2.1.1.1
  rw [q7, q8, zbn_s, if_neg no1, e03, e18]
  by_cases eL : i' = L
  · subst eL
    have hpl : (zw T n i').2.2.1 = n := by
      rcases x3 with z | z
      · exact absurd z (by have : (zwd T n (zps T n i')).1 = 0 := q2; omega)
      · exact z
    left
    obtain ⟨c1, r1, r2, r3⟩ := s3_out (N := N) q3.1 x4
    obtain ⟨Mf, rfl⟩ : ∃ w, Mf = w + 1 := ⟨Mf - 1, by omega⟩
    refine ⟨c1, zsc (zsc m' 3318 ((m'.1 3318) + 1)) 3319 ((m'.1 3319) + 1), ?_, ?_, y0, y1, y3, yb, yl, yW, ylc, c0, m', q3, q4, by omega, r2, ?_, ?_⟩
    · rw [r1, zbt_s, L9_0 (L := i') ((r2.1 603 (by decide)).trans q3.1.2.2.2.2.1.1) r3 (by omega) (by omega)]
    · rw [hpl, if_pos (nI_le (Nat.le_refl _) (by omega)), J82_s]
    · exact zeq_trans (zeq_c (by decide)) (zeq_c (by decide))
    · exact zGr_trans q9 (zGr_trans ⟨zeq_mono r2 (fun kk hk => by unfold zKC; simp only [List.mem_cons, List.not_mem_nil, or_false] at hk ⊢; omega) (fun _ h => absurd h List.not_mem_nil), zFM_refl _⟩ zGr_8)
  · have hiL : i' < L := by omega
    have hadv := zw_adv x1 x2 hiL
    have hpn : (zw T n i').2.2.1 < n := by
      have hlst := x2 i' hiL
      apply Classical.byContradiction
      intro z
      exact hlst (Or.inr (by show (zw T n i').2.2.1 = n; omega))
    rw [if_neg (nI_ge hpn (by omega)), L52_1]
    obtain ⟨c1, m2, s1, s2, s3, s4, s5, s6⟩ := stepEnd (N := N) hx q3 q2 hiL q6
    rw [e18] at s1
    rw [s1, zbn_s]
    rcases s6 with ⟨d4, d5, d6⟩ | ⟨d4, d5, d6, d7⟩
    · rw [d5, zbt_s]
      have W1 : zWB yW b y0 y1 ylc.length y3 c1 := zWB_c2 q4 (fun a _ => by rw [s4]) (fun y _ => by rw [s4])
      rcases ih i' q1 hiL y0 y1 y3 yb yl yW ylc c1 m2 Mf M (by omega) (by omega) d6 W1 (by omega) s5 d4 with R | R
      · left
        obtain ⟨c2, m3, a1, a2, b0, b1, b3, bb, bl, bW, blc, bc, bm, k1, k2, k3, k4, k5, k6⟩ := R
        exact ⟨c2, m3, a1, a2, b0, b1, b3, bb, bl, bW, blc, bc, bm, k1, k2, k3, k4, k5, zGr_trans q9 (zGr_trans s2 k6)⟩
      · right
        obtain ⟨c2, m3, fn, fp, a1, a2, a3, a4⟩ := R
        exact ⟨c2, m3, fn, fp, a1, a2, a3, zGr_trans q9 (zGr_trans s2 a4)⟩
    · right
      rw [d5, zbt_n]
      obtain ⟨f, fa, fb, fc⟩ := cx_bad hx (show i' + 1 ≤ L by omega) d4
      obtain ⟨M, rfl⟩ : ∃ w, M = w + 1 := ⟨M - 1, by omega⟩
      have hrl : fX10_readLine N m2 = some (0, zsc (zsc m2 3320 (if (zw T n (i' + 1)).1 = 24 then (zw T n (i' + 1)).2.1 else nI 5)) 3321 (nI (zw T n (i' + 1)).2.2.1)) := by
        have h9 := RL_x (N := N) (M := N - 1) s3 (cx_w hx (show i' + 1 ≤ L by omega)) x5 (by omega)
        rw [show N - 1 + 1 = N by omega] at h9
        unfold fX10_readLine
        rw [h9, zbl_l]
      rw [if_pos d4] at hrl
      obtain ⟨mm, hmm⟩ : ∃ mm, mm = zsc (zsc m2 3320 (zw T n (i' + 1)).2.1) 3321 (nI (zw T n (i' + 1)).2.2.1) := ⟨_, rfl⟩
      have gmm : zGr b c1 m2 c1 mm := by rw [hmm]; exact zGr_m hb
      have fmm : zFF f (zw T n (i' + 1)).2.2.1 c1 mm := by
        rw [hmm]
        exact ⟨fa, by omega, by rw [d6, fc], d7, ((zsc_ne (by decide)).trans zsc_at).trans fc, zsc_at⟩
      rw [← hmm] at hrl
      refine ⟨c1, zsc (zsc mm 3318 ((mm.1 3318) + 1)) 3319 ((mm.1 3319) + 1), f, (zw T n (i' + 1)).2.2.1, rfl, ?_, zFF_8 fmm, zGr_trans q9 (zGr_trans s2 (zGr_trans gmm zGr_8))⟩
      unfold zRK
      rw [hrl, zbn_s, if_pos rfl, J82_s]
set_option maxHeartbeats 1000000 in
theorem linesL {N n b L : Nat} {T : Nat → Nat} (hx : zCx T n L N) : ∀ (d i n0 n1 n3 nb nl W ln : Nat) (lc : List (Int32 × Int32)) (c m : zS) (Mf M : Nat), L ≤ i + d → d + 1 < Mf → d + 1 < M → zEN T n b L i n0 n0 n1 n3 nb nl lc c m → zWB W b n0 n1 lc.length n3 c → W ≤ 5 * (zw T n i).2.2.1 → m.1 3319 = nI ln → (zw T n i).1 ≠ 24 → ln ≤ i → (∃ c' m', fX9_read_L9 N Mf (nI ln) c = some (.inr c') ∧ zRK N M m = some (.inr m') ∧ zFA T n b L c m c' m') ∨ (∃ (c' m' : zS) (fn fp : Nat), fX9_read_L9 N Mf (nI ln) c = some (.inl (none, c')) ∧ zRK N M m = some (.inr m') ∧ zFF fn fp c' m' ∧ zGr b c m c' m') := by
  obtain ⟨x1, x2, x3, x4, x5, x6⟩ := id hx
  have no1 : ¬ (1 : Int32) = 0 := by decide
  intro d
  induction d with
  | zero =>
    intro i n0 n1 n3 nb nl W ln lc c m Mf M hd hMf hM h hw hWb h19 h24 hln
    exact linesOne hx hd hMf hM h hw hWb h19 h24 hln (fun i' hi' hi2 => by omega)
  | succ d ih =>
    intro i n0 n1 n3 nb nl W ln lc c m Mf M hd hMf hM h hw hWb h19 h24 hln
    exact linesOne hx hd hMf hM h hw hWb h19 h24 hln (fun i' hi' hi2 n0 n1 n3 nb nl W lc c m Mf M q1 q2 q3 q4 q5 q6 q7 => ih (i' + 1) n0 n1 n3 nb nl W (ln + 1) lc c m Mf M (by omega) (by omega) (by omega) q3 q4 q5 q6 q7 (by omega))
