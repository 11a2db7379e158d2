set_option maxHeartbeats 1000000 in
theorem addE {N n b L i n3 nb F k d op : Nat} {T : Nat → Nat} {lc lm : List (Int32 × Int32)} {τ : List Nat} {c m : zS} {u v : Int32} (hx : zCx T n L N) (h : zEXP T n b L i n3 nb lc lm F k d op τ c m) (hl : lc.length + 1 ≤ i) : ∃ c', fX0_addItem N b u v c = some ((), c') ∧ zEXP T n b L i n3 nb (lc ++ [(u, v)]) lm F k d op τ c' m ∧ zFx2 b n3 nb c m c' m ∧ c'.2.1 (b + 8) = c.2.1 (b + 8) := by
  obtain ⟨h1, hi, h2, h3, h4, h5, h6, h7, ⟨f1, f2, f3, f4, f5⟩, h9, h10, l1, l2, l3, l4, l5⟩ := h
  obtain ⟨x1, x2, x3, x4, x5, x6⟩ := id hx
  have hb := h1.1
  have hbb := zb_lt hb
  obtain ⟨c2, g1, g2, g3⟩ := q_addItem (N := N) (u := u) (v := v) hb h1.2.2.1 h5 (by omega) (by omega)
  have ar2 : ∀ a, a ≠ b + 6 → c2.2.1 a = c.2.1 a := fun a ha => g3.2.1 a (by simp [ha])
  have nk2 : ∀ kk, kk ≠ 100 * (b + 5) + 3 → c2.1 kk = c.1 kk := fun kk hk => g3.1 kk (by simp [hk])
  have zc2 : zeq (zKX b) [b + 6, b + 8, b + 9] c c2 := zeq_mono g3 (fun kk hk => by rw [List.mem_singleton.mp hk]; unfold zKX; simp) (fun a ha => by rw [List.mem_singleton.mp ha]; simp)
  have pc2 : zPC T n b L i c2 := zPC_keep h1 (zeq_mono g3 (fun kk hk => by rw [List.mem_singleton.mp hk]; unfold zKC; simp) (fun a ha => by rw [List.mem_singleton.mp ha]; unfold zAC; simp)) (nk2 _ (by omega)) (nk2 _ (by omega)) (nk2 _ (by omega)) (nk2 _ (by omega)) (nk2 _ (by omega))
  refine ⟨c2, g1, ⟨pc2, hi, h2, zPN_keep h3 (nk2 _ (by omega)) rfl (nk2 _ (by omega)) (ar2 _ (by omega)) (ar2 _ (by omega)) rfl rfl, h4, g2, h6, h7, ⟨(nk2 _ (by omega)).trans f1, (nk2 _ (by omega)).trans f2, f3, f4, f5⟩, h9, h10, l1, ?_, l3, l4, l5⟩, ⟨zc2, fun x _ => by rw [ar2 _ (by omega)], fun x _ => by rw [ar2 _ (by omega)], zeq_refl _ _ _, zFM_refl _, fun _ _ _ => rfl⟩, ar2 _ (by omega)⟩
  rw [List.length_append, List.length_singleton]
  exact hl
set_option maxHeartbeats 1000000 in
theorem pushE {N n b L i n3 nb F k d op d' op' x : Nat} {T : Nat → Nat} {lc : List (Int32 × Int32)} {τ : List Nat} {c m m2 : zS} (hx : zCx T n L N) (h : zEXP T n b L i n3 nb lc lc F k d op τ c m) (h0 : (zw T n i).1 ≠ 0) (h24 : (zw T n i).1 ≠ 24) (hx100 : x < 100) (hz : zeq [3323, 3326, 3327] [43] m m2) (hsg : m2.1 3323 = nI (τ.length + 1)) (hst : m2.2.1 43 = upd (m.2.1 43) τ.length (nI x)) (hd : m2.1 3326 = nI d') (hop : m2.1 3327 = nI op') (hd' : d' ≤ 22) (hop2 : op' ≤ i + 1) : ∃ c' m', fX10_next N m2 = some ((), m') ∧ zFx2 b n3 nb c m c' m' ∧ zPM T n (i + 1) m' ∧ m'.1 3327 = nI op' ∧ (((zw T n (i + 1)).1 ≠ 24 ∧ fX3_step N c = some (some (), c') ∧ zEXP T n b L (i + 1) n3 nb lc lc F k d' op' (x :: τ) c' m') ∨ ((zw T n (i + 1)).1 = 24 ∧ fX3_step N c = some (none, c') ∧ c'.1 309 = (zw T n (i + 1)).2.1 ∧ c'.1 310 = nI (zw T n (i + 1)).2.2.1)) := by
  obtain ⟨h1, hi, h2, h3, h4, h5, h6, h7, ⟨f1, f2, f3, f4, f5⟩, h9, h10, l1, l2, l3, l4, l5⟩ := h
  have hiL : i < L := cx_lt hx hi h0 h24
  obtain ⟨x1, x2, x3, x4, x5, x6⟩ := id hx
  have hadv := zw_adv x1 x2 hiL
  have hb := h1.1
  have hbb := zb_lt hb
  have hx2 : zTx 35 3303 T n m2 := zTx_keep h2.1 hz (by decide) (by decide)
  obtain ⟨m3, n1, n2, n4⟩ := q_next (N := N) x1 x2 (by omega) hiL hx2 ((hz.1 3318 (by decide)).trans (zPM_to h2 h24 h0)) ((hz.1 3320 (by decide)).trans h2.2.2)
  have zm : zeq zKY [36, 39, 40, 41, 43, 48] m m3 := zeq_trans (zeq_mono hz (by decide) (by decide)) (zeq_mono n4 (by decide) (by decide))
  have fm : zFM m m3 := zFM_trans (zFM_eq hz (by decide) (by simp)) (zFM_eq n4 (by decide) (by simp))
  have ma : ∀ a, a ≠ 43 → a ≠ 48 → m3.2.1 a = m.2.1 a := fun a q1 q2 => (n4.2.1 a (by simp [q2])).trans (hz.2.1 a (by simp [q1]))
  have mk : ∀ kk, kk ∉ [3323, 3326, 3327] → kk ∉ [3311, 3315, 3316, 3317, 3318] → m3.1 kk = m.1 kk := fun kk q1 q2 => (n4.1 kk q2).trans (hz.1 kk q1)
  obtain ⟨c1, d1, d2, d3⟩ := s3_step (N := N) h1 hiL x4
  have zc1 : zeq (zKX b) [b + 6, b + 8, b + 9] c c1 := zeq_mono d1 (fun kk hk => by unfold zKX; simp only [List.mem_cons, List.not_mem_nil, or_false] at hk ⊢; omega) (fun _ h => absurd h List.not_mem_nil)
  have nk : ∀ kk, 700 ≤ kk → c1.1 kk = c.1 kk := fun kk hk => d1.1 kk (by simp only [List.mem_cons, List.not_mem_nil, or_false]; omega)
  have ar : ∀ a, c1.2.1 a = c.2.1 a := fun a => d1.2.1 a List.not_mem_nil
  refine ⟨c1, m3, n1, ⟨zc1, fun x _ => by rw [ar], fun x _ => by rw [ar], zm, fm, fun j _ _ => by rw [ma 36 (by decide) (by decide)]⟩, n2, (n4.1 3327 (by decide)).trans hop, ?_⟩
  rcases d3 with ⟨d4, d5⟩ | ⟨d4, d5, d6, d7⟩
  · refine Or.inl ⟨d4, d5, (d2 d4), by omega, n2, zPN_keep h3 (nk _ (by omega)) (by rw [ma 36 (by decide) (by decide)]) (nk _ (by omega)) (ar _) (ar _) (ma 40 (by decide) (by decide)) (ma 41 (by decide) (by decide)), by omega, zIC_keep h5 (nk _ (by omega)) (ar _), zIM_keep h6 (by rw [ma 36 (by decide) (by decide)]) (ma 39 (by decide) (by decide)), ⟨(n4.1 3323 (by decide)).trans hsg, ?_⟩, ⟨(d1.1 307 (by decide)).trans f1, (d1.1 308 (by decide)).trans f2, (mk 3324 (by decide) (by decide)).trans f3, (mk 3325 (by decide) (by decide)).trans f4, f5⟩, (n4.1 3326 (by decide)).trans hd, (n4.1 3327 (by decide)).trans hop, ?_, by omega, by omega, hop2, hd'⟩
    · rw [n4.2.1 43 (by decide), hst]
      exact ⟨pk_us, zTau_upd τ h7.2 (Nat.le_refl _)⟩
    · show lc.length + (τ.length + 1) ≤ i + 1
      omega
  · exact Or.inr ⟨d4, d5, d6, d7⟩
def zPRO (T : Nat → Nat) (n b L N f : Nat) : Prop := ∀ (d i n3 nb : Nat) (lc : List (Int32 × Int32)) (F k op : Nat) (U rest : List Nat) (c m : zS), zEXP T n b L i n3 nb lc lc F k d op (U ++ rest) c m → (zw T n i).1 ≠ 24 → (∀ u, u ∈ U → u = 10 ∨ u = 11) → (∀ x r, rest = x :: r → x ≠ 10 ∧ x ≠ 11 ∧ x < 100) → U.length ≤ d → d ≤ 21 → 9 * (21 - d) + 1 ≤ f → zSo T n b L N i n3 nb lc F k d op U rest c m ((fX3_rec N f).1 (nI d) c) ∨ zKo N b n3 nb (L - i + 1) c m ((fX3_rec N f).1 (nI d) c)
set_option maxHeartbeats 1000000 in
theorem zKo_up {N b n3 nb J a : Nat} {c m c1 m1 : zS} {oc oc1 : Option (Option Unit × zS)} (h : zKo N b n3 nb J c1 m1 oc1) (he : ∀ c', oc1 = some (none, c') → oc = some (none, c')) (hxl : ∀ M, zXL N (M + a) 1 m = zXL N M 1 m1) (hf : zFx2 b n3 nb c m c1 m1) : zKo N b n3 nb (J + a) c m oc := by
  obtain ⟨c', m', fn, fp, j, h1, h2, h3, h4, h5⟩ := h
  refine ⟨c', m', fn, fp, j + a, he c' h1, by omega, fun M => ?_, h4, zFx2_trans hf h5 (Nat.le_refl _) (Nat.le_refl _)⟩
  rw [← Nat.add_assoc, hxl, h3]
set_option maxHeartbeats 1000000 in
theorem RO_unary {N n b L i n3 nb F k d op f : Nat} {T : Nat → Nat} {lc : List (Int32 × Int32)} {U rest : List Nat} {c m : zS} {rc1 : Int32 → Int32 → zS → Option (Option Unit × zS)} (hx : zCx T n L N) (ih : zPRO T n b L N f) (hf : 9 * (21 - d) + 1 ≤ f + 1) (h : zEXP T n b L i n3 nb lc lc F k d op (U ++ rest) c m) (h24 : (zw T n i).1 ≠ 24) (hkd : (zw T n i).1 = 13 ∨ (zw T n i).1 = 23) (hd : d ≤ 20) (hchk : fX3_checkOne N (nI d) c = some (some (), c)) (hwan : fX10_wanted N m = fX10_wanted_J105 N 1 m) (hU : ∀ u, u ∈ U → u = 10 ∨ u = 11) (hr : ∀ x r, rest = x :: r → x ≠ 10 ∧ x ≠ 11 ∧ x < 100) (hUd : U.length ≤ d) : zSo T n b L N i n3 nb lc F k d op U rest c m (fX3_readOneS N (fX3_rec N f).1 rc1 (nI d) c) ∨ zKo N b n3 nb (L - i + 1) c m (fX3_readOneS N (fX3_rec N f).1 rc1 (nI d) c) := by
  have h' := h
  obtain ⟨h1, hi, h2, h3, h4, h5, h6, h7, ⟨f1, f2, f3, f4, f5⟩, h9, h10, l1, l2, l3, l4, l5⟩ := h
  have hW := cx_w hx hi
  have hlt := zw_lt hW
  have hiL : i < L := cx_lt hx hi (by omega) h24
  have hadv := zw_adv hx.1 hx.2.1 hiL
  obtain ⟨x1, x2, x3, x4, x5, x6⟩ := id hx
  have hb := h1.1
  have g7 := h1.2.2.2.2.2.2.2.1
  have g8 := h1.2.2.2.2.2.2.2.2
  obtain ⟨u, hu⟩ : ∃ u, u = zso2 (zw T n i).1 := ⟨_, rfl⟩
  have hu1 : u = 10 ∨ u = 11 := by
    rcases hkd with hk | hk <;> rw [hu, hk] <;> decide
  have hval0 : (zw T n i).2.1 = 0 := by
    rcases hW with ⟨g1, -⟩ | ⟨g1, -⟩ | ⟨-, -, -, g4⟩
    · omega
    · omega
    · rcases g4 with ⟨q, -⟩ | ⟨q, q2⟩ | ⟨q, -⟩ | ⟨q, q2⟩ | ⟨q, q2, q3⟩ | ⟨q, -⟩ | ⟨q, q2, q3, -⟩
      · omega
      · omega
      · omega
      · omega
      · omega
      · omega
      · exact q3
  have hcls : fX3_readOneS N (fX3_rec N f).1 rc1 (nI d) c = zbt (fX3_countItem N c) (fun sx => some (none, sx)) (fun x4 s5 => zbn (fX3_sortAhead N (s5.1 304) s5) (fun x7 s8 => if (s8.1 304) = 1 then zbt (fX3_nameNumber N s8) (fun sx => some (none, sx)) (fun x30 s31 => fX3_readOne_J75 N (fX3_rec N f).1 rc1 (nI d) x7 x30 s31) else zbn (fX8_valueOf N (s8.1 303) s8) (fun x10 s11 => fX3_readOne_J75 N (fX3_rec N f).1 rc1 (nI d) x7 x10 s11))) := by
    unfold fX3_readOneS
    rw [hchk, zbt_s, g7, if_neg (show ¬ nI (zw T n i).1 = (9 : Int32) from fun z => by have := (nI_eq (b := 9) (by omega) (by decide)).mp z; omega)]
  have hmod : ∀ M, zXL N (M + 1) 1 m = zbn (zbn (fX10_tally N m) (fun x10 s11 => if x10 = 0 then some (0, s11) else if (s11.1 3316) = 45 then fX10_wanted_J215 N 10 (s11.1 3323) s11 else fX10_wanted_J215 N 11 (s11.1 3323) s11)) (fun x s => if x = 0 then some (.inl (0, s)) else if x = 2 then zXL N M 1 s else zXL N M 0 s) := by
    intro M
    rw [x_1, hwan]
    unfold fX10_wanted_J105
    rw [h9, if_pos (show nI d ≤ (20 : Int32) from nI_le (b := 20) hd (by decide)), q_sign_f (kx := 9) (x := 40) h2 hlt rfl (by omega) (by omega), zbn_s, if_pos rfl]
    rfl
  rcases q_count (N := N) f1 f2 (by omega) f5 with ⟨k1, k2⟩ | ⟨k1, k2⟩
  case inr =>
    rcases q_tally (N := N) h2 f3 f4 (by omega) f5 with ⟨t1, -⟩ | ⟨-, t2⟩
    · omega
    right
    refine ⟨zsc (zsc (zsc c 308 (nI (k + 1))) 309 8) 310 (c.1 305), _, 8, (zw T n i).2.2.1, 1, by rw [hcls, k2, zbt_n], by omega, fun M => by rw [hmod, t2, zbn_s, if_pos rfl, zbn_s, if_pos rfl], zFF_i (by omega) (by omega) rfl g8 (by rw [if_neg h24]) rfl, ?_⟩
    exact zFx2_trans z3_F (zFx2_trans (zRF_F (c := zsc c 308 (nI (k + 1))) (x := 8)) zMf_F (Nat.le_refl _) (Nat.le_refl _)) (Nat.le_refl _) (Nat.le_refl _)
  rcases q_tally (N := N) h2 f3 f4 (by omega) f5 with ⟨-, t2⟩ | ⟨t1, -⟩
  case inr => omega
  obtain ⟨c1, hc1⟩ : ∃ c1, c1 = zsc c 308 (nI (k + 1)) := ⟨_, rfl⟩
  obtain ⟨m1, hm1⟩ : ∃ m1, m1 = zsc (zsc m 3324 (nI (F + k + 1))) 3325 (nI (k + 1)) := ⟨_, rfl⟩
  rw [← hc1] at k2
  rw [← hm1] at t2
  have zm1 : zeq [3324, 3325] [] m m1 := by rw [hm1]; exact zeq_trans (zeq_c (by decide)) (zeq_c (by decide))
  have fr1 : zFx2 b n3 nb c m c1 m1 := by
    rw [hc1, hm1]
    exact zFx2_trans z3_F zt_F (Nat.le_refl _) (Nat.le_refl _)
  have E1 : zEXP T n b L i n3 nb lc lc F (k + 1) d op (U ++ rest) c1 m1 := by
    refine ⟨?_, hi, zPM_keep h2 zm1 (by decide) (by simp), ?_, h4, ?_, zIM_keep h6 (by rw [zm1.2.1 36 List.not_mem_nil]) (zm1.2.1 39 List.not_mem_nil), zSK_keep h7 (zm1.1 3323 (by decide)) (zm1.2.1 43 List.not_mem_nil), ?_, (zm1.1 3326 (by decide)).trans h9, (zm1.1 3327 (by decide)).trans h10, l1, l2, l3, l4, l5⟩
    · rw [hc1]; exact zPC_c h1 (by omega)
    · rw [hc1]
      exact zPN_c (zPN_keep h3 rfl (by rw [zm1.2.1 36 List.not_mem_nil]) rfl rfl rfl (zm1.2.1 40 List.not_mem_nil) (zm1.2.1 41 List.not_mem_nil)) (by omega) hb
    · rw [hc1]; exact zIC_c h5 (by omega) hb
    · rw [hc1, hm1]
      exact ⟨(zsc_ne (by decide)).trans f1, zsc_at, (zsc_ne (by decide)).trans zsc_at, zsc_at, by omega⟩
  have g74 : c1.1 304 = nI (zw T n i).1 := E1.1.2.2.2.2.2.2.2.1
  have g73 : c1.1 303 = nI i := E1.1.2.2.2.2.2.2.1
  have hval : fX8_valueOf N (nI i) c1 = some (0, c1) := by
    unfold fX8_valueOf
    rw [(zcell_w E1.1 i hi x4).2.2, hval0]
    rfl
  have hsg1 : m1.1 3323 = nI (U ++ rest).length := (zm1.1 3323 (by decide)).trans h7.1
  obtain ⟨m2, hm2⟩ : ∃ m2, m2 = zsc (zsc (zsr m1 43 (nI (U ++ rest).length) (nI u)) 3323 (nI ((U ++ rest).length + 1))) 3326 (nI (d + 1)) := ⟨_, rfl⟩
  have hJ : ∀ M, zXL N (M + 1) 1 m = zbn (zbn (fX10_next N m2) (fun _ s57 => some ((2 : Int32), s57))) (fun x s => if x = 0 then some (.inl (0, s)) else if x = 2 then zXL N M 1 s else zXL N M 0 s) := by
    intro M
    rw [hmod, t2, zbn_s, if_neg (show ¬ (1 : Int32) = 0 by decide)]
    have h16 : m1.1 3316 = nI (zsg (zw T n i).1) := E1.2.2.1.2.1.2.2.2.2.1 (by omega) (by omega)
    have gen : ∀ x : Int32, x = nI u → fX10_wanted_J215 N x (m1.1 3323) m1 = zbn (fX10_next N m2) (fun _ s57 => some ((2 : Int32), s57)) := by
      intro x hxu
      unfold fX10_wanted_J215
      rw [hsg1, hxu, if_pos (zga_l (by rfl) (show (U ++ rest).length < 2100 by omega) (by decide)), nI_1, (zm1.1 3326 (by decide)).trans h9, nI_1, ← hm2]
    rw [h16]
    rcases hkd with hk | hk
    · rw [hk, if_pos (show nI (zsg 13) = 45 from rfl), gen 10 (by rw [hu, hk]; rfl)]
    · rw [hk, if_neg (show ¬ nI (zsg 23) = 45 by decide), gen 11 (by rw [hu, hk]; rfl)]
  have hls : (U ++ rest).length ≤ 1000 := by omega
  obtain ⟨c2, m3, p1, p2, p3, p4, p5⟩ := pushE (N := N) (x := u) (d' := d + 1) (op' := op) (m2 := m2) hx E1 (by omega) h24 (by omega) (by rw [hm2]; exact zeq_trans (zeq_r (by decide)) (zeq_trans (zeq_c (by decide)) (zeq_c (by decide)))) (by rw [hm2]; exact (zsc_ne (by decide)).trans zsc_at) (by rw [hm2]; show (zsr m1 43 (nI (U ++ rest).length) (nI u)).2.1 43 = _; rw [zsr_same, nI_clamp (by omega)]) (by rw [hm2]; exact zsc_at) (by rw [hm2]; exact (zsc_ne (by decide)).trans ((zsc_ne (by decide)).trans E1.2.2.2.2.2.2.2.2.2.2.1)) (by omega) (by omega)
  have hXL : ∀ M, zXL N (M + 1) 1 m = zXL N M 1 m3 := by
    intro M
    rw [hJ, p1, zbn_s, zbn_s, if_neg (by decide), if_pos rfl]
  have hah : ∀ s, fX1_isAhead N (nI u) s = some (1, s) := by
    intro s
    rcases hu1 with hq | hq <;> rw [hq] <;> rfl
  have hfr12 := zFx2_trans fr1 p2 (Nat.le_refl _) (Nat.le_refl _)
  rw [hcls, k2, zbt_s, g74, q_ahd hlt, zbn_s, g74, if_neg (show ¬ nI (zw T n i).1 = (1 : Int32) from fun z => by have := (nI_eq (b := 1) (by omega) (by decide)).mp z; omega), g73, hval, zbn_s, ← hu]
  unfold fX3_readOne_J75
  rcases p5 with ⟨q1, q2, q3⟩ | ⟨q1, q2, q3, q4⟩
  · rw [q2, zbt_s, hah, zbn_s, if_neg (by decide), nI_1]
    rcases ih (d + 1) (i + 1) n3 nb lc F (k + 1) op (u :: U) rest c2 m3 q3 q1 (fun w hw => by
      rcases List.mem_cons.mp hw with e | e
      · rw [e]; exact hu1
      · exact hU w e) hr (by show U.length + 1 ≤ d + 1; omega) (by omega) (by omega) with S | K
    · obtain ⟨i', n3', nb', k', fl, el, c3, m4, s1, s2, s3, s4, s5, s6, s7, s8, s9, s10, s11, s12, s13⟩ := S
      have hlen : (lc ++ el.map Prod.fst).length = lc.length + el.length := by rw [List.length_append, List.length_map]
      obtain ⟨c4, a1, a2, a3, a4⟩ := addE (N := N) (u := nI u) (v := 0) hx s4 (by omega)
      left
      refine ⟨i', n3', nb', k', fl + 1, el ++ [((nI u, 0), 1)], c4, m4, by omega, ?_, fun M => ?_, ?_, s5, s6, s7, ⟨by omega, by rw [List.length_append]; show k' = k + (el.length + 1); omega⟩, ?_, ?_, ?_, ?_, ?_⟩
      · rw [s2, zbt_s, s4.1.2.1, if_pos hb, a1, zbn_s]
      · rw [show M + (i' - i) = (M + (i' - (i + 1))) + 1 by omega, hXL, s3]
      · have e1 : lc ++ (el ++ [((nI u, (0 : Int32)), 1)]).map Prod.fst = lc ++ el.map Prod.fst ++ [(nI u, 0)] := by
          rw [List.map_append, ← List.append_assoc]
          rfl
        have e2 : lc ++ el.map Prod.fst ++ [(nI u, 0)] ++ zi0 U = lc ++ el.map Prod.fst ++ zi0 (u :: U) := by
          rw [List.append_assoc]
          rfl
        have e3 : d + 1 - (u :: U).length = d - U.length := by show d + 1 - (U.length + 1) = d - U.length; omega
        rw [e1, e2, ← e3]
        exact a2
      · exact zFx2_trans hfr12 (zFx2_trans s9 a3 s6 s7) (Nat.le_refl _) (Nat.le_refl _)
      · rw [List.map_append]
        exact Or.inr (Or.inl ⟨el.map Prod.fst, (nI u, 0), u, rfl, hu1, rfl, s10⟩)
      · intro q hq
        rcases List.mem_append.mp hq with hq | hq
        · exact zItA_mono (s11 q hq) (Nat.le_refl _) (fun y hy => by rw [a4])
        · rw [List.mem_singleton.mp hq]
          exact Or.inr (Or.inr (Or.inr (Or.inr ⟨u, by omega, by omega, rfl, Nat.le_refl _, by omega, by omega⟩)))
      · rw [List.map_append, List.sum_append]
        show (el.map Prod.snd).sum + (1 + 0) + 5 * (zw T n i).2.2.1 ≤ 5 * (zw T n i').2.2.1
        omega
      · rw [List.length_append]
        show el.length + 1 ≤ i' - i
        omega
    · right
      have K2 := zKo_up (a := 1) (c := c) (m := m) (oc := zbt ((fX3_rec N f).1 (nI (d + 1)) c2) (fun sx => some (none, sx)) (fun x23 s24 => if zBk (s24.2.2.1 302) then zbn (fX0_addItem N (s24.2.2.1 302) (nI u) 0 s24) (fun x27 s28 => some (some (), s28)) else none)) K (fun c' e => by rw [e, zbt_n]) hXL hfr12
      rw [show L - i + 1 = L - (i + 1) + 1 + 1 by omega]
      exact K2
  · right
    rw [q2, zbt_n]
    obtain ⟨ff, fa, fb, fc⟩ := cx_bad hx (show i + 1 ≤ L by omega) q1
    obtain ⟨m'', y1, y2⟩ := x_bad1 (N := N) (M := 0) p3 (cx_w hx (show i + 1 ≤ L by omega)) q1
    refine ⟨c2, m'', ff, (zw T n (i + 1)).2.2.1, 2, rfl, by omega, fun M => ?_, ?_, ?_⟩
    · obtain ⟨m5, y3, y4⟩ := x_bad1 (N := N) (M := M) p3 (cx_w hx (show i + 1 ≤ L by omega)) q1
      rw [show M + 2 = (M + 1) + 1 by omega, hXL, y3]
      unfold zBF at y2 y4
      rw [y2, y4]
    · unfold zBF at y2
      rw [y2]
      exact ⟨fa, by omega, by rw [q3, fc], q4, ((zsc_ne (by decide)).trans zsc_at).trans fc, zsc_at⟩
    · unfold zBF at y2
      rw [y2]
      exact zFx2_trans hfr12 zMf_F (Nat.le_refl _) (Nat.le_refl _)
