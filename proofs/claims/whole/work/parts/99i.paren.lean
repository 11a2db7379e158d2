def zSs (T : Nat → Nat) (n b L N i n3 nb : Nat) (lc : List (Int32 × Int32)) (F k d op lv : Nat) (rest : List Nat) (c m : zS) (oc : Option (Option Unit × zS)) : Prop := ∃ (i' n3' nb' k' fl : Nat) (el : List ((Int32 × Int32) × Nat)) (P : List Nat) (lm : List (Int32 × Int32)) (c' m' : zS), i < i' ∧ oc = some (some (), c') ∧ (∀ M, zXL N (M + (i' - i)) 1 m = zXL N M 0 m') ∧ lc ++ el.map Prod.fst = lm ++ zi0 P ∧ zEXP T n b L i' n3' nb' (lc ++ el.map Prod.fst) lm F k' d op (P ++ rest) c' m' ∧ (zw T n i').1 ≠ 24 ∧ (∀ u, u ∈ P → 12 ≤ u ∧ u ≤ 21 ∧ lv ≤ zbnd u) ∧ zlvl (zw T n i').1 < lv ∧ n3 ≤ n3' ∧ nb ≤ nb' ∧ (k < k' ∧ k' = k + el.length) ∧ zFx2 b n3 nb c m c' m' ∧ zXp fl (el.map Prod.fst) ∧ (∀ q, q ∈ el → zItA b n3' c' q.1 q.2) ∧ (el.map Prod.snd).sum + 5 * (zw T n i).2.2.1 ≤ 5 * (zw T n i').2.2.1 ∧ el.length ≤ i' - i
def zPRS (T : Nat → Nat) (n b L N f : Nat) : Prop := ∀ (lv d i n3 nb : Nat) (lc : List (Int32 × Int32)) (F k op : Nat) (rest : List Nat) (c m : zS), zEXP T n b L i n3 nb lc lc F k d op rest c m → (zw T n i).1 ≠ 24 → (∀ x r, rest = x :: r → x ≤ 21 ∧ x ≠ 10 ∧ x ≠ 11 ∧ (x ≤ 11 ∨ zbnd x < lv)) → 1 ≤ lv → lv ≤ 7 → d ≤ 21 → 9 * (21 - d) + 1 + (8 - lv) ≤ f → zSs T n b L N i n3 nb lc F k d op lv rest c m ((fX3_rec N f).2 (nI lv) (nI d) c) ∨ zKo N b n3 nb (L - i + 1) c m ((fX3_rec N f).2 (nI lv) (nI d) c)
set_option maxHeartbeats 1000000 in
theorem zlvl_op {kd : Nat} (h : kd < 25) : (12 ≤ kd ∧ kd ≤ 21) ↔ 1 ≤ zlvl kd := by
  have h2 := zlvl_le kd (by omega)
  by_cases c : 12 ≤ kd ∧ kd ≤ 21
  · have := (h2.2.1 c.1 c.2).1; omega
  · have := h2.2.2 c; omega
set_option maxHeartbeats 1000000 in
theorem Ko_at {N b n3 nb n3' nb' J a fn fp : Nat} {c m c1 m1 c2 m2 : zS} {oc : Option (Option Unit × zS)} (ho : oc = some (none, c2)) (ha : a + 1 ≤ J) (hxl : ∀ M, zXL N (M + a) 1 m = zXL N M 0 m1) (hx1 : ∀ M, zXL N (M + 1) 0 m1 = some (.inl (0, m2))) (hF : zFF fn fp c2 m2) (hf1 : zFx2 b n3 nb c m c1 m1) (hf2 : zFx2 b n3' nb' c1 m1 c2 m2) (h3 : n3 ≤ n3') (hb : nb ≤ nb') : zKo N b n3 nb J c m oc := by
  refine ⟨c2, m2, fn, fp, a + 1, ho, ha, fun M => ?_, hF, zFx2_trans hf1 hf2 h3 hb⟩
  rw [show M + (a + 1) = (M + 1) + a by omega, hxl, hx1]
set_option maxHeartbeats 1000000 in
theorem RO_paren {N n b L i n3 nb F k d op f : Nat} {T : Nat → Nat} {lc : List (Int32 × Int32)} {U rest : List Nat} {c m : zS} {rc0 : Int32 → zS → Option (Option Unit × zS)} (hx : zCx T n L N) (ih : zPRS T n b L N f) (hf : 9 * (21 - d) + 1 ≤ f + 1) (h : zEXP T n b L i n3 nb lc lc F k d op (U ++ rest) c m) (h24 : (zw T n i).1 ≠ 24) (hkd : (zw T n i).1 = 9) (hd : d ≤ 20) (hchk : fX3_checkOne N (nI d) c = some (some (), c)) (hwan : fX10_wanted N m = fX10_wanted_J105 N 0 m) (hU : ∀ u, u ∈ U → u = 10 ∨ u = 11) (hr : ∀ x r, rest = x :: r → x ≠ 10 ∧ x ≠ 11 ∧ x < 100) (hUd : U.length ≤ d) : zSo T n b L N i n3 nb lc F k d op U rest c m (fX3_readOneS N rc0 (fX3_rec N f).2 (nI d) c) ∨ zKo N b n3 nb (L - i + 1) c m (fX3_readOneS N rc0 (fX3_rec N f).2 (nI d) c) := by
  have h' := h
  obtain ⟨h1, hi, h2, h3, h4, h5, h6, h7, hcnt, h9, h10, l1, l2, l3, l4, l5⟩ := h
  have hW := cx_w hx hi
  have hlt := zw_lt hW
  have hiL : i < L := cx_lt hx hi (by omega) h24
  have hadv := zw_adv hx.1 hx.2.1 hiL
  obtain ⟨x1, x2, x3, x4, x5, x6⟩ := id hx
  have hb := h1.1
  have g7 := h1.2.2.2.2.2.2.2.1
  have hcls : fX3_readOneS N rc0 (fX3_rec N f).2 (nI d) c = zbt (fX3_step N c) (fun sx => some (none, sx)) (fun x33 s34 => zbt ((fX3_rec N f).2 1 (nI (d + 1)) s34) (fun sx => some (none, sx)) (fun x36 s37 => zbt (fX3_demand N 10 s37) (fun sx => some (none, sx)) (fun x39 s40 => zbt (fX3_step N s40) (fun sx => some (none, sx)) (fun x42 s43 => some (some (), s43))))) := by
    unfold fX3_readOneS
    rw [hchk, zbt_s, g7, if_pos (show nI (zw T n i).1 = 9 by rw [hkd]; rfl), nI_1]
  have hls : (U ++ rest).length ≤ 1000 := by omega
  obtain ⟨m2, hm2⟩ : ∃ m2, m2 = zsc (zsc (zsc (zsr m 43 (nI (U ++ rest).length) 1) 3323 (nI ((U ++ rest).length + 1))) 3327 (nI (op + 1))) 3326 (nI (d + 1)) := ⟨_, rfl⟩
  have hJ : ∀ M, zXL N (M + 1) 1 m = zbn (zbn (fX10_next N m2) (fun _ s61 => some ((2 : Int32), s61))) (fun x s => if x = 0 then some (.inl (0, s)) else if x = 2 then zXL N M 1 s else zXL N M 0 s) := by
    intro M
    rw [x_1, hwan]
    unfold fX10_wanted_J105
    rw [h9, if_pos (show nI d ≤ (20 : Int32) from nI_le (b := 20) hd (by decide)), q_sign_t (kx := 9) (x := 40) h2 rfl (by omega) hkd, zbn_s, if_neg (show ¬ (1 : Int32) = 0 by decide), h7.1, h9, h10, if_pos (zga_l (by rfl) (show (U ++ rest).length < 2100 by omega) (by decide)), nI_1, nI_1, nI_1, ← hm2]
  obtain ⟨c2, m3, p1, p2, p3, p4, p5⟩ := pushE (N := N) (x := 1) (d' := d + 1) (op' := op + 1) (m2 := m2) hx h' (by omega) h24 (by omega) (by rw [hm2]; exact zeq_trans (zeq_r (by decide)) (zeq_trans (zeq_c (by decide)) (zeq_trans (zeq_c (by decide)) (zeq_c (by decide))))) (by rw [hm2]; exact (zsc_ne (by decide)).trans ((zsc_ne (by decide)).trans zsc_at)) (by rw [hm2]; show (zsr m 43 (nI (U ++ rest).length) 1).2.1 43 = _; rw [zsr_same, nI_clamp (by omega)]; rfl) (by rw [hm2]; exact zsc_at) (by rw [hm2]; exact (zsc_ne (by decide)).trans zsc_at) (by omega) (by omega)
  have hXL : ∀ M, zXL N (M + 1) 1 m = zXL N M 1 m3 := by
    intro M
    rw [hJ, p1, zbn_s, zbn_s, if_neg (by decide), if_pos rfl]
  rw [hcls]
  rcases p5 with ⟨q1, q2, q3⟩ | ⟨q1, q2, q3, q4⟩
  case inr =>
    right
    rw [q2, zbt_n]
    obtain ⟨ff, fa, fb, fc⟩ := cx_bad hx (show i + 1 ≤ L by omega) q1
    obtain ⟨m'', y1, y2⟩ := x_bad1 (N := N) (M := 0) p3 (cx_w hx (show i + 1 ≤ L by omega)) q1
    refine ⟨c2, m'', ff, (zw T n (i + 1)).2.2.1, 2, rfl, by omega, fun M => ?_, ?_, ?_⟩
    · obtain ⟨m5, y3, y4⟩ := x_bad1 (N := N) (M := M) p3 (cx_w hx (show i + 1 ≤ L by omega)) q1
      rw [show M + 2 = (M + 1) + 1 by omega, hXL, y3]
      unfold zBF at y2 y4
      rw [y2, y4]
    · unfold zBF at y2
      rw [y2]
      exact ⟨fa, by omega, by rw [q3, fc], q4, ((zsc_ne (by decide)).trans zsc_at).trans fc, zsc_at⟩
    · unfold zBF at y2
      rw [y2]
      exact zFx2_trans p2 zMf_F (Nat.le_refl _) (Nat.le_refl _)
  rw [q2, zbt_s]
  rcases ih 1 (d + 1) (i + 1) n3 nb lc F k (op + 1) (1 :: (U ++ rest)) c2 m3 q3 q1 (fun x r e => by
    have e1 : 1 = x := (List.cons.inj e).1
    omega) (by omega) (by omega) (by omega) (by omega) with S | K
  case inr =>
    right
    have K2 := zKo_up (a := 1) (c := c) (m := m) (oc := zbt ((fX3_rec N f).2 1 (nI (d + 1)) c2) (fun sx => some (none, sx)) (fun x36 s37 => zbt (fX3_demand N 10 s37) (fun sx => some (none, sx)) (fun x39 s40 => zbt (fX3_step N s40) (fun sx => some (none, sx)) (fun x42 s43 => some (some (), s43))))) K (fun c' e => by
      have e' : (fX3_rec N f).2 1 (nI (d + 1)) c2 = some (none, c') := e
      rw [e', zbt_n]) hXL p2
    rw [show L - i + 1 = L - (i + 1) + 1 + 1 by omega]
    exact K2
  obtain ⟨i1, n3', nb', k', fl, el, PP, lm, c3, m4, s1, s2, s3, s4, s5, s6, s7, s8, s9, s10, s11, s12, s13, s14, s15, s16⟩ := S
  have s2' : (fX3_rec N f).2 1 (nI (d + 1)) c2 = some (some (), c3) := s2
  rw [s2', zbt_s]
  have s5' := s5
  obtain ⟨e1, ei, e2, e3, e4, e5, e6, e7, ⟨ef1, ef2, ef3, ef4, ef5⟩, e9, e10, el1, el2, el3, el4, el5⟩ := s5
  have hW1 := cx_w hx ei
  have hlt1 := zw_lt hW1
  have hno : ¬ (12 ≤ (zw T n i1).1 ∧ (zw T n i1).1 ≤ 21) := fun z => by have := (zlvl_op hlt1).mp z; omega
  have hXL2 : ∀ M, zXL N (M + (i1 - i)) 1 m = zXL N M 0 m4 := by
    intro M
    rw [show M + (i1 - i) = (M + (i1 - (i + 1))) + 1 by omega, hXL, s3]
  have hfr := zFx2_trans p2 s12 (Nat.le_refl _) (Nat.le_refl _)
  have ek4 : c3.1 304 = nI (zw T n i1).1 := e1.2.2.2.2.2.2.2.1
  have ek5 : c3.1 305 = nI (zw T n i1).2.2.1 := e1.2.2.2.2.2.2.2.2
  by_cases c10 : (zw T n i1).1 = 10
  case neg =>
    right
    have hdem : fX3_demand N 10 c3 = some (none, zRF c3 5) := by
      unfold fX3_demand
      rw [ek4, if_neg (show ¬ nI (zw T n i1).1 = (10 : Int32) from fun z => c10 ((nI_eq (b := 10) (by omega) (by decide)).mp z))]
      rfl
    refine Ko_at (a := i1 - i) (c1 := c3) (c2 := zRF c3 5) (m1 := m4) (fn := 5) (fp := (zw T n i1).2.2.1) (m2 := zsc (zsc m4 3320 (nI 5)) 3321 (nI (zw T n i1).2.2.1)) (by rw [hdem, zbt_n]) (by omega) hXL2 (fun M => ?_) (zFF_i (by omega) (by omega) rfl ek5 rfl rfl) hfr (zFx2_trans zRF_F zMf_F (Nat.le_refl _) (Nat.le_refl _)) s9 s10
    show fX10_expression_L19S N (fX10_expression_L19 N M) (nI 0) 1 m4 = _
    unfold fX10_expression_L19S
    rw [if_neg (show ¬ (1 : Int32) = 0 by decide), if_pos (show nI 0 = 0 from rfl), q_oper e2 hlt1, zbn_s, if_neg hno, if_pos (show nI 0 ≤ 0 by decide), q_sign_f (kx := 10) (x := 41) e2 hlt1 rfl (by omega) c10, zbn_s, if_pos rfl, e10, if_pos (show (0 : Int32) < nI (op + 1) from nI_lt (a := 0) (by omega) (by omega)), q_fail (x := 5) (y := 5) e2 rfl, zbn_s, if_neg s6]
    rfl
  have hdem : fX3_demand N 10 c3 = some (some (), c3) := by
    unfold fX3_demand
    rw [ek4, if_pos (show nI (zw T n i1).1 = 10 by rw [c10]; rfl)]
  rw [hdem, zbt_s]
  have hi1L : i1 < L := cx_lt hx ei (by omega) s6
  have hadv1 := zw_adv x1 x2 hi1L
  have hPl : (PP ++ 1 :: (U ++ rest)).length = PP.length + ((U ++ rest).length + 1) := by rw [List.length_append]; rfl
  have hUl : (U ++ rest).length = U.length + rest.length := List.length_append
  -- the reference closes
  obtain ⟨m5, r1, r2, r3, r4, r5, r6⟩ := q_reduce (N := N) (by_ := 0) (x := 0) (P := PP) (rest := 1 :: (U ++ rest)) rfl (by omega) (by omega) e7 (fun u hu => ⟨(s7 u hu).1, (s7 u hu).2.1, Nat.zero_le _⟩) (fun x r e => by
    have : 1 = x := (List.cons.inj e).1
    omega) (by omega) e6 (by omega)
  rw [← s4] at r3
  obtain ⟨m6, hm6⟩ : ∃ m6, m6 = zsc (zsc (zsc m5 3323 (nI (U ++ rest).length)) 3327 (nI op)) 3326 (nI d) := ⟨_, rfl⟩
  have z56 : zeq [3323, 3326, 3327] [] m5 m6 := by rw [hm6]; exact zeq_trans (zeq_c (by decide)) (zeq_trans (zeq_c (by decide)) (zeq_c (by decide)))
  have sk6 : zSK (U ++ rest) m6 := by
    rw [hm6]
    exact ⟨(zsc_ne (by decide)).trans ((zsc_ne (by decide)).trans zsc_at), r2.2.2⟩
  have im6 : zIM (lc ++ el.map Prod.fst) m6 := by
    rw [hm6]
    exact zIM_keep r3 rfl rfl
  have lcl : (lc ++ el.map Prod.fst).length = lc.length + el.length := by rw [List.length_append, List.length_map]
  obtain ⟨m7, a1, a2, a3, a4, a5, a6, a7⟩ := q_ahead (N := N) (d := d) (by omega) sk6 hU hr (by omega) (by rw [hm6]; exact zsc_at) hUd im6 (by omega)
  have mk7 : ∀ kk, kk ≠ 3323 → kk ≠ 3326 → kk ≠ 3327 → m7.1 kk = m4.1 kk := fun kk q1 q2 q3 => (a5.1 kk (by simp [q1, q2])).trans ((z56.1 kk (by simp [q1, q2, q3])).trans (r4.1 kk (by simp [q1])))
  have f47 : zFM m4 m7 := zFM_trans r5 (zFM_trans (zFM_eq z56 (by decide) (by simp)) a6)
  obtain ⟨m8, n1, n2, n4⟩ := q_next (N := N) x1 x2 (by omega) hi1L (zTx_M e2.1 f47) ((mk7 3318 (by decide) (by decide) (by decide)).trans (zPM_to e2 s6 (by omega))) ((mk7 3320 (by decide) (by decide) (by decide)).trans e2.2.2)
  have hclose : ∀ M, zXL N (M + 1) 0 m4 = zXL N M 0 m8 := by
    intro M
    show fX10_expression_L19S N (fX10_expression_L19 N M) (nI 0) 1 m4 = _
    unfold fX10_expression_L19S
    rw [if_neg (show ¬ (1 : Int32) = 0 by decide), if_pos (show nI 0 = 0 from rfl), q_oper e2 hlt1, zbn_s, if_neg hno, if_pos (show nI 0 ≤ 0 by decide), q_sign_t (kx := 10) (x := 41) e2 rfl (by omega) c10, zbn_s, if_neg (show ¬ (1 : Int32) = 0 by decide), e10, if_neg (nI_nle (by omega) (by omega)), r1, zbn_s]
    have q3 : m5.1 3323 = nI ((U ++ rest).length + 1) := r2.1
    have q7 : m5.1 3327 = nI (op + 1) := (r4.1 3327 (by decide)).trans e10
    have q6 : m5.1 3326 = nI (d + 1) := (r4.1 3326 (by decide)).trans e9
    rw [q3, q7, q6, nI_pred, nI_pred, nI_pred, ← hm6, a1, zbn_s, n1, zbn_s]
  have mk8 : ∀ kk, kk ≠ 3323 → kk ≠ 3326 → kk ≠ 3327 → kk ∉ [3311, 3315, 3316, 3317, 3318] → m8.1 kk = m4.1 kk := fun kk q1 q2 q3 q4 => (n4.1 kk q4).trans (mk7 kk q1 q2 q3)
  have ma8 : ∀ a, a ≠ 36 → a ≠ 39 → a ≠ 48 → m8.2.1 a = m4.2.1 a := fun a q1 q2 q3 => (n4.2.1 a (by simp [q3])).trans ((a5.2.1 a (by simp [q1, q2])).trans ((z56.2.1 a List.not_mem_nil).trans (r4.2.1 a (by simp [q1, q2]))))
  have m36 : ∀ j, j ≠ 2 → m8.2.1 36 j = m4.2.1 36 j := fun j hj => by
    rw [n4.2.1 36 (by decide), a7 j hj, z56.2.1 36 List.not_mem_nil, r6 j hj]
  have z48 : zeq zKY [36, 39, 40, 41, 43, 48] m4 m8 := zeq_trans (zeq_mono r4 (by decide) (by decide)) (zeq_trans (zeq_mono z56 (by decide) (by decide)) (zeq_trans (zeq_mono a5 (by decide) (by decide)) (zeq_mono n4 (by decide) (by decide))))
  have f48 : zFM m4 m8 := zFM_trans f47 (zFM_eq n4 (by decide) (by simp))
  have op8 : m8.1 3327 = nI op := (n4.1 3327 (by decide)).trans ((a5.1 3327 (by decide)).trans (by rw [hm6]; exact (zsc_ne (by decide)).trans zsc_at))
  -- the class steps
  obtain ⟨c4, d1, d2, d3⟩ := s3_step (N := N) e1 hi1L x4
  have hbb := zb_lt hb
  have zc1 : zeq (zKX b) [b + 6, b + 8, b + 9] c3 c4 := zeq_mono d1 (fun kk hk => by unfold zKX; simp only [List.mem_cons, List.not_mem_nil, or_false] at hk ⊢; omega) (fun _ h => absurd h List.not_mem_nil)
  have nk : ∀ kk, 700 ≤ kk → c4.1 kk = c3.1 kk := fun kk hk => d1.1 kk (by simp only [List.mem_cons, List.not_mem_nil, or_false]; omega)
  have ar : ∀ a, c4.2.1 a = c3.2.1 a := fun a => d1.2.1 a List.not_mem_nil
  have fr34 : zFx2 b n3' nb' c3 m4 c4 m8 := ⟨zc1, fun x _ => by rw [ar], fun x _ => by rw [ar], z48, f48, fun j hj _ => m36 j hj⟩
  have hXL3 : ∀ M, zXL N (M + (i1 + 1 - i)) 1 m = zXL N M 0 m8 := by
    intro M
    rw [show M + (i1 + 1 - i) = (M + 1) + (i1 - i) by omega, hXL2, hclose]
  rcases d3 with ⟨d4, d5⟩ | ⟨d4, d5, d6, d7⟩
  · left
    rw [d5, zbt_s]
    refine ⟨i1 + 1, n3', nb', k', fl, el, c4, m8, by omega, rfl, hXL3, ⟨(d2 d4), by omega, n2, zPN_keep e3 (nk _ (by omega)) (m36 3 (by decide)) (nk _ (by omega)) (ar _) (ar _) (ma8 40 (by decide) (by decide) (by decide)) (ma8 41 (by decide) (by decide) (by decide)), by omega, zIC_keep e5 (nk _ (by omega)) (ar _), zIM_keep a3 (by rw [n4.2.1 36 (by decide)]) (n4.2.1 39 (by decide)), zSK_keep a2 (n4.1 3323 (by decide)) (n4.2.1 43 (by decide)), ⟨(d1.1 307 (by decide)).trans ef1, (d1.1 308 (by decide)).trans ef2, (mk8 3324 (by decide) (by decide) (by decide) (by decide)).trans ef3, (mk8 3325 (by decide) (by decide) (by decide) (by decide)).trans ef4, ef5⟩, (n4.1 3326 (by decide)).trans a4, op8, ?_, by omega, by omega, by omega, by omega⟩, d4, s9, s10, s11, zFx2_trans hfr fr34 s9 s10, s13, fun q hq => zItA_mono (s14 q hq) (Nat.le_refl _) (fun y _ => by rw [ar]), by omega, by omega⟩
    have h9 := congrArg List.length s4
    rw [List.length_append (as := lm), List.length_map (as := PP)] at h9
    rw [List.length_append (as := lc ++ el.map Prod.fst), List.length_map (as := U)]
    omega
  · right
    rw [d5, zbt_n]
    obtain ⟨ff, fa, fb, fc⟩ := cx_bad hx (show i1 + 1 ≤ L by omega) d4
    obtain ⟨m9, y1, y2⟩ := x_bad0 (N := N) (M := 0) n2 (cx_w hx (show i1 + 1 ≤ L by omega)) d4 op8 (by omega)
    unfold zBF at y2
    refine Ko_at (a := i1 + 1 - i) (c1 := c4) (m1 := m8) (fn := ff) (fp := (zw T n (i1 + 1)).2.2.1) (m2 := m9) rfl (by omega) hXL3 (fun M => ?_) (by rw [y2]; exact ⟨fa, by omega, by rw [d6, fc], d7, ((zsc_ne (by decide)).trans zsc_at).trans fc, zsc_at⟩) (zFx2_trans hfr fr34 s9 s10) (by rw [y2]; exact zMf_F (n3 := n3') (nb := nb')) s9 s10
    obtain ⟨m10, y3, y4⟩ := x_bad0 (N := N) (M := M) n2 (cx_w hx (show i1 + 1 ≤ L by omega)) d4 op8 (by omega)
    unfold zBF at y4
    rw [y3, y4, y2]
