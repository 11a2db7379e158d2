set_option maxHeartbeats 1000000 in
theorem RS_loop {N n b L f i n3 nb F k d op lv : Nat} {T : Nat → Nat} {lc : List (Int32 × Int32)} {rest : List Nat} {c m : zS} (hx : zCx T n L N) (ih : zPRS T n b L N f) (hrest : ∀ x r, rest = x :: r → x ≤ 21 ∧ x ≠ 10 ∧ x ≠ 11 ∧ (x ≤ 11 ∨ zbnd x < lv)) (hlv : 1 ≤ lv) (hlv7 : lv ≤ 7) (hd : d ≤ 21) (hf : 9 * (21 - d) + 1 + (8 - lv) ≤ f + 1) : ∀ (w v : Nat), v + w = 61 → ∀ (Mf i1 n3' nb' k' fl : Nat) (el : List ((Int32 × Int32) × Nat)) (P : List Nat) (lm : List (Int32 × Int32)) (c1 m1 : zS), w < Mf → i < i1 → (∀ M, zXL N (M + (i1 - i)) 1 m = zXL N M 0 m1) → lc ++ el.map Prod.fst = lm ++ zi0 P → zEXP T n b L i1 n3' nb' (lc ++ el.map Prod.fst) lm F k' d op (P ++ rest) c1 m1 → (zw T n i1).1 ≠ 24 → (∀ u, u ∈ P → 12 ≤ u ∧ u ≤ 21 ∧ lv ≤ zbnd u ∧ zlvl (zw T n i1).1 ≤ zbnd u) → n3 ≤ n3' → nb ≤ nb' → (v + k + 1 ≤ k' ∧ k' = k + el.length) → zFx2 b n3 nb c m c1 m1 → zXp fl (el.map Prod.fst) → (∀ q, q ∈ el → zItA b n3' c1 q.1 q.2) → (el.map Prod.snd).sum + 5 * (zw T n i).2.2.1 ≤ 5 * (zw T n i1).2.2.1 → el.length ≤ i1 - i → zSs T n b L N i n3 nb lc F k d op lv rest c m (zbl (fX3_readSides_L7 N (fX3_rec N f).1 (fX3_rec N f).2 (nI lv) (nI d) Mf (nI v) c1) (fun x => some x) (fun s26 => some (some (), s26))) ∨ zKo N b n3 nb (L - i + 1) c m (zbl (fX3_readSides_L7 N (fX3_rec N f).1 (fX3_rec N f).2 (nI lv) (nI d) Mf (nI v) c1) (fun x => some x) (fun s26 => some (some (), s26))) := by
  intro w
  induction w with
  | zero =>
    intro v hv Mf i1 n3' nb' k' fl el P lm c1 m1 hM hi1 hXL hl E h24 hP hn3 hnb hk hfr hxp hit hsum hlen
    have := E.2.2.2.2.2.2.2.2.1.2.2.2.2
    omega
  | succ w ihw =>
    intro v hv Mf i1 n3' nb' k' fl el P lm c1 m1 hM hi1 hXL hl E h24 hP hn3 hnb hk hfr hxp hit hsum hlen
    have E' := E
    obtain ⟨e1, ei, e2, e3, e4, e5, e6, e7, ⟨ef1, ef2, ef3, ef4, ef5⟩, e9, e10, el1, el2, el3, el4, el5⟩ := E
    obtain ⟨Mf, rfl⟩ : ∃ q, Mf = q + 1 := ⟨Mf - 1, by omega⟩
    have hW1 := cx_w hx ei
    have hlt1 := zw_lt hW1
    obtain ⟨x1, x2, x3, x4, x5, x6⟩ := id hx
    have hb := e1.1
    have hbb := zb_lt hb
    have ek4 : c1.1 304 = nI (zw T n i1).1 := e1.2.2.2.2.2.2.2.1
    have ek5 : c1.1 305 = nI (zw T n i1).2.2.1 := e1.2.2.2.2.2.2.2.2
    have hll := zlvl_le (zw T n i1).1 (by omega)
    have hL7 : fX3_readSides_L7 N (fX3_rec N f).1 (fX3_rec N f).2 (nI lv) (nI d) (Mf + 1) (nI v) c1 = if nI (zlvl (zw T n i1).1) < nI lv then some (.inr c1) else zbt (fX3_countItem N c1) (fun sx => some (.inl (none, sx))) (fun x7 s8 => zbt (fX3_step N s8) (fun sx => some (.inl (none, sx))) (fun x10 s11 => zbn (fX1_levelOf N (nI (zw T n i1).1) s11) (fun x13 s14 => zbt ((fX3_rec N f).2 (x13 + 1) (nI d) s14) (fun sx => some (.inl (none, sx))) (fun x16 s17 => if zBk (s17.2.2.1 302) then zbn (fX0_addItem N (s17.2.2.1 302) (nI (zw T n i1).1) 0 s17) (fun x20 s21 => fX3_readSides_L7 N (fX3_rec N f).1 (fX3_rec N f).2 (nI lv) (nI d) Mf (nI (v + 1)) s21) else none)))) := by
      show fX3_readSides_L7S N (fX3_rec N f).1 (fX3_rec N f).2 (nI lv) (nI d) (fX3_readSides_L7 N (fX3_rec N f).1 (fX3_rec N f).2 (nI lv) (nI d) Mf) (nI v) c1 = _
      unfold fX3_readSides_L7S
      rw [if_neg (show ¬ (60 : Int32) ≤ nI v from nI_ge (b := 60) (by omega) (by decide)), ek4, e1_lev (by omega), zbn_s, ek4, nI_1]
    rw [hL7]
    by_cases clv : zlvl (zw T n i1).1 < lv
    · rw [if_pos (nI_lt clv (by omega)), zbl_r]
      left
      exact ⟨i1, n3', nb', k', fl, el, P, lm, c1, m1, hi1, rfl, hXL, hl, E', h24, fun u hu => ⟨(hP u hu).1, (hP u hu).2.1, (hP u hu).2.2.1⟩, clv, hn3, hnb, ⟨by omega, hk.2⟩, hfr, hxp, hit, hsum, hlen⟩
    rw [if_neg (nI_nlt (by omega) (by omega))]
    have hkd : 12 ≤ (zw T n i1).1 ∧ (zw T n i1).1 ≤ 21 := (zlvl_op hlt1).mpr (by omega)
    have hbnd : zbnd (zw T n i1).1 = zlvl (zw T n i1).1 := (hll.2.1 hkd.1 hkd.2).2
    have hi1L : i1 < L := cx_lt hx ei (by omega) h24
    have hadv1 := zw_adv x1 x2 hi1L
    have hPl : (P ++ rest).length = P.length + rest.length := List.length_append
    have lcl : (lc ++ el.map Prod.fst).length = lc.length + el.length := by rw [List.length_append, List.length_map]
    have hll2 : (lc ++ el.map Prod.fst).length = lm.length + P.length := by rw [hl, List.length_append, List.length_map]
    -- the reference: reduce
    obtain ⟨m2, r1, r2, r3, r4, r5, r6⟩ := q_reduce (N := N) (by_ := zbnd (zw T n i1).1) (x := nI (zbnd (zw T n i1).1)) (P := P) (rest := rest) rfl (by omega) (by omega) e7 (fun u hu => ⟨(hP u hu).1, (hP u hu).2.1, by rw [hbnd]; exact (hP u hu).2.2.2⟩) (fun x r e => by
      obtain ⟨q1, q2, q3, q4⟩ := hrest x r e
      exact ⟨q1, q4.imp id (fun q => by omega)⟩) (by omega) e6 (by omega)
    rw [← hl] at r3
    have pm2 : zPM T n i1 m2 := zPM_keep e2 r4 (by decide) (by decide)
    have hxl1 : ∀ M, zXL N (M + 1) 0 m1 = zbn (fX10_tally N m2) (fun x38 s39 => if x38 = 0 then some (.inl (0, s39)) else if zga (s39.1 3323) (zlen 43) = true then zbn (fX10_next N (zsc (zsr s39 43 (s39.1 3323) (nI (zw T n i1).1)) 3323 ((s39.1 3323) + 1))) (fun x42 s43 => zXL N M 1 s43) else none) := by
      intro M
      show fX10_expression_L19S N (fX10_expression_L19 N M) (nI 0) 1 m1 = _
      unfold fX10_expression_L19S
      rw [if_neg (show ¬ (1 : Int32) = 0 by decide), if_pos (show nI 0 = 0 from rfl), q_oper e2 hlt1, zbn_s, if_pos hkd, if_neg (nI_nle (by omega) (by omega)), e10_bnd (by omega), zbn_s, r1, zbn_s]
      rfl
    have q24 : m2.1 3324 = nI (F + k') := (r4.1 3324 (by decide)).trans ef3
    have q25 : m2.1 3325 = nI k' := (r4.1 3325 (by decide)).trans ef4
    have fr12 : zFx2 b n3' nb' c1 m1 c1 m2 := ⟨zeq_refl _ _ _, fun _ _ => rfl, fun _ _ => rfl, zeq_mono r4 (by decide) (by decide), r5, fun j hj _ => r6 j hj⟩
    rcases q_count (N := N) ef1 ef2 (by omega) ef5 with ⟨k1, k2⟩ | ⟨k1, k2⟩
    case inr =>
      rcases q_tally (N := N) pm2 q24 q25 (by omega) ef5 with ⟨t1, -⟩ | ⟨-, t2⟩
      · omega
      right
      rw [k2, zbt_n, zbl_l]
      refine Ko_at (a := i1 - i) (c1 := c1) (c2 := zsc (zsc (zsc c1 308 (nI (k' + 1))) 309 8) 310 (c1.1 305)) (m1 := m1) (fn := 8) (fp := (zw T n i1).2.2.1) (m2 := zsc (zsc m2 3320 (nI 8)) 3321 (nI (zw T n i1).2.2.1)) rfl (by omega) hXL (fun M => ?_) (zFF_i (by omega) (by omega) rfl ek5 rfl rfl) hfr (zFx2_trans fr12 (zFx2_trans z3_F (zFx2_trans (zRF_F (c := zsc c1 308 (nI (k' + 1))) (x := 8)) zMf_F (Nat.le_refl _) (Nat.le_refl _)) (Nat.le_refl _) (Nat.le_refl _)) (Nat.le_refl _) (Nat.le_refl _)) hn3 hnb
      rw [hxl1, t2, zbn_s, if_pos rfl, if_neg h24]
    rcases q_tally (N := N) pm2 q24 q25 (by omega) ef5 with ⟨-, t2⟩ | ⟨t1, -⟩
    case inr => omega
    obtain ⟨c2, hc2⟩ : ∃ c2, c2 = zsc c1 308 (nI (k' + 1)) := ⟨_, rfl⟩
    obtain ⟨m3, hm3⟩ : ∃ m3, m3 = zsc (zsc m2 3324 (nI (F + k' + 1))) 3325 (nI (k' + 1)) := ⟨_, rfl⟩
    rw [← hc2] at k2
    rw [← hm3] at t2
    have zm3 : zeq [3324, 3325] [] m2 m3 := by rw [hm3]; exact zeq_trans (zeq_c (by decide)) (zeq_c (by decide))
    have fr23 : zFx2 b n3' nb' c1 m2 c2 m3 := by
      rw [hc2, hm3]
      exact zFx2_trans z3_F zt_F (Nat.le_refl _) (Nat.le_refl _)
    have E2 : zEXP T n b L i1 n3' nb' (lc ++ el.map Prod.fst) (lc ++ el.map Prod.fst) F (k' + 1) d op rest c2 m3 := by
      refine ⟨?_, ei, zPM_keep pm2 zm3 (by decide) (by simp), ?_, e4, ?_, zIM_keep r3 (by rw [zm3.2.1 36 List.not_mem_nil]) (zm3.2.1 39 List.not_mem_nil), zSK_keep r2 (zm3.1 3323 (by decide)) (zm3.2.1 43 List.not_mem_nil), ?_, (zm3.1 3326 (by decide)).trans ((r4.1 3326 (by decide)).trans e9), (zm3.1 3327 (by decide)).trans ((r4.1 3327 (by decide)).trans e10), by omega, el2, el3, el4, el5⟩
      · rw [hc2]; exact zPC_c e1 (by omega)
      · rw [hc2]
        exact zPN_c (zPN_keep e3 rfl (by rw [zm3.2.1 36 List.not_mem_nil]; exact r6 3 (by decide)) rfl rfl rfl ((zm3.2.1 40 List.not_mem_nil).trans (r4.2.1 40 (by decide))) ((zm3.2.1 41 List.not_mem_nil).trans (r4.2.1 41 (by decide)))) (by omega) hb
      · rw [hc2]; exact zIC_c e5 (by omega) hb
      · rw [hc2, hm3]
        exact ⟨(zsc_ne (by decide)).trans ef1, zsc_at, (zsc_ne (by decide)).trans zsc_at, zsc_at, by omega⟩
    have hsg3 : m3.1 3323 = nI rest.length := (zm3.1 3323 (by decide)).trans r2.1
    obtain ⟨m4, hm4⟩ : ∃ m4, m4 = zsc (zsr m3 43 (nI rest.length) (nI (zw T n i1).1)) 3323 (nI (rest.length + 1)) := ⟨_, rfl⟩
    obtain ⟨c3, m5, p1, p2, p3, p4, p5⟩ := pushE (N := N) (x := (zw T n i1).1) (d' := d) (op' := op) (m2 := m4) hx E2 (by omega) h24 (by omega) (by rw [hm4]; exact zeq_trans (zeq_r (by decide)) (zeq_c (by decide))) (by rw [hm4]; exact zsc_at) (by rw [hm4]; show (zsr m3 43 (nI rest.length) (nI (zw T n i1).1)).2.1 43 = _; rw [zsr_same, nI_clamp (by omega)]) (by rw [hm4]; exact (zsc_ne (by decide)).trans E2.2.2.2.2.2.2.2.2.2.1) (by rw [hm4]; exact (zsc_ne (by decide)).trans E2.2.2.2.2.2.2.2.2.2.2.1) (by omega) (by omega)
    have hXL5 : ∀ M, zXL N (M + (i1 + 1 - i)) 1 m = zXL N M 1 m5 := by
      intro M
      rw [show M + (i1 + 1 - i) = (M + 1) + (i1 - i) by omega, hXL, hxl1, t2, zbn_s, if_neg (by decide), hsg3, if_pos (zga_l (by rfl) (show rest.length < 2100 by omega) (by decide)), nI_1, ← hm4, p1, zbn_s]
    have fr15 : zFx2 b n3 nb c m c3 m5 := zFx2_trans hfr (zFx2_trans fr12 (zFx2_trans fr23 p2 (Nat.le_refl _) (Nat.le_refl _)) (Nat.le_refl _) (Nat.le_refl _)) hn3 hnb
    rw [k2, zbt_s]
    rcases p5 with ⟨q1, q2, q3⟩ | ⟨q1, q2, q3, q4⟩
    case inr =>
      right
      rw [q2, zbt_n, zbl_l]
      obtain ⟨ff, fa, fb, fc⟩ := cx_bad hx (show i1 + 1 ≤ L by omega) q1
      obtain ⟨m'', y1, y2⟩ := x_bad1 (N := N) (M := 0) p3 (cx_w hx (show i1 + 1 ≤ L by omega)) q1
      unfold zBF at y2
      refine ⟨c3, m'', ff, (zw T n (i1 + 1)).2.2.1, (i1 + 1 - i) + 1, rfl, by omega, fun M => ?_, ?_, ?_⟩
      · obtain ⟨m9, y3, y4⟩ := x_bad1 (N := N) (M := M) p3 (cx_w hx (show i1 + 1 ≤ L by omega)) q1
        unfold zBF at y4
        rw [show M + ((i1 + 1 - i) + 1) = (M + 1) + (i1 + 1 - i) by omega, hXL5, y3, y2, y4]
      · rw [y2]
        exact ⟨fa, by omega, by rw [q3, fc], q4, ((zsc_ne (by decide)).trans zsc_at).trans fc, zsc_at⟩
      · rw [y2]
        exact zFx2_trans fr15 zMf_F (Nat.le_refl _) (Nat.le_refl _)
    rw [q2, zbt_s, e1_lev (by omega), zbn_s, nI_1]
    rcases ih (zlvl (zw T n i1).1 + 1) d (i1 + 1) n3' nb' (lc ++ el.map Prod.fst) F (k' + 1) op ((zw T n i1).1 :: rest) c3 m5 q3 q1 (fun x r e => by
      have e1 : (zw T n i1).1 = x := (List.cons.inj e).1
      rw [← e1]
      exact ⟨by omega, by omega, by omega, Or.inr (by omega)⟩) (by omega) (by omega) hd (by omega) with S | K
    case inr =>
      right
      obtain ⟨c', m', fn, fp, j, z1, z2, z3, z4, z5⟩ := K
      refine ⟨c', m', fn, fp, j + (i1 + 1 - i), by rw [z1, zbt_n, zbl_l], by omega, fun M => ?_, z4, zFx2_trans fr15 z5 hn3 hnb⟩
      rw [← Nat.add_assoc, hXL5, z3]
    obtain ⟨i2, n3q, nbq, kq, flq, elq, PQ, lmq, c4, m6, s1, s2, s3, s4, s5, s6, s7, s8, s9, s10, s11, s12, s13, s14, s15, s16⟩ := S
    have lcl2 : (lc ++ el.map Prod.fst ++ elq.map Prod.fst).length = lc.length + el.length + elq.length := by rw [List.length_append, lcl, List.length_map]
    obtain ⟨c5, a1, a2, a3, a4⟩ := addE (N := N) (u := nI (zw T n i1).1) (v := 0) hx s5 (by omega)
    rw [s2, zbt_s, s5.1.2.1, if_pos hb, a1, zbn_s]
    have emap : lc ++ (el ++ elq ++ [((nI (zw T n i1).1, (0 : Int32)), (if (zw T n i1).1 = 17 ∨ (zw T n i1).1 = 18 then 6 else 5))]).map Prod.fst = lc ++ el.map Prod.fst ++ elq.map Prod.fst ++ [(nI (zw T n i1).1, 0)] := by
      rw [List.map_append, List.map_append, ← List.append_assoc, ← List.append_assoc]
      rfl
    refine ihw (v + 1) (by omega) Mf i2 n3q nbq kq ((max fl flq) + 1) (el ++ elq ++ [((nI (zw T n i1).1, 0), (if (zw T n i1).1 = 17 ∨ (zw T n i1).1 = 18 then 6 else 5))]) (PQ ++ [(zw T n i1).1]) lmq c5 m6 (by omega) (by omega) (fun M => ?_) ?_ ?_ s6 (fun u hu => ?_) (by omega) (by omega) ⟨by omega, by rw [List.length_append, List.length_append]; show kq = k + (el.length + elq.length + 1); omega⟩ (zFx2_trans fr15 (zFx2_trans s12 a3 s9 s10) hn3 hnb) ?_ (fun q hq => ?_) ?_ ?_
    · rw [show M + (i2 - i) = (M + (i2 - (i1 + 1))) + (i1 + 1 - i) by omega, hXL5, s3]
    · rw [emap, s4, List.append_assoc]
      exact congrArg (fun z => lmq ++ z) (by rw [show zi0 (PQ ++ [(zw T n i1).1]) = zi0 PQ ++ zi0 [(zw T n i1).1] from List.map_append]; rfl)
    · rw [emap, show PQ ++ [(zw T n i1).1] ++ rest = PQ ++ (zw T n i1).1 :: rest from by rw [List.append_assoc]; rfl]
      exact a2
    · rcases List.mem_append.mp hu with hu | hu
      · obtain ⟨w1, w2, w3⟩ := s7 u hu
        exact ⟨w1, w2, by omega, by omega⟩
      · rw [List.mem_singleton.mp hu, hbnd]
        exact ⟨hkd.1, hkd.2, by omega, by omega⟩
    · rw [List.map_append, List.map_append]
      exact Or.inr (Or.inr ⟨el.map Prod.fst, elq.map Prod.fst, (nI (zw T n i1).1, 0), (zw T n i1).1, rfl, hkd.1, hkd.2, rfl, zXp_mono _ _ _ hxp (Nat.le_max_left _ _), zXp_mono _ _ _ s13 (Nat.le_max_right _ _)⟩)
    · rcases List.mem_append.mp hq with hq | hq
      · rcases List.mem_append.mp hq with hq | hq
        · refine zItA_mono (hit q hq) s9 (fun y hy => ?_)
          have f1 := fr12.2.1
          rw [a4, s12.2.1 y hy, p2.2.1 y hy, fr23.2.1 y hy]
        · exact zItA_mono (s14 q hq) (Nat.le_refl _) (fun y _ => by rw [a4])
      · rw [List.mem_singleton.mp hq]
        refine Or.inr (Or.inr (Or.inr (Or.inr ⟨(zw T n i1).1, by omega, hkd.2, rfl, ?_, fun _ => ?_, fun q => ?_⟩)))
        · show 1 ≤ (if (zw T n i1).1 = 17 ∨ (zw T n i1).1 = 18 then 6 else 5)
          split <;> omega
        · show 5 ≤ (if (zw T n i1).1 = 17 ∨ (zw T n i1).1 = 18 then 6 else 5)
          split <;> omega
        · show 6 ≤ (if (zw T n i1).1 = 17 ∨ (zw T n i1).1 = 18 then 6 else 5)
          rw [if_pos q]
          omega
    · rw [List.map_append, List.map_append, List.sum_append, List.sum_append]
      have hl2 : (zw T n i1).1 = 17 ∨ (zw T n i1).1 = 18 → (zw T n i1).2.2.1 + 2 ≤ (zw T n i1).2.2.2 := by
        rcases hW1 with ⟨g1, -⟩ | ⟨g1, -⟩ | ⟨-, -, -, g4⟩
        · omega
        · omega
        · rcases g4 with ⟨q, -⟩ | ⟨q, q2⟩ | ⟨q, -⟩ | ⟨q, q2⟩ | ⟨q, q2, q3⟩ | ⟨q, -⟩ | ⟨q, q2, q3, q4⟩
          · omega
          · omega
          · omega
          · omega
          · omega
          · omega
          · exact q4
      show (el.map Prod.snd).sum + (elq.map Prod.snd).sum + ((if (zw T n i1).1 = 17 ∨ (zw T n i1).1 = 18 then 6 else 5) + 0) + 5 * (zw T n i).2.2.1 ≤ 5 * (zw T n i2).2.2.1
      by_cases q : (zw T n i1).1 = 17 ∨ (zw T n i1).1 = 18
      · rw [if_pos q]
        have := hl2 q
        omega
      · rw [if_neg q]
        omega
    · rw [List.length_append, List.length_append]
      show el.length + elq.length + 1 ≤ i2 - i
      omega
set_option maxHeartbeats 1000000 in
theorem RR {N n b L : Nat} {T : Nat → Nat} (hx : zCx T n L N) : ∀ f, zPRO T n b L N f ∧ zPRS T n b L N f := by
  intro f
  induction f with
  | zero => exact ⟨fun d i n3 nb lc F k op U rest c m h h24 hU hr hUd hd hf => absurd hf (by omega), fun lv d i n3 nb lc F k op rest c m h h24 hr h1 h7 hd hf => absurd hf (by omega)⟩
  | succ f ih =>
    constructor
    · intro d i n3 nb lc F k op U rest c m h h24 hU hr hUd hd hf
      show zSo T n b L N i n3 nb lc F k d op U rest c m (fX3_readOneS N (fX3_rec N f).1 (fX3_rec N f).2 (nI d) c) ∨ zKo N b n3 nb (L - i + 1) c m (fX3_readOneS N (fX3_rec N f).1 (fX3_rec N f).2 (nI d) c)
      rcases RO_check (rc0 := (fX3_rec N f).1) (rc1 := (fX3_rec N f).2) hx h h24 with K | ⟨g1, g2, g3, g4⟩
      · right
        obtain ⟨c', m', fn, fp, j, z1, z2, z3⟩ := K
        exact ⟨c', m', fn, fp, j, z1, by omega, z3⟩
      · have g5 : (zw T n i).1 = 1 ∨ (zw T n i).1 = 3 ∨ (zw T n i).1 = 4 ∨ (zw T n i).1 = 5 ∨ (zw T n i).1 = 6 ∨ (zw T n i).1 = 9 ∨ (zw T n i).1 = 13 ∨ (zw T n i).1 = 23 := of_decide_eq_true g1
        by_cases c9 : (zw T n i).1 = 9
        · rw [if_neg (by omega)] at g4
          exact RO_paren hx ih.2 hf h h24 c9 g2 g3 g4 hU hr hUd
        by_cases c13 : (zw T n i).1 = 13 ∨ (zw T n i).1 = 23
        · rw [if_pos c13] at g4
          exact RO_unary hx ih.1 hf h h24 c13 g2 g3 g4 hU hr hUd
        · rw [if_neg c13] at g4
          exact RO_leaf hx h h24 (by omega) g2 g3 g4 hU hr hUd
    · intro lv d i n3 nb lc F k op rest c m h h24 hr h1 h7 hd hf
      show zSs T n b L N i n3 nb lc F k d op lv rest c m (fX3_readSidesS N (fX3_rec N f).1 (fX3_rec N f).2 (nI lv) (nI d) c) ∨ zKo N b n3 nb (L - i + 1) c m (fX3_readSidesS N (fX3_rec N f).1 (fX3_rec N f).2 (nI lv) (nI d) c)
      unfold fX3_readSidesS
      rcases ih.1 d i n3 nb lc F k op [] rest c m h h24 (fun u hu => absurd hu List.not_mem_nil) (fun x r e => by
        obtain ⟨q1, q2, q3, -⟩ := hr x r e
        exact ⟨q2, q3, by omega⟩) (Nat.zero_le _) hd (by omega) with S | K
      · obtain ⟨i1, n3', nb', k', fl, el, c1, m1, s1, s2, s3, s4, s5, s6, s7, s8, s9, s10, s11, s12, s13⟩ := S
        rw [s2, zbt_s]
        have s4' : zEXP T n b L i1 n3' nb' (lc ++ el.map Prod.fst) (lc ++ el.map Prod.fst) F k' d op ([] ++ rest) c1 m1 := by
          have h9 : lc ++ el.map Prod.fst ++ zi0 [] = lc ++ el.map Prod.fst := List.append_nil _
          rw [h9] at s4
          exact s4
        exact RS_loop hx ih.2 hr h1 h7 hd hf 61 0 rfl N i1 n3' nb' k' fl el [] (lc ++ el.map Prod.fst) c1 m1 (by have := hx.2.2.2.2.2; omega) s1 s3 (List.append_nil _).symm s4' s5 (fun u hu => absurd hu List.not_mem_nil) s6 s7 ⟨by omega, s8.2⟩ s9 s10 s11 s12 s13
      · right
        obtain ⟨c', m', fn, fp, j, z1, z2, z3⟩ := K
        exact ⟨c', m', fn, fp, j, by rw [z1, zbt_n], z2, z3⟩
