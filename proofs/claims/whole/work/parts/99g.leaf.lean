set_option maxHeartbeats 1000000 in
theorem zPC_c {T : Nat → Nat} {n b L i : Nat} {c : zS} {k : Nat} {x : Int32} (h : zPC T n b L i c) (hk : k = 306 ∨ k = 307 ∨ k = 308) : zPC T n b L i (zsc c k x) := zPC_keep h (zeq_c (by unfold zKC; simp only [List.mem_cons, List.not_mem_nil, or_false]; omega)) (zsc_ne (by omega)) (zsc_ne (by omega)) (zsc_ne (by omega)) (zsc_ne (by omega)) (zsc_ne (by omega))
set_option maxHeartbeats 1000000 in
theorem zIC_c {b : Nat} {l : List (Int32 × Int32)} {c : zS} {k : Nat} {x : Int32} (h : zIC b l c) (hk : k < 400) (hb : zBk b) : zIC b l (zsc c k x) := by
  have := zb_lt hb
  exact zIC_keep h (zsc_ne (by omega)) rfl
set_option maxHeartbeats 1000000 in
theorem zPN_c {b n3 nb : Nat} {c m : zS} {k : Nat} {x : Int32} (h : zPN b n3 nb c m) (hk : k < 400) (hb : zBk b) : zPN b n3 nb (zsc c k x) m := by
  have := zb_lt hb
  exact zPN_keep h (zsc_ne (by omega)) rfl (zsc_ne (by omega)) rfl rfl rfl rfl
set_option maxHeartbeats 1000000 in
theorem z3_F {b n3 nb : Nat} {c m : zS} {x : Int32} : zFx2 b n3 nb c m (zsc c 308 x) m := zFx2_c (K := [308]) (zeq_c (by decide)) (fun k hk => by unfold zKX; simp only [List.mem_cons, List.not_mem_nil, or_false] at hk ⊢; omega)
set_option maxHeartbeats 1000000 in
theorem zt_F {b n3 nb : Nat} {c m : zS} {x y : Int32} : zFx2 b n3 nb c m c (zsc (zsc m 3324 x) 3325 y) := zFx2_m (K := [3324, 3325]) (A := []) (zeq_trans (zeq_c (by decide)) (zeq_c (by decide))) (by decide) (by simp)
set_option maxHeartbeats 1000000 in
theorem RO_leaf {N n b L i n3 nb F k d op : Nat} {T : Nat → Nat} {lc : List (Int32 × Int32)} {U rest : List Nat} {c m : zS} {rc0 : Int32 → zS → Option (Option Unit × zS)} {rc1 : Int32 → Int32 → zS → Option (Option Unit × zS)} (hx : zCx T n L N) (h : zEXP T n b L i n3 nb lc lc F k d op (U ++ rest) c m) (h24 : (zw T n i).1 ≠ 24) (hkd : (zw T n i).1 = 1 ∨ (zw T n i).1 = 3 ∨ (zw T n i).1 = 4 ∨ (zw T n i).1 = 5 ∨ (zw T n i).1 = 6) (hd : d ≤ 20) (hchk : fX3_checkOne N (nI d) c = some (some (), c)) (hwan : fX10_wanted N m = fX10_wanted_J105 N 0 m) (hU : ∀ u, u ∈ U → u = 10 ∨ u = 11) (hr : ∀ x r, rest = x :: r → x ≠ 10 ∧ x ≠ 11 ∧ x < 100) (hUd : U.length ≤ d) : zSo T n b L N i n3 nb lc F k d op U rest c m (fX3_readOneS N rc0 rc1 (nI d) c) ∨ zKo N b n3 nb (L - i + 1) c m (fX3_readOneS N rc0 rc1 (nI d) c) := by
  obtain ⟨h1, hi, h2, h3, h4, h5, h6, h7, ⟨f1, f2, f3, f4, f5⟩, h9, h10, l1, l2, l3, l4, l5⟩ := h
  have hW := cx_w hx hi
  have hlt := zw_lt hW
  have hiL : i < L := cx_lt hx hi (by omega) h24
  have hadv := zw_adv hx.1 hx.2.1 hiL
  obtain ⟨x1, x2, x3, x4, x5, x6⟩ := id hx
  have hb := h1.1
  have g6 := h1.2.2.2.2.2.2.1
  have g7 := h1.2.2.2.2.2.2.2.1
  have g8 := h1.2.2.2.2.2.2.2.2
  have hcls : fX3_readOneS N rc0 rc1 (nI d) c = zbt (fX3_countItem N c) (fun sx => some (none, sx)) (fun x4 s5 => zbn (fX3_sortAhead N (s5.1 304) s5) (fun x7 s8 => if (s8.1 304) = 1 then zbt (fX3_nameNumber N s8) (fun sx => some (none, sx)) (fun x30 s31 => fX3_readOne_J75 N rc0 rc1 (nI d) x7 x30 s31) else zbn (fX8_valueOf N (s8.1 303) s8) (fun x10 s11 => fX3_readOne_J75 N rc0 rc1 (nI d) x7 x10 s11))) := by
    unfold fX3_readOneS
    rw [hchk, zbt_s, g7, if_neg (show ¬ nI (zw T n i).1 = (9 : Int32) from fun z => by have := (nI_eq (b := 9) (by omega) (by decide)).mp z; omega)]
  have hmod : ∀ M, zXL N (M + 1) 1 m = zbn (zbn (fX10_tally N m) (fun x10 s11 => if x10 = 0 then some (0, s11) else if (s11.1 3315) = 1 then zbn (fX10_number N s11) (fun x52 s53 => fX10_wanted_J274 N x52 s53) else if (s11.1 3315) = 7 then fX10_wanted_J274 N 0 s11 else fX10_wanted_J274 N (s11.1 3316) s11)) (fun x s => if x = 0 then some (.inl (0, s)) else if x = 2 then zXL N M 1 s else zXL N M 0 s) := by
    intro M
    rw [x_1, hwan]
    unfold fX10_wanted_J105
    rw [h9, if_pos (show nI d ≤ (20 : Int32) from nI_le (b := 20) hd (by decide)), q_sign_f (kx := 9) (x := 40) h2 hlt rfl (by omega) (by omega), zbn_s, if_pos rfl]
    rfl
  rcases q_count (N := N) f1 f2 (by omega) f5 with ⟨k1, k2⟩ | ⟨k1, k2⟩
  case inr =>
    rcases q_tally (N := N) h2 f3 f4 (by omega) f5 with ⟨t1, -⟩ | ⟨-, t2⟩
    · omega
    right
    refine ⟨zsc (zsc (zsc c 308 (nI (k + 1))) 309 8) 310 (c.1 305), _, 8, (zw T n i).2.2.1, 1, by rw [hcls, k2, zbt_n], by omega, fun M => by rw [hmod, t2, zbn_s, if_pos rfl, zbn_s, if_pos rfl], zFF_i (by omega) (by omega) rfl g8 (by rw [if_neg h24]) rfl, ?_⟩
    exact zFx2_trans z3_F (zFx2_trans (zRF_F (c := zsc c 308 (nI (k + 1))) (x := 8)) zMf_F (Nat.le_refl _) (Nat.le_refl _)) (Nat.le_refl _) (Nat.le_refl _)
  rcases q_tally (N := N) h2 f3 f4 (by omega) f5 with ⟨-, t2⟩ | ⟨t1, -⟩
  case inr => omega
  obtain ⟨c1, hc1⟩ : ∃ c1, c1 = zsc c 308 (nI (k + 1)) := ⟨_, rfl⟩
  obtain ⟨m1, hm1⟩ : ∃ m1, m1 = zsc (zsc m 3324 (nI (F + k + 1))) 3325 (nI (k + 1)) := ⟨_, rfl⟩
  rw [← hc1] at k2
  rw [← hm1] at t2
  have pc1 : zPC T n b L i c1 := by rw [hc1]; exact zPC_c h1 (by omega)
  have zm1 : zeq [3324, 3325] [] m m1 := by rw [hm1]; exact zeq_trans (zeq_c (by decide)) (zeq_c (by decide))
  have pm1 : zPM T n i m1 := zPM_keep h2 zm1 (by decide) (by simp)
  have pn1 : zPN b n3 nb c1 m1 := by
    rw [hc1]
    exact zPN_c (zPN_keep h3 rfl (by rw [zm1.2.1 36 List.not_mem_nil]) rfl rfl rfl (zm1.2.1 40 List.not_mem_nil) (zm1.2.1 41 List.not_mem_nil)) (by omega) hb
  have ic1 : zIC b lc c1 := by rw [hc1]; exact zIC_c h5 (by omega) hb
  have im1 : zIM lc m1 := zIM_keep h6 (by rw [zm1.2.1 36 List.not_mem_nil]) (zm1.2.1 39 List.not_mem_nil)
  have sk1 : zSK (U ++ rest) m1 := zSK_keep h7 (zm1.1 3323 (by decide)) (zm1.2.1 43 List.not_mem_nil)
  have fr1 : zFx2 b n3 nb c m c1 m1 := by
    rw [hc1, hm1]
    exact zFx2_trans z3_F zt_F (Nat.le_refl _) (Nat.le_refl _)
  have cnt1 : c1.1 307 = nI F ∧ c1.1 308 = nI (k + 1) ∧ m1.1 3324 = nI (F + (k + 1)) ∧ m1.1 3325 = nI (k + 1) ∧ k + 1 ≤ 60 := by
    rw [hc1, hm1]
    exact ⟨(zsc_ne (by decide)).trans f1, zsc_at, (zsc_ne (by decide)).trans zsc_at, zsc_at, by omega⟩
  have g74 : c1.1 304 = nI (zw T n i).1 := pc1.2.2.2.2.2.2.2.1
  have g73 : c1.1 303 = nI i := pc1.2.2.2.2.2.2.1
  rw [hcls, k2, zbt_s, g74, q_ahd hlt, zbn_s, g74]
  -- the end, alike for all
  have tail : ∀ (so n3' nb' : Nat) (v : Int32) (c2 m2 : zS) (x : Nat), so ≤ 3 → zMs (zw T n i).1 = (if so = 0 then 2 else if so = 1 then 1 else if so = 2 then 3 else 7) → zso2 (zw T n i).1 = so → zLt T n b L i n3' nb' lc F (k + 1) d op U rest c2 m2 → n3 ≤ n3' → nb ≤ nb' → zFx2 b n3 nb c m c2 m2 → zItA b n3' c2 (nI so, v) x → x + 5 * (zw T n i).2.2.1 ≤ 5 * (zw T n i).2.2.2 → (∀ M, zXL N (M + 1) 1 m = zbn (fX10_wanted_J297 N v m2) (fun x s => if x = 0 then some (.inl (0, s)) else if x = 2 then zXL N M 1 s else zXL N M 0 s)) → zSo T n b L N i n3 nb lc F k d op U rest c m (fX3_readOne_J75 N rc0 rc1 (nI d) (nI (zso2 (zw T n i).1)) v c2) ∨ zKo N b n3 nb (L - i + 1) c m (fX3_readOne_J75 N rc0 rc1 (nI d) (nI (zso2 (zw T n i).1)) v c2) := by
    intro so n3' nb' v c2 m2 x hso hms hs2 hlt2 hn3 hnb hfr hit hcost hxl
    rw [hs2]
    obtain ⟨c', m', j1, j2, j3⟩ := leafTail (N := N) (v := v) (p0 := nI d) (rc0 := rc0) (rc1 := rc1) hx hiL (by omega) h24 hso hms hlt2
    have hfr2 := zFx2_trans hfr j2 hn3 hnb
    rcases j3 with ⟨b1, b2, b3⟩ | ⟨b1, b2, b3, b4, b5, b6⟩
    · left
      refine ⟨i + 1, n3', nb', k + 1, 1, [((nI so, v), x)], c', m', by omega, b2, fun M => ?_, b3, b1, hn3, hnb, ⟨by omega, rfl⟩, hfr2, Or.inl ⟨(nI so, v), so, rfl, hso, rfl⟩, fun q hq => ?_, ?_, by show 1 ≤ i + 1 - i; omega⟩
      · rw [show i + 1 - i = 1 by omega, hxl, j1, zbn_s, if_neg (by decide), if_neg (by decide)]
      · rw [List.mem_singleton.mp hq]
        exact zItA_mono hit (Nat.le_refl _) (fun y hy => j2.2.1 y hy)
      · show x + 0 + 5 * (zw T n i).2.2.1 ≤ 5 * (zw T n (i + 1)).2.2.1
        omega
    · right
      obtain ⟨f, fa, fb, fc⟩ := cx_bad hx (show i + 1 ≤ L by omega) b1
      obtain ⟨m'', y1, y2⟩ := x_bad0 (N := N) (M := 0) b5 (cx_w hx (show i + 1 ≤ L by omega)) b1 b6 (by omega)
      refine ⟨c', m'', f, (zw T n (i + 1)).2.2.1, 2, b2, by omega, fun M => ?_, ?_, ?_⟩
      · obtain ⟨m3, y3, y4⟩ := x_bad0 (N := N) (M := M) b5 (cx_w hx (show i + 1 ≤ L by omega)) b1 b6 (by omega)
        rw [show M + 2 = (M + 1) + 1 by omega, hxl, j1, zbn_s, if_neg (by decide), if_neg (by decide), y3]
        unfold zBF at y2 y4
        rw [y2, y4]
      · unfold zBF at y2
        rw [y2]
        exact ⟨fa, by omega, by rw [b3, fc], b4, ((zsc_ne (by decide)).trans zsc_at).trans fc, zsc_at⟩
      · unfold zBF at y2
        rw [y2]
        exact zFx2_trans hfr2 zMf_F (Nat.le_refl _) (Nat.le_refl _)
  have hlt0 : ∀ n3' nb' c2 m2, zPC T n b L i c2 → zPM T n i m2 → zPN b n3' nb' c2 m2 → nb' ≤ (zw T n i).2.2.2 → zIC b lc c2 → zIM lc m2 → zSK (U ++ rest) m2 → (c2.1 307 = nI F ∧ c2.1 308 = nI (k + 1) ∧ m2.1 3324 = nI (F + (k + 1)) ∧ m2.1 3325 = nI (k + 1) ∧ k + 1 ≤ 60) → m2.1 3326 = nI d → m2.1 3327 = nI op → zLt T n b L i n3' nb' lc F (k + 1) d op U rest c2 m2 := fun n3' nb' c2 m2 q1 q2 q3 q4 q5 q6 q7 q8 q9 q10 => ⟨q1, q2, q3, q4, q5, q6, q7, q8, q9, q10, ⟨l1, l3, l4, l5⟩, hU, hr, hUd⟩
  have e26 : m1.1 3326 = nI d := (zm1.1 3326 (by decide)).trans h9
  have e27 : m1.1 3327 = nI op := (zm1.1 3327 (by decide)).trans h10
  by_cases ck : (zw T n i).1 = 1
  · rw [if_pos (show nI (zw T n i).1 = 1 by rw [ck]; rfl)]
    obtain ⟨w1, w2, w3, w4, w5⟩ := zW_nm hW (Or.inl ck)
    rcases p_name (N := N) pc1 pm1 x4 hi hW (Or.inl ck) pn1 (by omega) (by omega) with ⟨kk, n3', nb', c2, m2, p1, p2, p3, p4, p5, p6, p7, p8, p9, p10, p11, p12, p13, p14⟩ | ⟨c2, p1, p2, p3, p4, p5⟩
    · rw [p1, zbt_s]
      have hbb := zb_lt hb
      have nkc : ∀ y, y ≠ 100 * (b + 7) + 3 → y ≠ 100 * b + 5 → c2.1 y = c1.1 y := fun y q1 q2 => p9.1 y (by simp [q1, q2])
      have zp9 : zeq (zKX b) [b + 6, b + 8, b + 9] c1 c2 := zeq_mono p9 (fun y hy => by unfold zKX; simp only [List.mem_cons, List.not_mem_nil, or_false] at hy ⊢; omega) (fun y hy => by simp only [List.mem_cons, List.not_mem_nil, or_false] at hy ⊢; omega)
      have pc2 : zPC T n b L i c2 := zPC_keep pc1 (zeq_mono p9 (fun y hy => by unfold zKC; simp only [List.mem_cons, List.not_mem_nil, or_false] at hy ⊢; omega) (fun y hy => by unfold zAC; simp only [List.mem_cons, List.not_mem_nil, or_false] at hy ⊢; omega)) (nkc _ (by omega) (by omega)) (nkc _ (by omega) (by omega)) (nkc _ (by omega) (by omega)) (nkc _ (by omega) (by omega)) (nkc _ (by omega) (by omega))
      have fr2 : zFx2 b n3 nb c1 m1 c2 m2 := ⟨zp9, p10, p11, zeq_mono p12 (fun _ h => absurd h List.not_mem_nil) (by decide), p13, fun j _ hj => p14 j hj⟩
      refine tail 1 n3' nb' (nI kk) c2 m2 ((zw T n i).2.2.2 - (zw T n i).2.2.1) (by omega) (by rw [ck]; rfl) (by rw [ck]; rfl) (hlt0 n3' nb' c2 m2 pc2 (zPM_keep pm1 p12 (by simp) (by decide)) p7 (by omega) (zIC_keep ic1 (nkc _ (by omega) (by omega)) (p9.2.1 _ (by simp))) (zIM_keep im1 (p14 2 (by decide)) (p12.2.1 39 (by decide))) (zSK_keep sk1 (p12.1 _ List.not_mem_nil) (p12.2.1 43 (by decide))) ⟨(nkc _ (by omega) (by omega)).trans cnt1.1, (nkc _ (by omega) (by omega)).trans cnt1.2.1, (p12.1 _ List.not_mem_nil).trans cnt1.2.2.1, (p12.1 _ List.not_mem_nil).trans cnt1.2.2.2.1, cnt1.2.2.2.2⟩ ((p12.1 _ List.not_mem_nil).trans e26) ((p12.1 _ List.not_mem_nil).trans e27)) p4 p5 (zFx2_trans fr1 fr2 (Nat.le_refl _) (Nat.le_refl _)) (Or.inr (Or.inl ⟨rfl, kk, _, p3, rfl, p8, Nat.le_refl _⟩)) (by omega) (fun M => ?_)
      have hne : ∀ k, k < 150 → ¬ nI k = (-1) := by decide +kernel
      have h15 : m1.1 3315 = 1 := by rw [pm1.2.1.1, ck]; rfl
      have h15' : m2.1 3315 = 1 := (p12.1 _ List.not_mem_nil).trans h15
      rw [hmod, t2, zbn_s, if_neg (show ¬ (1 : Int32) = 0 by decide), h15, if_pos rfl, p2, zbn_s]
      unfold fX10_wanted_J274
      rw [h15', if_pos rfl, if_neg (hne kk (by have := p7.1; omega))]
    · rw [p1, zbt_n]
      right
      have h15 : m1.1 3315 = 1 := by rw [pm1.2.1.1, ck]; rfl
      refine ⟨c2, zsc (zsc m1 3320 (nI 8)) 3321 (nI (zw T n i).2.2.1), 8, (zw T n i).2.2.1, 1, rfl, by omega, fun M => ?_, ⟨by omega, by omega, p4, p5, (zsc_ne (by decide)).trans zsc_at, zsc_at⟩, ?_⟩
      · rw [hmod, t2, zbn_s, if_neg (show ¬ (1 : Int32) = 0 by decide), h15, if_pos rfl, p2, zbn_s]
        unfold fX10_wanted_J274
        rw [h15, if_pos rfl, if_pos rfl, q_fail (x := 8) (y := 8) pm1 rfl, zbn_s, zbn_s, if_pos rfl, if_neg h24]
      · exact zFx2_trans fr1 (zFx2_trans (zFx2_c p3 (fun k hk => by unfold zKX; simp only [List.mem_cons, List.not_mem_nil, or_false] at hk ⊢; omega)) zMf_F (Nat.le_refl _) (Nat.le_refl _)) (Nat.le_refl _) (Nat.le_refl _)
  · rw [if_neg (show ¬ nI (zw T n i).1 = (1 : Int32) from fun z => ck ((nI_eq (b := 1) (by omega) (by decide)).mp z)), g73]
    have hval : fX8_valueOf N (nI i) c1 = some ((zw T n i).2.1, c1) := by
      unfold fX8_valueOf
      rw [(zcell_w pc1 i hi x4).2.2]
      rfl
    rw [hval, zbn_s]
    have L0 := hlt0 n3 nb c1 m1 pc1 pm1 pn1 (by omega) ic1 im1 sk1 cnt1 e26 e27
    have h15 : m1.1 3315 = nI (zMs (zw T n i).1) := pm1.2.1.1
    have h274 : ¬ nI (zMs (zw T n i).1) = 1 → ∀ v, fX10_wanted_J274 N v m1 = fX10_wanted_J297 N v m1 := by
      intro q v
      unfold fX10_wanted_J274
      rw [h15, if_neg q]
    rcases hkd with hk | hk | hk | hk | hk
    · exact absurd hk ck
    · -- HERE
      have hv : (zw T n i).2.1 = 0 := by
        rcases hW with ⟨g1, -⟩ | ⟨g1, -⟩ | ⟨-, -, -, g4⟩
        · omega
        · omega
        · rcases g4 with ⟨q, -⟩ | ⟨q, q2⟩ | ⟨q, -⟩ | ⟨q, -⟩ | ⟨q, -⟩ | ⟨q, -⟩ | ⟨q, q2, -⟩
          · omega
          · exact q2
          all_goals omega
      refine tail 3 n3 nb _ c1 m1 1 (by omega) (by rw [hk]; rfl) (by rw [hk]; rfl) L0 (Nat.le_refl _) (Nat.le_refl _) fr1 (Or.inr (Or.inr (Or.inr (Or.inl ⟨rfl, Nat.le_refl _⟩)))) (by omega) (fun M => ?_)
      rw [hmod, t2, zbn_s, if_neg (show ¬ (1 : Int32) = 0 by decide), h15, hk, if_neg (show ¬ nI (zMs 3) = 1 by decide), if_pos (show nI (zMs 3) = 7 from rfl), h274 (by rw [hk]; decide), hv]
    · -- DIGIT
      have hv : ∃ v : Nat, v < 10 ∧ (zw T n i).2.1 = nI v := by
        rcases hW with ⟨g1, -⟩ | ⟨g1, -⟩ | ⟨-, -, -, g4⟩
        · omega
        · omega
        · rcases g4 with ⟨q, -⟩ | ⟨q, q2⟩ | ⟨q, v, q1, q2, -⟩ | ⟨q, -⟩ | ⟨q, -⟩ | ⟨q, -⟩ | ⟨q, q2, -⟩
          · omega
          · omega
          · exact ⟨v, q1, q2⟩
          all_goals omega
      obtain ⟨v, v1, v2⟩ := hv
      refine tail 0 n3 nb _ c1 m1 1 (by omega) (by rw [hk]; rfl) (by rw [hk]; rfl) L0 (Nat.le_refl _) (Nat.le_refl _) fr1 (Or.inl ⟨rfl, Or.inr ⟨v, v1, v2, Nat.le_refl _⟩⟩) (by omega) (fun M => ?_)
      rw [hmod, t2, zbn_s, if_neg (show ¬ (1 : Int32) = 0 by decide), h15, hk, if_neg (show ¬ nI (zMs 4) = 1 by decide), if_neg (show ¬ nI (zMs 4) = 7 by decide), h274 (by rw [hk]; decide), pm1.2.1.2.2.2.1 (Or.inl hk)]
    · -- NUMBER
      have hv : (zw T n i).2.2.1 + 2 ≤ (zw T n i).2.2.2 := by
        rcases hW with ⟨g1, -⟩ | ⟨g1, -⟩ | ⟨-, -, -, g4⟩
        · omega
        · omega
        · rcases g4 with ⟨q, -⟩ | ⟨q, q2⟩ | ⟨q, -⟩ | ⟨q, q2⟩ | ⟨q, -⟩ | ⟨q, -⟩ | ⟨q, q2, -⟩
          · omega
          · omega
          · omega
          · exact q2
          all_goals omega
      refine tail 0 n3 nb _ c1 m1 10 (by omega) (by rw [hk]; rfl) (by rw [hk]; rfl) L0 (Nat.le_refl _) (Nat.le_refl _) fr1 (Or.inl ⟨rfl, Or.inl (Nat.le_refl _)⟩) (by omega) (fun M => ?_)
      rw [hmod, t2, zbn_s, if_neg (show ¬ (1 : Int32) = 0 by decide), h15, hk, if_neg (show ¬ nI (zMs 5) = 1 by decide), if_neg (show ¬ nI (zMs 5) = 7 by decide), h274 (by rw [hk]; decide), pm1.2.1.2.2.2.1 (Or.inr (Or.inl hk))]
    · -- LOCAL
      have hv : (zw T n i).2.2.1 + 2 ≤ (zw T n i).2.2.2 ∧ ∃ v : Nat, v < 20 ∧ (zw T n i).2.1 = nI v := by
        rcases hW with ⟨g1, -⟩ | ⟨g1, -⟩ | ⟨-, -, -, g4⟩
        · omega
        · omega
        · rcases g4 with ⟨q, -⟩ | ⟨q, q2⟩ | ⟨q, -⟩ | ⟨q, q2⟩ | ⟨q, q2, q3⟩ | ⟨q, -⟩ | ⟨q, q2, -⟩
          · omega
          · omega
          · omega
          · omega
          · exact ⟨q2, q3⟩
          all_goals omega
      obtain ⟨v0, v, v1, v2⟩ := hv
      refine tail 2 n3 nb _ c1 m1 2 (by omega) (by rw [hk]; rfl) (by rw [hk]; rfl) L0 (Nat.le_refl _) (Nat.le_refl _) fr1 (Or.inr (Or.inr (Or.inl ⟨rfl, v, v1, v2, Nat.le_refl _⟩))) (by omega) (fun M => ?_)
      rw [hmod, t2, zbn_s, if_neg (show ¬ (1 : Int32) = 0 by decide), h15, hk, if_neg (show ¬ nI (zMs 6) = 1 by decide), if_neg (show ¬ nI (zMs 6) = 7 by decide), h274 (by rw [hk]; decide), pm1.2.1.2.2.2.1 (Or.inr (Or.inr (Or.inl hk)))]
