set_option maxHeartbeats 400000 in
theorem t_fin0 {N n1 : Nat} {m : zS} (hn1 : n1 < 800) : ∃ v : Int32, fX10_takeOperand_J421 N (nI (7 * n1)) m = some (1, zsr m 38 (nI (7 * n1 + 4)) v) := by
  have z2 : zga 2 (zlen 36) = true := by decide +kernel
  have p3 : nI (7 * n1) + 3 = nI (7 * n1 + 3) := nI_add _ 3
  have p4 : nI (7 * n1) + 4 = nI (7 * n1 + 4) := nI_add _ 4
  refine ⟨(m.2.1 36 (2 : Int32).toNatClampNeg) - (m.2.1 38 (nI (7 * n1 + 3)).toNatClampNeg), ?_⟩
  unfold fX10_takeOperand_J421
  rw [if_pos z2, p3, if_pos (zga_l (by rfl) (show 7 * n1 + 3 < 11200 by omega) (by decide)), p4, if_pos (zga_l (by rfl) (show 7 * n1 + 4 < 11200 by omega) (by decide))]
set_option maxHeartbeats 400000 in
theorem zFM_38 {m : zS} {y : Nat} {v : Int32} (hy : y < 5600) : zFM m (zsr m 38 (nI y) v) := zFM_r (by decide) (by omega) (fun h => absurd h (by decide)) (fun h => absurd h (by decide)) (fun _ => hy) (fun h => absurd h (by decide)) (fun h => absurd h (by decide)) (fun h => absurd h (by decide)) (fun h => absurd h (by decide)) (fun h => absurd h (by decide))
set_option maxHeartbeats 400000 in
theorem OB_up {b n1 n3 nb n3' nb' : Nat} {c m c1 m1 : zS} {oc oc' : Option (Option Unit × zS)} {om om' : Option (Int32 × zS)} (h : zOB b n1 n3' nb' c1 m1 oc om) (hf : zFo b n1 n3 nb c m c1 m1) (h3 : n3 ≤ n3') (hb : nb ≤ nb') (ho : ∀ c', oc = some (none, c') → oc' = some (none, c')) (hm : ∀ m', om = some (0, m') → om' = some (0, m')) : zOB b n1 n3 nb c m oc' om' := by
  obtain ⟨c', m', fn, fp, a1, a2, a3, a4⟩ := h
  exact ⟨c', m', fn, fp, ho _ a1, hm _ a2, a3, zFo_trans hf a4 (Nat.le_refl _) h3 hb⟩
set_option maxHeartbeats 400000 in
theorem OC_up {T : Nat → Nat} {n L b n1 n3 nb n3' nb' : Nat} {c m c1 m1 : zS} {oc oc' : Option (Option Unit × zS)} {om om' : Option (Int32 × zS)} (h : zOC T n b L n1 n3' nb' c1 m1 oc om) (hf : zFo b n1 n3 nb c m c1 m1) (h3 : n3 ≤ n3') (hb : nb ≤ nb') (ho : ∀ c', oc = some (none, c') → oc' = some (none, c')) (hm : ∀ i' m', zPM T n i' m' → (zw T n i').1 = 24 → i' ≤ L → om = some (1, m') → ∃ m'', om' = some (1, m'') ∧ zeq [] [38] m' m'' ∧ zFM m' m'') : zOC T n b L n1 n3 nb c m oc' om' := by
  obtain ⟨i', c', m', a1, a2, a3, a4, a5, a6, a7, a8⟩ := h
  obtain ⟨m'', b1, b2, b3⟩ := hm i' m' a7 a4 a3 a2
  refine ⟨i', c', m'', ho _ a1, b1, a3, a4, a5, a6, zPM_keep a7 b2 (by simp) (by decide), zFo_trans hf (zFo_trans a8 (n1' := n1) (n3' := n3') (nb' := nb') ⟨zeq_refl _ _ _, fun _ _ => rfl, fun _ _ => rfl, fun _ _ => rfl, zeq_mono b2 (fun _ h => absurd h List.not_mem_nil) (by decide), b3, by rw [b2.2.1 36 (by decide)]⟩ (Nat.le_refl _) (Nat.le_refl _) (Nat.le_refl _)) (Nat.le_refl _) h3 hb⟩
set_option maxHeartbeats 1000000 in
theorem tailI {N n b L i n0 s0 n1 n3 nb nl F k pl mk : Nat} {T : Nat → Nat} {lc : List (Int32 × Int32)} {c m : zS} (hx : zCx T n L N) (h : zMI T n b L i n0 s0 n1 n3 nb nl lc F k pl 0 0 mk (-1) c m) (h24 : (zw T n i).1 ≠ 24) (hn1 : 2 * n1 + 2 ≤ i) (hk : lc.length = F + k) : (∃ (i' so : Nat) (c' m' : zS), i ≤ i' ∧ fX3_readOperand_J154 N c = some (some (), c') ∧ fX10_takeOperand_J395 N (nI (7 * n1)) 1 m = some (1, m') ∧ (zw T n i').1 ≠ 24 ∧ zEN T n b L i' n0 s0 (n1 + 1) n3 nb nl lc c' m' ∧ zFo b n1 n3 nb c m c' m' ∧ c'.2.1 (b + 8) = c.2.1 (b + 8) ∧ (so = 0 ∨ so = 2) ∧ c'.2.1 (b + 4) (n1 * 8 + 0) = nI so ∧ (so = 2 → ∃ r : Nat, r < 32 ∧ c'.2.1 (b + 4) (n1 * 8 + 1) = nI r) ∧ c'.2.1 (b + 4) (n1 * 8 + 2) = nI mk ∧ c'.2.1 (b + 4) (n1 * 8 + 3) = nI F ∧ c'.2.1 (b + 4) (n1 * 8 + 4) = nI k ∧ (if so = 2 then 5 else 0) + 5 * (zw T n i).2.2.1 ≤ 5 * (zw T n i').2.2.1) ∨ zOB b n1 n3 nb c m (fX3_readOperand_J154 N c) (fX10_takeOperand_J395 N (nI (7 * n1)) 1 m) ∨ zOC T n b L n1 n3 nb c m (fX3_readOperand_J154 N c) (fX10_takeOperand_J395 N (nI (7 * n1)) 1 m) := by
  have hb := h.1.1.1
  have hbb := zb_lt hb
  have hi := h.1.2.1
  obtain ⟨x1, x2, x3, x4, x5, x6⟩ := id hx
  have hlt := zw_lt (cx_w hx hi)
  have h2 : zPM T n i m := h.1.2.2.1
  have g4 : c.1 304 = nI (zw T n i).1 := h.1.1.2.2.2.2.2.2.2.1
  by_cases c9 : (zw T n i).1 = 9
  · obtain ⟨c1, hc1⟩ : ∃ c1, c1 = zsr c (b + 4) (nI (n1 * 8 + 0)) 2 := ⟨_, rfl⟩
    obtain ⟨A1, A2, A3⟩ := zMI_w (c' := c1) (m' := m) (sc' := 2) (sm' := 0) (mk' := mk) (rv' := -1) h (by omega) (Or.inr ⟨0, 2, by omega, hc1⟩) (Or.inl rfl) (by rw [hc1]; exact zRow_c0 h.2.2.2.2 (by omega) rfl)
    have hC : fX3_readOperand_J154 N c = zbt (fX3_readBase N c1) (fun sx => some (none, sx)) (fun _ s17 => fX3_readOperand_J191 N s17) := by
      unfold fX3_readOperand_J154
      rw [g4, if_pos (show nI (zw T n i).1 = 9 by rw [c9]; rfl), h.1.1.2.1, if_pos hb, h.2.2.2.1, o_set (n1 := n1) (j := 0) (y := 0) hb h.1.1.2.2.1 h.2.2.1.2.1.2.1 (by omega) (by omega) rfl rfl, zbn_s, ← hc1]
    have hM : fX10_takeOperand_J395 N (nI (7 * n1)) 1 m = zbn (fX10_based N (nI (7 * n1)) m) (fun x30 s31 => if x30 = 0 then some (0, s31) else fX10_takeOperand_J421 N (nI (7 * n1)) s31) := by
      unfold fX10_takeOperand_J395
      rw [if_neg (show ¬ (1 : Int32) = 0 by decide), q_sign_t (kx := 9) (x := 40) h2 rfl (by omega) c9, zbn_s, if_neg (show ¬ (1 : Int32) = 0 by decide)]
    rw [hC, hM]
    rcases baseI (N := N) hx A1 c9 (by omega) with ⟨r, c2, m2, u1, u2, u3, u4, u5, u6, u7, u8⟩ | B | C
    · left
      obtain ⟨c3, m3, v1, v2, v3, v4, v5, v6, v7, v8, v9, v10⟩ := finI (N := N) hx u5 (by omega) hk
      refine ⟨i + 3, 2, c3, m3, by omega, by rw [u2, zbt_s, v1], by rw [u3, zbn_s, if_neg (show ¬ (1 : Int32) = 0 by decide), v2], u4, v3, zFo_trans A2 (zFo_trans u6 v4 (Nat.le_refl _) (Nat.le_refl _) (Nat.le_refl _)) (Nat.le_refl _) (Nat.le_refl _) (Nat.le_refl _), by rw [v5, u7, A3], Or.inr rfl, v6, fun _ => ⟨r, u1, v7⟩, v8, v9, v10, ?_⟩
      rw [if_pos rfl]
      omega
    · exact Or.inr (Or.inl (OB_up B A2 (Nat.le_refl _) (Nat.le_refl _) (fun c' e => by rw [e, zbt_n]) (fun m' e => by rw [e, zbn_s, if_pos rfl])))
    · refine Or.inr (Or.inr (OC_up C A2 (Nat.le_refl _) (Nat.le_refl _) (fun c' e => by rw [e, zbt_n]) (fun i' m' _ _ _ e => ?_)))
      obtain ⟨v, ev⟩ := t_fin0 (N := N) (n1 := n1) (m := m') (by omega)
      exact ⟨_, by rw [e, zbn_s, if_neg (show ¬ (1 : Int32) = 0 by decide), ev], zeq_r (by simp), zFM_38 (by omega)⟩
  · left
    obtain ⟨c3, m3, v1, v2, v3, v4, v5, v6, v7, v8, v9, v10⟩ := finI (N := N) hx h (by omega) hk
    refine ⟨i, 0, c3, m3, Nat.le_refl _, ?_, ?_, h24, v3, v4, v5, Or.inl rfl, v6, fun z => absurd z (by omega), v8, v9, v10, ?_⟩
    · unfold fX3_readOperand_J154
      rw [g4, if_neg (show ¬ nI (zw T n i).1 = (9 : Int32) from fun z => c9 ((nI_eq (b := 9) (by omega) (by decide)).mp z)), v1]
    · unfold fX10_takeOperand_J395
      rw [if_neg (show ¬ (1 : Int32) = 0 by decide), q_sign_f (kx := 9) (x := 40) h2 hlt rfl (by omega) c9, zbn_s, if_pos rfl, v2]
    · rw [if_neg (by omega)]
      omega
theorem zMs_q : ∀ kd, kd < 25 → (nI (zMs kd) = 4 ↔ kd = 7) ∧ (nI (zMs kd) = 1 ↔ kd = 1 ∨ kd = 2) ∧ (nI (zMs kd) = 7 ↔ kd = 3) ∧ (nI (zMs kd) = 2 ↔ kd = 4 ∨ kd = 5) ∧ (nI (zMs kd) = 3 ↔ kd = 6) ∧ (nI (zMs kd) = 0 ↔ kd = 0) := by decide +kernel
set_option maxHeartbeats 400000 in
theorem take_y {N n i : Nat} {T : Nat → Nat} {m : zS} (h : zPM T n i m) (hlt : (zw T n i).1 < 25) (hk : (1 ≤ (zw T n i).1 ∧ (zw T n i).1 ≤ 7) ∨ (zw T n i).1 = 9 ∨ (zw T n i).1 = 13 ∨ (zw T n i).1 = 16 ∨ (zw T n i).1 = 23) : fX10_takeOperand N m = fX10_takeOperand_J82 N 1 m := by
  obtain ⟨z4, z1, z7, z2, z3, z0⟩ := zMs_q _ hlt
  unfold fX10_takeOperand fX10_takeOperand_J77
  rw [h.2.1.1]
  by_cases a1 : nI (zMs (zw T n i).1) = 1
  · rw [if_pos a1]
  rw [if_neg a1]
  by_cases a2 : nI (zMs (zw T n i).1) = 2
  · rw [if_pos a2]
  rw [if_neg a2]
  by_cases a3 : nI (zMs (zw T n i).1) = 3
  · rw [if_pos a3]
  rw [if_neg a3]
  by_cases a7 : nI (zMs (zw T n i).1) = 7
  · rw [if_pos a7]
  rw [if_neg a7]
  by_cases a4 : nI (zMs (zw T n i).1) = 4
  · rw [if_pos a4]
  rw [if_neg a4]
  rw [z1] at a1; rw [z2] at a2; rw [z3] at a3; rw [z7] at a7; rw [z4] at a4
  by_cases b1 : (zw T n i).1 = 16
  · rw [q_sign_t (kx := 16) (x := 37) h rfl (by omega) b1, zbn_s, if_neg (show ¬ (1 : Int32) = 0 by decide)]
  rw [q_sign_f (kx := 16) (x := 37) h hlt rfl (by omega) b1, zbn_s, if_pos rfl]
  by_cases b2 : (zw T n i).1 = 9
  · rw [q_sign_t (kx := 9) (x := 40) h rfl (by omega) b2, zbn_s, if_neg (show ¬ (1 : Int32) = 0 by decide)]
  rw [q_sign_f (kx := 9) (x := 40) h hlt rfl (by omega) b2, zbn_s, if_pos rfl]
  by_cases b3 : (zw T n i).1 = 13
  · rw [q_sign_t (kx := 13) (x := 45) h rfl (by omega) b3, zbn_s, if_neg (show ¬ (1 : Int32) = 0 by decide)]
  rw [q_sign_f (kx := 13) (x := 45) h hlt rfl (by omega) b3, zbn_s, if_pos rfl]
  rw [q_sign_t (kx := 23) (x := 126) h rfl (by omega) (by omega), zbn_s, if_neg (show ¬ (1 : Int32) = 0 by decide)]
set_option maxHeartbeats 400000 in
theorem take_n {N n i : Nat} {T : Nat → Nat} {m : zS} (h : zPM T n i m) (hlt : (zw T n i).1 < 25) (hk : ¬ ((1 ≤ (zw T n i).1 ∧ (zw T n i).1 ≤ 7) ∨ (zw T n i).1 = 9 ∨ (zw T n i).1 = 13 ∨ (zw T n i).1 = 16 ∨ (zw T n i).1 = 23)) : fX10_takeOperand N m = some (0, zsc (zsc m 3320 (if (zw T n i).1 = 24 then (zw T n i).2.1 else nI 5)) 3321 (nI (zw T n i).2.2.1)) := by
  obtain ⟨z4, z1, z7, z2, z3, z0⟩ := zMs_q _ hlt
  unfold fX10_takeOperand fX10_takeOperand_J82
  rw [h.2.1.1, if_neg (fun z => by have := z1.mp z; omega), if_neg (fun z => by have := z2.mp z; omega), if_neg (fun z => by have := z3.mp z; omega), if_neg (fun z => by have := z7.mp z; omega), if_neg (fun z => by have := z4.mp z; omega), q_sign_f (kx := 16) (x := 37) h hlt rfl (by omega) (by omega), zbn_s, if_pos rfl, q_sign_f (kx := 9) (x := 40) h hlt rfl (by omega) (by omega), zbn_s, if_pos rfl, q_sign_f (kx := 13) (x := 45) h hlt rfl (by omega) (by omega), zbn_s, if_pos rfl, q_sign_f (kx := 23) (x := 126) h hlt rfl (by omega) (by omega), zbn_s, if_pos rfl, if_pos rfl, q_fail (x := 5) (y := 5) h rfl, zbn_s, if_pos (show zbo (0 : Int32) = true by decide)]
set_option maxHeartbeats 1000000 in
theorem op_expr {N n b L i n0 s0 n1 n3 nb nl : Nat} {T : Nat → Nat} {lc : List (Int32 × Int32)} {c m : zS} (hx : zCx T n L N) (h : zEN T n b L i n0 s0 n1 n3 nb nl lc c m) (hn1 : 2 * n1 + 1 ≤ i) (hkd : zcan (zw T n i).1 = true) (h9 : (zw T n i).1 = 9 → (zw T n (i + 1)).1 ≠ 2) : zOA T n b L i n0 s0 n1 n3 nb nl lc c m (fX3_readOperand N c) (fX10_takeOperand N m) ∨ zOB b n1 n3 nb c m (fX3_readOperand N c) (fX10_takeOperand N m) ∨ zOC T n b L n1 n3 nb c m (fX3_readOperand N c) (fX10_takeOperand N m) := by
  have hb := h.1.1
  have hi := h.2.1
  have h2 := h.2.2.1
  obtain ⟨x1, x2, x3, x4, x5, x6⟩ := id hx
  have hlt := zw_lt (cx_w hx hi)
  have hkd' : (zw T n i).1 = 1 ∨ (zw T n i).1 = 3 ∨ (zw T n i).1 = 4 ∨ (zw T n i).1 = 5 ∨ (zw T n i).1 = 6 ∨ (zw T n i).1 = 9 ∨ (zw T n i).1 = 13 ∨ (zw T n i).1 = 23 := of_decide_eq_true hkd
  have h24 : (zw T n i).1 ≠ 24 := by omega
  have hiL : i < L := cx_lt hx hi (by omega) h24
  have g3 : c.1 303 = nI i := h.1.2.2.2.2.2.2.1
  have g4 : c.1 304 = nI (zw T n i).1 := h.1.2.2.2.2.2.2.2.1
  have nk : ∀ (k : Nat) (y : Int32), y = nI k → k < 25 → (zw T n i).1 ≠ k → ¬ nI (zw T n i).1 = y := fun k y hy hk hne z => hne ((nI_eq (by omega) (by omega)).mp (z.trans hy))
  obtain ⟨c1, m1, b1, b2, b3, b4, -, b5⟩ := begI (N := N) (x := 0) (so := 0) hx h rfl
  have hC : fX3_readOperand N c = zbt (fX3_readSides N 1 1 c1) (fun sx => some (none, sx)) (fun _ s5 => fX3_readOperand_J154 N s5) := by
    have e107 : fX3_readOperand_J107 N 0 c = zbt (fX3_readSides N 1 1 c1) (fun sx => some (none, sx)) (fun _ s5 => fX3_readOperand_J154 N s5) := by
      unfold fX3_readOperand_J107 fX3_readOperand_J121 fX3_readOperand_J134
      rw [if_pos rfl, g4, q_can hlt, zbn_s, hkd, if_neg (show ¬ zb1 true = 0 by decide), b1, zbt_s, if_pos rfl]
      rfl
    unfold fX3_readOperand fX3_readOperand_J14
    rw [g4, if_neg (nk 16 16 rfl (by omega) (by omega)), if_neg (nk 2 2 rfl (by omega) (by omega)), if_neg (nk 7 7 rfl (by omega) (by omega))]
    by_cases c9 : (zw T n i).1 = 9
    · rw [if_pos (show nI (zw T n i).1 = 9 by rw [c9]; rfl), g3, show nI i + 1 = nI (i + 1) from nI_1 _, (k_kind h.1 (show i + 1 ≤ L by omega) x4).1, zbn_s, if_neg (show ¬ nI (zw T n (i + 1)).1 = (2 : Int32) from fun z => h9 c9 ((nI_eq (b := 2) (by have := zw_lt (cx_w hx (show i + 1 ≤ L by omega)); omega) (by decide)).mp z)), e107]
    · rw [if_neg (nk 9 9 rfl (by omega) c9), e107]
  have hMI2 : ∃ m2, fX10_isBase N m1 = some (0, m2) ∧ zMI T n b L i n0 s0 n1 n3 nb nl lc lc.length 0 (zw T n i).2.2.1 0 0 0 (-1) c1 m2 ∧ zFx2 b n3 nb c1 m1 c1 m2 := by
    by_cases c9 : (zw T n i).1 = 9
    · obtain ⟨m2, e1, e2, e3⟩ := isBase_y (N := N) hx hiL b2.1.2.2.1 c9
      rw [if_neg (h9 c9)] at e1
      obtain ⟨e4, e5⟩ := zMI_m b2 e2 e3
      exact ⟨m2, e1, e4, e5⟩
    · exact ⟨m1, isBase_n b2.1.2.2.1 hlt c9, b2, zFx2_refl _ _ _ _ _⟩
  obtain ⟨m2, e1, e2, e3⟩ := hMI2
  have h2' : zPM T n i m2 := e2.1.2.2.1
  have hM : fX10_takeOperand N m = zbn (fX10_expression N m2) (fun x21 s22 => fX10_takeOperand_J395 N (nI (7 * n1)) x21 s22) := by
    have q1 := (q_reg (N := N) b2.1.2.2.1 (cx_w hx hi)).1
    rw [if_neg (show ¬ (zw T n i).1 = 2 by omega)] at q1
    rw [take_y h2 hlt (by omega), b5, q1, zbn_s, b2.1.2.2.1.2.1.1, if_neg (fun z => by have := (zMs_q _ hlt).1.mp z; omega), if_pos rfl, e1, zbn_s, if_pos rfl, q_sign_f (kx := 16) (x := 37) h2' hlt rfl (by omega) (by omega), zbn_s, if_pos rfl]
  have hf1 : zFo b n1 n3 nb c m c1 m2 := zFo_trans b3 (zFo_x hb e3) (Nat.le_refl n1) (Nat.le_refl _) (Nat.le_refl _)
  rw [hC, hM]
  rcases p_expr (N := N) hx e2.1 h24 with ⟨i', n3', nb', fl, el, c2, m3, p1, p2, p3, p4, p5, p6, p7, p8, p9, p10, p11, p12⟩ | ⟨c2, m3, fn, fp, p1, p2, p3, p4⟩
  · have M3 := zMI_x e2 p8 p4 p7 (by omega)
    have hf2 : zFo b n1 n3 nb c m c2 m3 := zFo_trans hf1 (zFo_x hb p8) (Nat.le_refl n1) (Nat.le_refl _) (Nat.le_refl _)
    rw [p2, zbt_s, p3, zbn_s]
    rcases tailI (N := N) hx M3 p5 (by omega) (by rw [List.length_append, List.length_map]) with ⟨i2, so, c4, m4, t1, t2, t3, t4, t5, t6, t7, t8, t9, t10, t11, t12, t13, t14⟩ | B | C
    · left
      have so3 : so ≤ 3 := by omega
      have so2 : so = 1 ∨ so = 2 → so = 2 := by omega
      have son : so ≠ 1 ∧ so ≠ 3 := by omega
      have hi2 : i < i2 := by omega
      refine ⟨i2, n3', nb', nl, 2 + (if so = 2 then 5 else 0), el, c4, m4, hi2, t2, t3, t4, t5, p6, p7, zFo_trans hf2 t6 (Nat.le_refl _) p6 p7, ⟨so, 0, so3, Nat.zero_le _, t9, t11, t12, t13, p4.2.2.2.2.2.2.2.1.2.2.2.2, fun z => t10 (so2 z), fun z => absurd z (by omega), fun _ => ⟨fl, p9⟩, fun z => absurd z son.1, fun z => absurd z son.2, fun _ => ?_⟩, fun q hq => zItA_mono (p10 q hq) (Nat.le_refl _) (fun y _ => by rw [t7]), ?_⟩
      · rw [if_pos rfl]; omega
      · omega
    · exact Or.inr (Or.inl (OB_up B hf2 p6 p7 (fun _ e => e) (fun _ e => e)))
    · exact Or.inr (Or.inr (OC_up C hf2 p6 p7 (fun _ e => e) (fun i' m' _ _ _ e => ⟨m', e, zeq_refl _ _ _, zFM_refl _⟩)))
  · right
    left
    refine ⟨c2, m3, fn, fp, by rw [p1, zbt_n], ?_, p3, zFo_trans hf1 (zFo_x hb p4) (Nat.le_refl n1) (Nat.le_refl _) (Nat.le_refl _)⟩
    rw [p2, zbn_s]
    unfold fX10_takeOperand_J395
    rw [if_pos rfl]
set_option maxHeartbeats 1000000 in
theorem op_reg {N n b L i n0 s0 n1 n3 nb nl : Nat} {T : Nat → Nat} {lc : List (Int32 × Int32)} {c m : zS} (hx : zCx T n L N) (h : zEN T n b L i n0 s0 n1 n3 nb nl lc c m) (hn1 : 2 * n1 + 1 ≤ i) (hkd : (zw T n i).1 = 2) : zOA T n b L i n0 s0 n1 n3 nb nl lc c m (fX3_readOperand N c) (fX10_takeOperand N m) ∨ zOB b n1 n3 nb c m (fX3_readOperand N c) (fX10_takeOperand N m) ∨ zOC T n b L n1 n3 nb c m (fX3_readOperand N c) (fX10_takeOperand N m) := by
  have hb := h.1.1
  have hi := h.2.1
  have h2 := h.2.2.1
  obtain ⟨x1, x2, x3, x4, x5, x6⟩ := id hx
  have hlt := zw_lt (cx_w hx hi)
  have h24 : (zw T n i).1 ≠ 24 := by omega
  have hiL : i < L := cx_lt hx hi (by omega) h24
  have hadv := zw_adv x1 x2 hiL
  have g4 : c.1 304 = nI (zw T n i).1 := h.1.2.2.2.2.2.2.2.1
  have nk : ∀ (k : Nat) (y : Int32), y = nI k → k < 25 → (zw T n i).1 ≠ k → ¬ nI (zw T n i).1 = y := fun k y hy hk hne z => hne ((nI_eq (by omega) (by omega)).mp (z.trans hy))
  obtain ⟨c1, m1, b1, b2, b3, b4, -, b5⟩ := begI (N := N) (x := 1) (so := 1) hx h rfl
  obtain ⟨r, hr, r1, r2⟩ := regI (N := N) hx b2 hkd (by omega)
  obtain ⟨ma, hma⟩ : ∃ ma, ma = zsr m1 38 (nI (7 * n1)) 1 := ⟨_, rfl⟩
  obtain ⟨m2, hm2⟩ : ∃ m2, m2 = zsr ma 38 (nI (7 * n1 + 1)) (nI r) := ⟨_, rfl⟩
  obtain ⟨c2, hc2⟩ : ∃ c2, c2 = zsr c1 (b + 4) (nI (n1 * 8 + 1)) (nI r) := ⟨_, rfl⟩
  obtain ⟨A1, A2, A3⟩ := zMI_w (c' := c1) (m' := ma) (sc' := 1) (sm' := 1) (mk' := 0) (rv' := -1) b2 (by omega) (Or.inl rfl) (Or.inr ⟨0, 1, by omega, hma⟩) (by rw [hma]; exact zRow_m0 b2.2.2.2.2 (by omega) rfl)
  obtain ⟨B1, B2, B3⟩ := zMI_w (c' := c2) (m' := m2) (sc' := 1) (sm' := 1) (mk' := 0) (rv' := nI r) A1 (by omega) (Or.inr ⟨1, nI r, by omega, hc2⟩) (Or.inr ⟨1, nI r, by omega, hm2⟩) (by rw [hc2, hm2]; exact zRow_1 A1.2.2.2.2 (by omega))
  have hf2 : zFo b n1 n3 nb c m c2 m2 := zFo_trans b3 (zFo_trans A2 B2 (Nat.le_refl _) (Nat.le_refl _) (Nat.le_refl _)) (Nat.le_refl _) (Nat.le_refl _) (Nat.le_refl _)
  have hC : fX3_readOperand N c = zbt (fX3_step N c2) (fun sx => some (none, sx)) (fun _ s60 => fX3_readOperand_J191 N s60) := by
    unfold fX3_readOperand fX3_readOperand_J14
    rw [g4, if_neg (nk 16 16 rfl (by omega) (by omega)), if_pos (show nI (zw T n i).1 = 2 by rw [hkd]; rfl), b1, zbt_s, r2, ← hc2]
    cases fX3_step N c2 with
    | none => rfl
    | some q =>
      obtain ⟨o, s⟩ := q
      cases o <;> rfl
  have hM : fX10_takeOperand N m = zbn (fX10_next N m2) (fun _ s48 => fX10_takeOperand_J421 N (nI (7 * n1)) s48) := by
    rw [take_y h2 hlt (by omega), b5, r1, zbn_s, b2.1.2.2.1.2.1.1, if_neg (fun z => by have := (zMs_q _ hlt).1.mp z; omega), if_neg (nI_m1 r (by omega)), if_pos (zga_l (by rfl) (show 7 * n1 < 11200 by omega) (by decide)), if_pos (zga_l (by rfl) (show 7 * n1 + 1 < 11200 by omega) (by decide)), ← hma, ← hm2]
  obtain ⟨c3, m3, j1, j2, j3, j4, j5, j6⟩ := stepI (N := N) hx B1 (by omega) (by omega)
  have hf3 : zFo b n1 n3 nb c m c3 m3 := zFo_trans hf2 (zFo_x hb j2) (Nat.le_refl n1) (Nat.le_refl _) (Nat.le_refl _)
  rw [hC, hM, j1, zbn_s]
  rcases j6 with ⟨p4, p5, p6⟩ | ⟨p4, p5, p6, p7⟩
  · left
    obtain ⟨c4, m4, v1, v2, v3, v4, v5, v6, v7, v8, v9, v10⟩ := finI (N := N) hx p6 (by omega) rfl
    refine ⟨i + 1, n3, nb, nl, 5, [], c4, m4, by omega, by rw [p5, zbt_s, v1], v2, p4, ?_, Nat.le_refl _, Nat.le_refl _, zFo_trans hf3 v4 (Nat.le_refl _) (Nat.le_refl _) (Nat.le_refl _), ⟨1, 0, by omega, by omega, v6, v8, v9, v10, Nat.zero_le _, fun _ => ⟨r, hr, v7⟩, fun _ => rfl, fun z => by omega, fun _ => Nat.le_refl _, fun z => by omega, fun z => by omega⟩, fun q hq => absurd hq List.not_mem_nil, ?_⟩
    · rw [List.map_nil, List.append_nil]; exact v3
    · show 0 + 5 + 5 * (zw T n i).2.2.1 ≤ 5 * (zw T n (i + 1)).2.2.1 + 2
      omega
  · right
    right
    obtain ⟨v, ev⟩ := t_fin0 (N := N) (n1 := n1) (m := m3) (by omega)
    exact OC_up (oc := some (none, c3)) (om := some (1, m3)) (n3' := n3) (nb' := nb) ⟨i + 1, c3, m3, rfl, rfl, by omega, p4, p6, p7, j3, zFo_x hb j2⟩ hf2 (Nat.le_refl _) (Nat.le_refl _) (fun c' e => by rw [p5, zbt_n]; exact e) (fun i' m' _ _ _ e => ⟨zsr m3 38 (nI (7 * n1 + 4)) v, ev, by cases e; exact zeq_r (by simp), by cases e; exact zFM_38 (by omega)⟩)
