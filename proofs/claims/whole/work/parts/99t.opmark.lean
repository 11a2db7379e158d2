set_option maxHeartbeats 400000 in
theorem expr_bad {N n i : Nat} {T : Nat → Nat} {m : zS} (hN : 1 ≤ N) (h : zPM T n i m) (hW : zWk T n (zps T n i) (zw T n i)) (hk : (zw T n i).1 = 24) : ∃ m0, zeq [3323, 3326, 3327] [] m m0 ∧ fX10_expression N m = some (0, zsc (zsc m0 3320 (if (zw T n i).1 = 24 then (zw T n i).2.1 else nI 5)) 3321 (nI (zw T n i).2.2.1)) := by
  obtain ⟨m0, hm0⟩ : ∃ m0, m0 = zsc (zsc (zsc m 3323 0) 3327 0) 3326 1 := ⟨_, rfl⟩
  have z0 : zeq [3323, 3326, 3327] [] m m0 := by rw [hm0]; exact zeq_trans (zeq_c (by decide)) (zeq_trans (zeq_c (by decide)) (zeq_c (by decide)))
  have p0 : zPM T n i m0 := zPM_keep h z0 (by decide) (by simp)
  obtain ⟨m', e1, e2⟩ := x_bad1 (N := N) (M := N - 1) p0 hW hk
  rw [show N - 1 + 1 = N by omega] at e1
  refine ⟨m0, z0, ?_⟩
  have hexp : fX10_expression N m = zbl (zXL N N 1 m0) (fun x => some x) (fun s51 => zbn (fX10_reduce N 0 s51) (fun _ s53 => some ((1 : Int32), s53))) := by
    unfold fX10_expression
    rw [← hm0]
    rfl
  unfold zBF at e2
  rw [hexp, e1, zbl_l, e2, if_pos hk]
set_option maxHeartbeats 2000000 in
theorem op_mark {N n b L i n0 s0 n1 n3 nb nl : Nat} {T : Nat → Nat} {lc : List (Int32 × Int32)} {c m : zS} (hx : zCx T n L N) (h : zEN T n b L i n0 s0 n1 n3 nb nl lc c m) (hn1 : 2 * n1 + 1 ≤ i) (hkd : (zw T n i).1 = 16) : zOA T n b L i n0 s0 n1 n3 nb nl lc c m (fX3_readOperand N c) (fX10_takeOperand N m) ∨ zOB b n1 n3 nb c m (fX3_readOperand N c) (fX10_takeOperand N m) ∨ zOC T n b L n1 n3 nb c m (fX3_readOperand N c) (fX10_takeOperand N m) := by
  have hb := h.1.1
  have hbb := zb_lt hb
  have hi := h.2.1
  have h2 := h.2.2.1
  obtain ⟨x1, x2, x3, x4, x5, x6⟩ := id hx
  have hlt := zw_lt (cx_w hx hi)
  have h24 : (zw T n i).1 ≠ 24 := by omega
  have z0 : zbo (0 : Int32) = true := by decide
  have no1 : ¬ (1 : Int32) = 0 := by decide
  have g4 : c.1 304 = nI (zw T n i).1 := h.1.2.2.2.2.2.2.2.1
  have nk : ∀ (k : Nat) (y : Int32), y = nI k → k < 25 → (zw T n i).1 ≠ k → ¬ nI (zw T n i).1 = y := fun k y hy hk hne z => hne ((nI_eq (by omega) (by omega)).mp (z.trans hy))
  obtain ⟨c1, m1, b1, b2, b3, b4, -, b5⟩ := begI (N := N) (x := 0) (so := 0) hx h rfl
  have hC : fX3_readOperand N c = zbt (fX3_readMark N c1) (fun sx => some (none, sx)) (fun _ s26 => fX3_readOperand_J134 N 1 s26) := by
    unfold fX3_readOperand fX3_readOperand_J14 fX3_readOperand_J107 fX3_readOperand_J121
    rw [g4, if_pos (show nI (zw T n i).1 = 16 by rw [hkd]; rfl), if_neg (nk 2 2 rfl (by omega) (by omega)), if_neg (nk 7 7 rfl (by omega) (by omega)), if_neg (nk 9 9 rfl (by omega) (by omega)), if_neg no1, b1, zbt_s, if_neg no1]
  have hM : fX10_takeOperand N m = zbn (fX10_marked N (nI (7 * n1)) m1) (fun x33 s34 => fX10_takeOperand_J395 N (nI (7 * n1)) x33 s34) := by
    have q1 := (q_reg (N := N) b2.1.2.2.1 (cx_w hx hi)).1
    rw [if_neg (show ¬ (zw T n i).1 = 2 by omega)] at q1
    rw [take_y h2 hlt (by omega), b5, q1, zbn_s, b2.1.2.2.1.2.1.1, if_neg (fun z => by have := (zMs_q _ hlt).1.mp z; omega), if_pos rfl, isBase_n b2.1.2.2.1 hlt (by omega), zbn_s, if_pos rfl, q_sign_t (kx := 16) (x := 37) b2.1.2.2.1 rfl (by omega) hkd, zbn_s, if_neg no1]
  have j395 : ∀ s, fX10_takeOperand_J395 N (nI (7 * n1)) 0 s = some (0, s) := fun s => by
    unfold fX10_takeOperand_J395
    rw [if_pos rfl]
  rw [hC, hM]
  obtain ⟨c2, m2, e1, e2, e3, e4, e5, e6⟩ := stepI (N := N) hx b2 (by omega) h24
  have hf2 : zFo b n1 n3 nb c m c2 m2 := zFo_trans b3 (zFo_x hb e2) (Nat.le_refl n1) (Nat.le_refl _) (Nat.le_refl _)
  have hW1 := cx_w hx (show i + 1 ≤ L by omega)
  have hlt1 := zw_lt hW1
  obtain ⟨y4, y1, y7, -, -, -⟩ := zMs_q _ hlt1
  have h15 : m2.1 3315 = nI (zMs (zw T n (i + 1)).1) := e3.2.1.1
  have a1 := zw_adv x1 x2 e4
  -- the word behind % is none of a name
  have mfail : ¬ ((zw T n (i + 1)).1 = 1 ∨ (zw T n (i + 1)).1 = 2 ∨ (zw T n (i + 1)).1 = 3) → fX10_marked N (nI (7 * n1)) m1 = some (0, zsc (zsc m2 3320 (if (zw T n (i + 1)).1 = 24 then (zw T n (i + 1)).2.1 else nI 5)) 3321 (nI (zw T n (i + 1)).2.2.1)) := by
    intro hh
    unfold fX10_marked
    rw [e1, zbn_s, h15, if_neg (fun z => by have := y1.mp z; omega), if_neg (fun z => by have := y7.mp z; omega), q_fail (x := 5) (y := 5) e3 rfl, zbn_s, if_pos z0]
  rcases e6 with ⟨d4, d5, d6⟩ | ⟨d4, d5, d6, d7⟩
  case inr =>
    refine Or.inr (Or.inl (OB_24 (x := 5) hx (show i + 1 ≤ L by omega) hb d4 d6 d7 hf2 (by unfold fX3_readMark; rw [d5, zbt_n, zbt_n]) ?_))
    rw [mfail (by omega), zbn_s, j395]
  have p4 : c2.1 304 = nI (zw T n (i + 1)).1 := d6.1.1.2.2.2.2.2.2.2.1
  have p5 : c2.1 305 = nI (zw T n (i + 1)).2.2.1 := d6.1.1.2.2.2.2.2.2.2.2
  have p3 : c2.1 303 = nI (i + 1) := d6.1.1.2.2.2.2.2.2.1
  have nk1 : ∀ (k : Nat) (y : Int32), y = nI k → k < 25 → (zw T n (i + 1)).1 ≠ k → ¬ nI (zw T n (i + 1)).1 = y := fun k y hy hk hne z => hne ((nI_eq (by omega) (by omega)).mp (z.trans hy))
  by_cases cn : (zw T n (i + 1)).1 = 1 ∨ (zw T n (i + 1)).1 = 2 ∨ (zw T n (i + 1)).1 = 3
  case neg =>
    refine Or.inr (Or.inl (OB_x (x := 5) (y := 5) hb d4 (by omega) (by omega) p5 hf2 rfl ?_ ?_))
    · unfold fX3_readMark
      rw [d5, zbt_s, p4, if_neg (nk1 1 1 rfl (by omega) (by omega)), if_neg (nk1 2 2 rfl (by omega) (by omega)), if_neg (nk1 3 3 rfl (by omega) (by omega))]
      rfl
    · rw [mfail cn, zbn_s, j395]
  obtain ⟨mk, hmk⟩ : ∃ mk, mk = (if (zw T n (i + 1)).1 = 1 then zmkn T (zw T n (i + 1)).2.2.1 ((zw T n (i + 1)).2.2.2 - (zw T n (i + 1)).2.2.1) else 0) := ⟨_, rfl⟩
  have hmk4 : mk ≤ 4 := by
    rw [hmk]
    split
    · exact zmkn_le _ _ _
    · omega
  have kC : fX2_numberOf N (nI (i + 1)) c2 = some (nI mk, c2) := by rw [q_markC hx d6.1.1 (by omega), ← hmk]
  have kM : fX10_mark N m2 = some (nI mk, m2) := by
    by_cases c3 : (zw T n (i + 1)).1 = 3
    · unfold fX10_mark
      rw [h15, if_neg (fun z => by have := y1.mp z; omega), hmk, if_neg (by omega)]
      rfl
    · obtain ⟨w1, w2, w3, w4, w5⟩ := zW_nm hW1 (by omega)
      have h9 := q_markM (N := N) e3.1 (h15.trans (y1.mpr (by omega))) e3.2.1.2.1 (zPM_to e3 (by omega) (by omega)) w3 w2 (zW_nm2 hW1 (by omega))
      rw [h9, hmk]
      by_cases c1 : (zw T n (i + 1)).1 = 1
      · rw [if_pos c1]
      · rw [if_neg c1, zmkn_reg ((q_reg (N := N) e3 hW1).2 (by omega))]
  have cM : fX3_readMark N c1 = (if nI mk = 0 then some (none, zRF c2 6) else fX3_readMark_J55 N (nI mk) c2) := by
    have hj : fX3_readMark_J33 N c2 = (if nI mk = 0 then some (none, zRF c2 6) else fX3_readMark_J55 N (nI mk) c2) := by
      unfold fX3_readMark_J33
      rw [p3, kC, zbn_s]
      rfl
    unfold fX3_readMark
    rw [d5, zbt_s, p4]
    rcases cn with cn | cn | cn
    · rw [if_pos (show nI (zw T n (i + 1)).1 = 1 by rw [cn]; rfl), hj]
    · rw [if_neg (nk1 1 1 rfl (by omega) (by omega)), if_pos (show nI (zw T n (i + 1)).1 = 2 by rw [cn]; rfl), hj]
    · rw [if_neg (nk1 1 1 rfl (by omega) (by omega)), if_neg (nk1 2 2 rfl (by omega) (by omega)), if_pos (show nI (zw T n (i + 1)).1 = 3 by rw [cn]; rfl), hj]
  have mM : fX10_marked N (nI (7 * n1)) m1 = fX10_marked_J27 N (nI (7 * n1)) m2 := by
    unfold fX10_marked
    rw [e1, zbn_s, h15]
    by_cases c3 : (zw T n (i + 1)).1 = 3
    · rw [if_neg (fun z => by have := y1.mp z; omega), if_pos (y7.mpr c3)]
    · rw [if_pos (y1.mpr (by omega))]
  by_cases ck : mk = 0
  · refine Or.inr (Or.inl (OB_x (x := 6) (y := 6) hb d4 (by omega) (by omega) p5 hf2 rfl ?_ ?_))
    · rw [cM, if_pos (show nI mk = 0 by rw [ck]; rfl), zbt_n]
    · rw [mM]
      unfold fX10_marked_J27
      rw [kM, zbn_s, if_pos (show nI mk = 0 by rw [ck]; rfl), q_fail (x := 6) (y := 6) e3 rfl, zbn_s, if_pos z0, zbn_s, j395]
  have nmk : ¬ nI mk = 0 := fun z => ck ((nI_eq (b := 0) (by omega) (by decide)).mp z)
  rw [if_neg nmk] at cM
  obtain ⟨c3, hc3⟩ : ∃ c3, c3 = zsr c2 (b + 4) (nI (n1 * 8 + 2)) (nI mk) := ⟨_, rfl⟩
  obtain ⟨m3, hm3⟩ : ∃ m3, m3 = zsr m2 38 (nI (7 * n1 + 2)) (nI mk) := ⟨_, rfl⟩
  obtain ⟨A1, A2, A3⟩ := zMI_w (c' := c3) (m' := m3) (sc' := 0) (sm' := 0) (mk' := mk) (rv' := -1) d6 (by omega) (Or.inr ⟨2, nI mk, by omega, hc3⟩) (Or.inr ⟨2, nI mk, by omega, hm3⟩) (by rw [hc3, hm3]; exact zRow_2 d6.2.2.2.2 (by omega))
  have hf3 : zFo b n1 n3 nb c m c3 m3 := zFo_trans hf2 A2 (Nat.le_refl _) (Nat.le_refl _) (Nat.le_refl _)
  have cM2 : fX3_readMark N c1 = zbt (fX3_step N c3) (fun sx => some (none, sx)) (fun _ s12 => zbt (fX3_demand N 9 s12) (fun sx => some (none, sx)) (fun _ s15 => zbt (fX3_step N s15) (fun sx => some (none, sx)) (fun _ s18 => some (some (), s18)))) := by
    rw [cM]
    unfold fX3_readMark_J55
    rw [d6.1.1.2.1, if_pos hb, d6.2.2.2.1, o_set (n1 := n1) (j := 2) (y := 2) hb d6.1.1.2.2.1 d6.2.2.1.2.1.2.1 (by omega) (by omega) rfl rfl, zbn_s, ← hc3]
  have mM2 : fX10_marked N (nI (7 * n1)) m1 = zbn (fX10_next N m3) (fun _ s9 => zbn (fX10_isSign N 40 s9) (fun x11 s12 => if x11 = 0 then zbn (fX10_fail N 5 s12) (fun x23 s24 => if zbo x23 = true then some (x23, s24) else none) else zbn (fX10_next N s12) (fun _ s15 => zbn (fX10_expression N s15) (fun x17 s18 => if x17 = 0 then some (0, s18) else zbn (fX10_closes N s18) (fun x20 s21 => if x20 = 0 then some (0, s21) else some (1, s21)))))) := by
    rw [mM]
    unfold fX10_marked_J27
    rw [kM, zbn_s, if_neg nmk, show nI (7 * n1) + 2 = nI (7 * n1 + 2) from nI_add _ 2, if_pos (zga_l (by rfl) (show 7 * n1 + 2 < 11200 by omega) (by decide)), ← hm3]
  obtain ⟨c4, m4, r1, r2, r3, r4, r5, r6⟩ := stepI (N := N) hx A1 (by omega) d4
  have hf4 : zFo b n1 n3 nb c m c4 m4 := zFo_trans hf3 (zFo_x hb r2) (Nat.le_refl n1) (Nat.le_refl _) (Nat.le_refl _)
  have hlt2 := zw_lt (cx_w hx (show i + 1 + 1 ≤ L by omega))
  have a2 := zw_adv x1 x2 r4
  have ofail : (zw T n (i + 1 + 1)).1 ≠ 9 → fX10_marked N (nI (7 * n1)) m1 = some (0, zsc (zsc m4 3320 (if (zw T n (i + 1 + 1)).1 = 24 then (zw T n (i + 1 + 1)).2.1 else nI 5)) 3321 (nI (zw T n (i + 1 + 1)).2.2.1)) := by
    intro hh
    rw [mM2, r1, zbn_s, q_sign_f (kx := 9) (x := 40) r3 hlt2 rfl (by omega) hh, zbn_s, if_pos rfl, q_fail (x := 5) (y := 5) r3 rfl, zbn_s, if_pos z0]
  rcases r6 with ⟨t4, t5, t6⟩ | ⟨t4, t5, t6, t7⟩
  case inr =>
    refine Or.inr (Or.inl (OB_24 (x := 5) hx (show i + 1 + 1 ≤ L by omega) hb t4 t6 t7 hf4 (by rw [cM2, t5, zbt_n, zbt_n]) ?_))
    rw [ofail (by omega), zbn_s, j395]
  have q4 : c4.1 304 = nI (zw T n (i + 1 + 1)).1 := t6.1.1.2.2.2.2.2.2.2.1
  have q5 : c4.1 305 = nI (zw T n (i + 1 + 1)).2.2.1 := t6.1.1.2.2.2.2.2.2.2.2
  by_cases c9 : (zw T n (i + 1 + 1)).1 = 9
  case neg =>
    refine Or.inr (Or.inl (OB_x (x := 5) (y := 5) hb t4 (by omega) (by omega) q5 hf4 rfl ?_ ?_))
    · rw [cM2, t5, zbt_s, dem_n (x := 9) q4 hlt2 (k := 9) rfl (by omega) c9, zbt_n, zbt_n]
    · rw [ofail c9, zbn_s, j395]
  obtain ⟨c5, m5, u1, u2, u3, u4, u5, u6⟩ := stepI (N := N) hx t6 (by omega) t4
  have hf5 : zFo b n1 n3 nb c m c5 m5 := zFo_trans hf4 (zFo_x hb u2) (Nat.le_refl n1) (Nat.le_refl _) (Nat.le_refl _)
  have a3 := zw_adv x1 x2 u4
  have mM3 : fX10_marked N (nI (7 * n1)) m1 = zbn (fX10_expression N m5) (fun x17 s18 => if x17 = 0 then some (0, s18) else zbn (fX10_closes N s18) (fun x20 s21 => if x20 = 0 then some (0, s21) else some (1, s21))) := by
    rw [mM2, r1, zbn_s, q_sign_t (kx := 9) (x := 40) r3 rfl (by omega) c9, zbn_s, if_neg no1, u1, zbn_s]
  have cM3 : fX3_readMark N c1 = zbt (fX3_step N c4) (fun sx => some (none, sx)) (fun _ s18 => some (some (), s18)) := by
    rw [cM2, t5, zbt_s, dem_y q4 (by rw [c9]; rfl), zbt_s]
  rcases u6 with ⟨v4, v5, v6⟩ | ⟨v4, v5, v6, v7⟩
  case inr =>
    obtain ⟨m6, w1, w2⟩ := expr_bad (N := N) (by omega) u3 (cx_w hx (show i + 1 + 1 + 1 ≤ L by omega)) v4
    refine Or.inr (Or.inl (OB_24 (x := 5) (m1 := m6) hx (show i + 1 + 1 + 1 ≤ L by omega) hb v4 v6 v7 (zFo_trans hf5 (zFo_x hb (zFx2_m (n3 := n3) (nb := nb) w1 (by decide) (by simp))) (Nat.le_refl n1) (Nat.le_refl n3) (Nat.le_refl nb)) (by rw [cM3, v5, zbt_n, zbt_n]) ?_))
    rw [mM3, w2, zbn_s, if_pos rfl, zbn_s, j395]
  rw [cM3, v5, zbt_s, zbt_s, mM3]
  have hC5 : fX3_readOperand_J134 N 1 c5 = zbt (fX3_readSides N 1 1 c5) (fun sx => some (none, sx)) (fun _ s5 => zbt (fX3_demand N 10 s5) (fun sx => some (none, sx)) (fun _ s20 => zbt (fX3_step N s20) (fun sx => some (none, sx)) (fun _ s23 => fX3_readOperand_J154 N s23))) := by
    unfold fX3_readOperand_J134
    rfl
  rw [hC5]
  rcases p_expr (N := N) hx v6.1 v4 with ⟨i', n3', nb', fl, el, c6, m6, p1, p2, p3', p4', p5', p6, p7, p8, p9, p10, p11, p12⟩ | ⟨c6, m6, fn, fp, p1, p2, p3', p4'⟩
  case inr =>
    refine Or.inr (Or.inl ⟨c6, m6, fn, fp, by rw [p1, zbt_n], by rw [p2, zbn_s, if_pos rfl, zbn_s, j395], p3', zFo_trans hf5 (zFo_x hb p4') (Nat.le_refl n1) (Nat.le_refl _) (Nat.le_refl _)⟩)
  have M6 := zMI_x v6 p8 p4' p7 (by omega)
  have hf6 : zFo b n1 n3 nb c m c6 m6 := zFo_trans hf5 (zFo_x hb p8) (Nat.le_refl n1) (Nat.le_refl _) (Nat.le_refl _)
  rw [p2, zbt_s, p3', zbn_s, if_neg no1]
  rcases closI (N := N) hx M6 p5' with ⟨c7, m7, k1, k2, k3, k4, k5, k6, k7, k8⟩ | ⟨k1, k2⟩ | ⟨c7, m7, k1, k2, k3, k4, k5, k6, k7, k8, k9⟩
  · have a4 := zw_adv x1 x2 k4
    have hf7 : zFo b n1 n3 nb c m c7 m7 := zFo_trans hf6 (zFo_x hb k7) (Nat.le_refl n1) p6 p7
    rw [k1, zbt_s, k2, zbt_s, k3, zbn_s, if_neg no1, zbn_s]
    rcases tailI (N := N) hx k6 k5 (by omega) (by rw [List.length_append, List.length_map]) with ⟨i2, so, c8, m8, t1, t2, t3, t4', t5', t6', t7, t8, t9, t10, t11, t12, t13, t14⟩ | B | C
    · left
      have so3 : so ≤ 3 := by omega
      have so2 : so = 1 ∨ so = 2 → so = 2 := by omega
      have son : so ≠ 1 ∧ so ≠ 3 := by omega
      have hi2 : i < i2 := by omega
      refine ⟨i2, n3', nb', nl, 2 + 11 + (if so = 2 then 5 else 0), el, c8, m8, hi2, t2, t3, t4', t5', p6, p7, zFo_trans hf7 t6' (Nat.le_refl _) p6 p7, ⟨so, mk, so3, hmk4, t9, t11, t12, t13, p4'.2.2.2.2.2.2.2.1.2.2.2.2, fun z => t10 (so2 z), fun z => absurd z (by omega), fun _ => ⟨fl, p9⟩, fun z => absurd z son.1, fun z => absurd z son.2, fun _ => ?_⟩, fun q hq => zItA_mono (p10 q hq) (Nat.le_refl _) (fun y _ => by rw [t7, k8]), ?_⟩
      · rw [if_neg ck]; omega
      · omega
    · exact Or.inr (Or.inl (OB_up B hf7 p6 p7 (fun _ e => e) (fun _ e => e)))
    · exact Or.inr (Or.inr (OC_up C hf7 p6 p7 (fun _ e => e) (fun i' m' _ _ _ e => ⟨m', e, zeq_refl _ _ _, zFM_refl _⟩)))
  · refine Or.inr (Or.inl (OB_x (x := 5) (y := 5) hb p5' (by omega) (by omega) p4'.1.2.2.2.2.2.2.2.2 hf6 rfl (by rw [k1, zbt_n]) ?_))
    rw [k2, zbn_s, if_pos rfl, zbn_s, j395]
  · right
    right
    obtain ⟨v, ev⟩ := t_fin0 (N := N) (n1 := n1) (m := m7) (by omega)
    have hlt7 := zw_lt (cx_w hx (show i' + 1 ≤ L by omega))
    refine OC_up (oc := some (none, c7)) (om := some (1, m7)) (n3' := n3') (nb' := nb') ⟨i' + 1, c7, m7, rfl, rfl, by omega, k5, k6, k7, k8, zFo_x hb k9⟩ hf6 p6 p7 (fun c' e => by rw [k1, zbt_s, k2, zbt_n]; exact e) (fun i' m' _ _ _ e => ⟨zsr m7 38 (nI (7 * n1 + 4)) v, ?_, by cases e; exact zeq_r (by simp), by cases e; exact zFM_38 (by omega)⟩)
    rw [k3, zbn_s, if_neg no1, zbn_s]
    unfold fX10_takeOperand_J395
    rw [if_neg no1, q_sign_f (kx := 9) (x := 40) k8 hlt7 rfl (by omega) (by omega), zbn_s, if_pos rfl, ev]
set_option maxHeartbeats 1000000 in
theorem op_all {N n b L i n0 s0 n1 n3 nb nl : Nat} {T : Nat → Nat} {lc : List (Int32 × Int32)} {c m : zS} (hx : zCx T n L N) (h : zEN T n b L i n0 s0 n1 n3 nb nl lc c m) (hn1 : 2 * n1 + 1 ≤ i) (hlc : lc.length + 1 ≤ i) (h24 : (zw T n i).1 ≠ 24) : zOA T n b L i n0 s0 n1 n3 nb nl lc c m (fX3_readOperand N c) (fX10_takeOperand N m) ∨ zOB b n1 n3 nb c m (fX3_readOperand N c) (fX10_takeOperand N m) ∨ zOC T n b L n1 n3 nb c m (fX3_readOperand N c) (fX10_takeOperand N m) := by
  have hb := h.1.1
  have hi := h.2.1
  have h2 := h.2.2.1
  have hlt := zw_lt (cx_w hx hi)
  by_cases c2 : (zw T n i).1 = 2
  · exact op_reg hx h hn1 c2
  by_cases c7 : (zw T n i).1 = 7
  · exact op_str hx h hn1 c7
  by_cases c16 : (zw T n i).1 = 16
  · exact op_mark hx h hn1 c16
  by_cases cc : zcan (zw T n i).1 = true
  · by_cases c9 : (zw T n i).1 = 9 ∧ (zw T n (i + 1)).1 = 2
    · exact op_mem hx h hn1 hlc c9.1 c9.2
    · exact op_expr hx h hn1 cc (fun z w => c9 ⟨z, w⟩)
  · have hcan : zcan (zw T n i).1 = false := by
      cases e : zcan (zw T n i).1 with
      | true => exact absurd e cc
      | false => rfl
    have hc' : ¬ ((zw T n i).1 = 1 ∨ (zw T n i).1 = 3 ∨ (zw T n i).1 = 4 ∨ (zw T n i).1 = 5 ∨ (zw T n i).1 = 6 ∨ (zw T n i).1 = 9 ∨ (zw T n i).1 = 13 ∨ (zw T n i).1 = 23) := of_decide_eq_false hcan
    have g4 : c.1 304 = nI (zw T n i).1 := h.1.2.2.2.2.2.2.2.1
    have nk : ∀ (k : Nat) (y : Int32), y = nI k → k < 25 → (zw T n i).1 ≠ k → ¬ nI (zw T n i).1 = y := fun k y hy hk hne z => hne ((nI_eq (by omega) (by omega)).mp (z.trans hy))
    refine Or.inr (Or.inl (OB_x (x := 5) (y := 5) (c1 := c) (m1 := m) hb h24 (by omega) (by omega) h.1.2.2.2.2.2.2.2.2 (zFo_x hb (zFx2_refl b n3 nb c m)) rfl ?_ (take_n h2 hlt (by omega))))
    unfold fX3_readOperand fX3_readOperand_J14 fX3_readOperand_J107
    rw [g4, if_neg (nk 16 16 rfl (by omega) (by omega)), if_neg (nk 2 2 rfl (by omega) (by omega)), if_neg (nk 7 7 rfl (by omega) (by omega)), if_neg (nk 9 9 rfl (by omega) (by omega)), if_pos rfl, q_can hlt, zbn_s, hcan]
    rfl
