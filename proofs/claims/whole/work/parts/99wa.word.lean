set_option maxHeartbeats 1000000 in
theorem nameI {N n b L i n0 n1 n3 nb nl W : Nat} {T : Nat → Nat} {lc : List (Int32 × Int32)} {c m : zS} (hx : zCx T n L N) (h : zEN T n b L i n0 n0 n1 n3 nb nl lc c m) (hw : zWB W b n0 n1 lc.length n3 c) (hk : (zw T n i).1 = 1 ∨ (zw T n i).1 = 2) : (∃ (k n3' nb' : Nat) (c1 m1 : zS), fX3_nameNumber N c = some (some (nI k), c1) ∧ fX10_number N m = some (nI k, m1) ∧ k < n3' ∧ n3' ≤ 150 ∧ n3 ≤ n3' ∧ zENb (zw T n i).2.2.2 T n b L i n0 n0 n1 n3' nb' nl lc c1 m1 ∧ zWB W b n0 n1 lc.length n3' c1 ∧ zGr b c m c1 m1 ∧ m1.1 3319 = m.1 3319) ∨ (∃ c1, fX3_nameNumber N c = some (none, c1) ∧ fX10_number N m = some ((-1), m) ∧ c1.1 309 = nI 8 ∧ c1.1 310 = nI (zw T n i).2.2.1 ∧ zGr b c m c1 m) := by
  obtain ⟨h1, hi, h2, h3, ⟨h4, h4'⟩, h5, h6, h7, ⟨l1, l2⟩, h8⟩ := h
  obtain ⟨x1, x2, x3, x4, x5, x6⟩ := id hx
  have hb := h1.1
  have hbb := zb_lt hb
  have hW := cx_w hx hi
  obtain ⟨w1, w2, w3, w4, w5⟩ := zW_nm hW hk
  rcases p_name (N := N) h1 h2 x4 hi hW hk h3 (by omega) (by omega) with ⟨k, n3', nb', c1, m1, p1, p2, p3, p4, p5, p6, p7, p8, p9, p10, p11, p12, p13, p14⟩ | ⟨c1, p1, p2, p3, p4, p5⟩
  · left
    have nkc : ∀ y, y ≠ 100 * (b + 7) + 3 → y ≠ 100 * b + 5 → c1.1 y = c.1 y := fun y q1 q2 => p9.1 y (by simp [q1, q2])
    have acc : ∀ a, a ≠ b + 8 → a ≠ b + 9 → c1.2.1 a = c.2.1 a := fun a q1 q2 => p9.2.1 a (by simp [q1, q2])
    have fr : zFx2 b n3 nb c m c1 m1 := ⟨zeq_mono p9 (fun y hy => by unfold zKX; simp only [List.mem_cons, List.not_mem_nil, or_false] at hy ⊢; omega) (fun y hy => by simp only [List.mem_cons, List.not_mem_nil, or_false] at hy ⊢; omega), p10, p11, zeq_mono p12 (fun _ h => absurd h List.not_mem_nil) (by decide), p13, fun j _ hj => p14 j hj⟩
    refine ⟨k, n3', nb', c1, m1, p1, p2, p3, p7.1, p4, ⟨zPC_keep h1 (zeq_mono p9 (fun y hy => by unfold zKC; simp only [List.mem_cons, List.not_mem_nil, or_false] at hy ⊢; omega) (fun y hy => by unfold zAC; simp only [List.mem_cons, List.not_mem_nil, or_false] at hy ⊢; omega)) (nkc _ (by omega) (by omega)) (nkc _ (by omega) (by omega)) (nkc _ (by omega) (by omega)) (nkc _ (by omega) (by omega)) (nkc _ (by omega) (by omega)), hi, zPM_keep h2 p12 (by simp) (by decide), p7, ⟨by omega, by omega⟩, zIC_keep h5 (nkc _ (by omega) (by omega)) (acc _ (by omega) (by omega)), zIM_keep h6 (p14 2 (by decide)) (p12.2.1 39 (by decide)), (p12.1 _ List.not_mem_nil).trans h7, ⟨l1, l2⟩, zOP_nb (zOP_fx hb h8 fr (Nat.le_refl _)) p5⟩, zWB_fx hw fr (fun t j _ _ => by rw [acc _ (by omega) (by omega)]) hb p4, zGr_x hb fr, p12.1 _ List.not_mem_nil⟩
  · right
    exact ⟨c1, p1, p2, p4, p5, zGr_x (n3 := n3) (nb := nb) hb (zFx2_c p3 (fun k hk => by unfold zKX; simp only [List.mem_cons, List.not_mem_nil, or_false] at hk ⊢; omega))⟩
set_option maxHeartbeats 1000000 in
theorem wordI {N n b L i n0 n1 n3 nb nl W ln : Nat} {T : Nat → Nat} {lc : List (Int32 × Int32)} {c m : zS} {rec : Int32 → zS → Option ((Int32 × zS) ⊕ (zS))} {v3 : Int32} (hx : zCx T n L N) (h : zEN T n b L i n0 n0 n1 n3 nb nl lc c m) (hw : zWB W b n0 n1 lc.length n3 c) (hWb : W ≤ 5 * (zw T n i).2.2.1) (h19 : m.1 3319 = nI ln) (hk : ((zw T n i).1 = 1 ∧ (zw T n (i + 1)).1 ≠ 22) ∨ ((zw T n i).1 = 2 ∧ v3 = 0)) : ∃ (x : Int32) (m' : zS), fX10_readLine_J77 N rec 1 0 v3 m = some (.inl (x, m')) ∧ (zLA T n b L N i ln c m (fX3_readWord N (nI ln) c) (some (x, m')) ∨ zLB b c m (fX3_readWord N (nI ln) c) (some (x, m'))) := by
  have hb := h.1.1
  have hi := h.2.1
  have h2 := h.2.2.1
  have lll := h.2.2.2.2.2.2.2.2.1
  obtain ⟨x1, x2, x3, x4, x5, x6⟩ := id hx
  have hlt := zw_lt (cx_w hx hi)
  have h24 : (zw T n i).1 ≠ 24 := by omega
  have hiL : i < L := cx_lt hx hi (by omega) h24
  have hadv := zw_adv x1 x2 hiL
  have z0 : zbo (0 : Int32) = true := by decide
  have no1 : ¬ (1 : Int32) = 0 := by decide
  have g0 : (0 : Int32).toNatClampNeg = 0 := by decide
  have hz0 : zga 0 (zlen 36) = true := by decide +kernel
  have g4 : c.1 304 = nI (zw T n i).1 := h.1.2.2.2.2.2.2.2.1
  have o2 : c.1 (100 * (b + 1) + 3) = nI n0 := h.2.2.2.2.2.2.2.2.2.1.2.1
  have o1 : n0 ≤ 400 := h.2.2.2.2.2.2.2.2.2.1.1
  have o3 : m.2.1 36 0 = nI n0 := h.2.2.2.2.2.2.2.2.2.1.2.2.1
  have hC : fX3_readWord N (nI ln) c = fX3_readWord_J16 N (nI ln) c := by
    unfold fX3_readWord
    rw [g4]
    rcases hk with hk | hk
    · rw [if_pos (show nI (zw T n i).1 = 1 by rw [hk.1]; rfl)]
    · rw [if_neg (show ¬ nI (zw T n i).1 = (1 : Int32) by rw [hk.1]; decide), if_pos (show nI (zw T n i).1 = 2 by rw [hk.1]; rfl)]
  rw [hC]
  unfold fX10_readLine_J77 fX3_readWord_J16
  rw [if_pos hz0, g0, o3]
  by_cases f400 : n0 = 400
  · rw [if_pos (show nI n0 = 400 by rw [f400]; rfl), q_fail (x := 8) (y := 8) h2 rfl, zbn_s, if_pos z0]
    refine ⟨_, _, rfl, Or.inr ?_⟩
    rcases nameI (N := N) hx h hw (by omega) with ⟨k, n3', nb', c1, m1, p1, p2, p3, p4, p5, p6, p7, p8, p9⟩ | ⟨c1, p1, p2, p3, p4, p5⟩
    · rw [p1, zbt_s, a_full hb p6.1.2.1 p6.1.2.2.1 p6.2.2.2.2.2.2.2.2.2.1.2.1 f400, zbt_n]
      exact LB_x (x := 8) (y := 8) (m1 := m) hb h24 (by omega) (by omega) p6.1.2.2.2.2.2.2.2.2 ⟨p8.1, zFM_refl _⟩ rfl rfl rfl
    · rw [p1, zbt_n, if_neg h24]
      exact ⟨c1, _, 8, (zw T n i).2.2.1, rfl, rfl, ⟨by omega, by omega, p3, p4, (zsc_ne (by decide)).trans zsc_at, zsc_at⟩, zGr_trans p5 (zGr_m hb)⟩
  rw [if_neg (show ¬ nI n0 = (400 : Int32) from fun z => f400 ((nI_eq (b := 400) (by omega) (by decide)).mp z)), if_pos rfl]
  rcases nameI (N := N) hx h hw (by omega) with ⟨k, n3', nb', c1, m1, p1, p2, p3, p4, p5, p6, p7, p8, p9⟩ | ⟨c1, p1, p2, p3, p4, p5⟩
  case inr =>
    rw [p1, zbt_n, p2, zbn_s]
    unfold fX10_readLine_J112 fX10_readLine_J124 fX10_state
    rw [if_pos rfl, if_pos hz0, g0, o3, if_neg (show ¬ nI n0 = (400 : Int32) from fun z => f400 ((nI_eq (b := 400) (by omega) (by decide)).mp z)), if_pos rfl, q_fail (x := 8) (y := 8) h2 rfl, zbn_s, if_pos z0, zbn_s, if_pos rfl, if_neg h24]
    exact ⟨_, _, rfl, Or.inr ⟨c1, _, 8, (zw T n i).2.2.1, rfl, rfl, ⟨by omega, by omega, p3, p4, (zsc_ne (by decide)).trans zsc_at, zsc_at⟩, zGr_trans p5 (zGr_m hb)⟩⟩
  obtain ⟨c2, m2, a1, a2, a3, a4, a5, a6, a7, a8⟩ := stA (N := N) (x := 2) (x' := 2) (y := nI k) (z := nI ln) (sc := 2) (sm := 2) (v := k) (ln := ln) hx p6 p7 (by omega) (by omega) (p9.trans h19) rfl rfl rfl rfl
  obtain ⟨c3, m3, s1, s2, s3, s4, s5, s6, s7, s8⟩ := stepE (N := N) hx a3 (Nat.le_refl _) (by omega) h24
  have hG3 : zGr b c m c3 m3 := zGr_trans p8 (zGr_trans a6 (zGr_x hb s2))
  have e302 : c2.2.2.1 302 = b := a3.1.2.1
  have ops2 : c2.1 (100 * (b + 3) + 3) = nI n1 := a3.2.2.2.2.2.2.2.2.2.2.1.2.1
  have hM3 : zbn (fX10_number N m) (fun x2 s3 => fX10_readLine_J112 N rec 1 0 v3 x2 s3) = zbn (fX10_operands N (nI n0) m3) (fun x12 s13 => if zbo x12 = true then some (.inl (x12, s13)) else none) := by
    rw [p2, zbn_s]
    unfold fX10_readLine_J112 fX10_readLine_J124 fX10_readLine_J167
    rw [if_pos rfl, a2, zbn_s, if_neg no1, if_pos hz0, s1, zbn_s, if_pos rfl, g0, a8, show nI (n0 + 1) - 1 = nI n0 from nI_pred n0]
    rcases hk with hk | hk
    · by_cases v0 : v3 = 0
      · rw [if_pos v0]
      · rw [if_neg v0, q_sign_f (kx := 22) (x := 58) s3 (zw_lt (cx_w hx (show i + 1 ≤ L by omega))) rfl (by omega) hk.2, zbn_s, if_pos rfl]
    · rw [if_pos hk.2]
  rw [hM3, p1, zbt_s, a1, zbt_s, e302, if_pos hb, ops2]
  have key : ∀ om, fX10_operands N (nI n0) m3 = om → ∀ oc, (zLA T n b L N i ln c m oc om ∨ zLB b c m oc om) → ∃ (x : Int32) (m' : zS), zbn (fX10_operands N (nI n0) m3) (fun x12 s13 => if zbo x12 = true then some (Sum.inl (x12, s13)) else none) = some (.inl (x, m') : (Int32 × zS) ⊕ zS) ∧ (zLA T n b L N i ln c m oc (some (x, m')) ∨ zLB b c m oc (some (x, m'))) := by
    intro om e oc hh
    rw [e]
    rcases hh with P | P
    · obtain ⟨i', y0, y1, y3, yb, yl, yW, ylc, c0, m', q1, q2, q3, q4, q5, q6, q7, q8, q9⟩ := P
      rw [q8, zbn_s, if_pos (show zbo (1 : Int32) = true by decide)]
      exact ⟨1, m', rfl, Or.inl ⟨i', y0, y1, y3, yb, yl, yW, ylc, c0, m', q1, q2, q3, q4, q5, q6, q7, rfl, q9⟩⟩
    · obtain ⟨c', m', fn, fp, q1, q2, q3, q4⟩ := P
      rw [q2, zbn_s, if_pos z0]
      exact ⟨0, m', rfl, Or.inr ⟨c', m', fn, fp, q1, rfl, q3, q4⟩⟩
  have hlt1 := zw_lt (cx_w hx (show i + 1 ≤ L by omega))
  have h15 : m3.1 3315 = nI (zMs (zw T n (i + 1)).1) := s3.2.1.1
  have hops : (zw T n (i + 1)).1 ≠ 0 → fX10_operands N (nI n0) m3 = zOE N (zbn (fX10_takeOperand N m3) (zOK N (nI n0) (N - 1))) := by
    intro k0
    unfold fX10_operands
    rw [h15, if_neg (fun z => k0 ((zMs_q _ hlt1).2.2.2.2.2.mp z)), ← L11_1, show N - 1 + 1 = N by omega]
    rfl
  rcases s8 with ⟨d4, d5, d6⟩ | ⟨d4, d5, d6, d7⟩
  case inr =>
    refine key _ (hops (by omega)) _ (Or.inr (LB_24 (x := 5) hx (show i + 1 ≤ L by omega) hb d4 d6 d7 hG3 (by rw [d5, zbt_n]) ?_))
    rw [take_n s3 (by omega) (by omega), zbn_s, OK_0]
  have R3 : zSR b n0 2 2 k n1 0 0 (zw T n i).2.2.1 ln c3 m3 := zSR_k a5 (by rw [s5]) s6
  have W3 : zWB W b n0 n1 lc.length n3' c3 := zWB_fx a4 s2 (fun t j _ _ => by rw [s5]) hb (Nat.le_refl _)
  have e19 : m3.1 3319 = nI ln := s7.trans a7
  have g43 : c3.1 304 = nI (zw T n (i + 1)).1 := d6.1.2.2.2.2.2.2.2.1
  have J53 : ∀ s, fX3_readWord_J53 N (nI ln) (nI n0) (nI n1) s = zWL N ln N n0 n1 0 s := fun s => rfl
  by_cases k0 : (zw T n (i + 1)).1 = 0
  · have hops0 : fX10_operands N (nI n0) m3 = some (1, m3) := by
      unfold fX10_operands
      rw [h15, if_pos ((zMs_q _ hlt1).2.2.2.2.2.mpr k0)]
    refine key _ hops0 _ (Or.inl ?_)
    obtain ⟨c4, B1, B2, B3, B4⟩ := finW (N := N) (p0 := nI ln) hx d6 W3 R3 (by omega) rfl p3
    rw [if_pos k0] at B1
    refine ⟨i + 1, n0 + 1, n1, n3', nb', nl, W, lc, c4, m3, by omega, k0, B2, B3, by omega, e19, ?_, rfl, zGr_trans hG3 B4⟩
    have hWLs := WL_stop (N := N) (ln := ln) (Mf := N - 1) (n0 := n0) (f := n1) (q := 0) g43 hlt1 (by omega) (by omega)
    rw [show N - 1 + 1 = N by omega] at hWLs
    rw [d5, zbt_s, g43, if_pos (show nI (zw T n (i + 1)).1 = 0 by rw [k0]; rfl), J53, hWLs, B1]
  have hcl : ∀ X : zS → Option (Option Unit × zS), zbt (fX3_step N c2) (fun sx => some (none, sx)) (fun _ s9 => if (s9.1 304) = 0 then fX3_readWord_J53 N (nI ln) (nI n0) (nI n1) s9 else X s9) = X c3 := fun X => by
    rw [d5, zbt_s, g43, if_neg (show ¬ nI (zw T n (i + 1)).1 = (0 : Int32) from fun z => k0 ((nI_eq (b := 0) (by omega) (by decide)).mp z))]
  rw [hcl]
  refine key _ (hops k0) _ ?_
  rcases op_all (N := N) hx d6 (by omega) (by omega) d4 with A | B | C
  · obtain ⟨i', n3'', nb'', nl'', x, el, c4, m4, b1, b2, b3, b4, b5, b6, b7, b8, b9, b10, b11⟩ := A
    have hW4 := zWB_op W3 d6.2.2.2.2.2.1 b5.2.2.2.2.2.1 b8 hb b9 b10 b6
    have hG4 : zGr b c m c4 m4 := zGr_trans hG3 (zGr_o b8)
    rw [b2, zbt_s, b3, zbn_s, J53]
    rcases opsL (N := N) hx (show n0 < 400 by omega) L i' (n1 + 1) n3'' nb'' nl'' _ 0 _ c4 m4 N (N - 1) (by omega) (by omega) (by omega) b5 hW4 (zSR_o R3 b8) ((zFo_19 b8).trans e19) b4 (by omega) (by omega) (by omega) with P | P
    · exact Or.inl (LA_up P (by omega) hG4)
    · exact Or.inr (LB_up P hG4)
  · obtain ⟨c4, m4, fn, fp, b1, b2, b3, b4⟩ := B
    exact Or.inr ⟨c4, m4, fn, fp, by rw [b1, zbt_n], by rw [b2, zbn_s, OK_0], b3, zGr_trans hG3 (zGr_o b4)⟩
  · obtain ⟨i', c4, m4, b1, b2, b3, b4, b5, b6, b7, b8⟩ := C
    obtain ⟨s', y1, y2⟩ := OK_bad (N := N) (M := N - 1) (n0 := n0) (by omega) (by omega) b7 b4
    exact Or.inr (LB_24 (x := 5) (m1 := s') hx b3 hb b4 b5 b6 (zGr_trans hG3 ⟨(zGr_o b8).1, zFM_trans (zGr_o b8).2 y1⟩) (by rw [b1, zbt_n]) (by rw [b2, zbn_s, y2]))
