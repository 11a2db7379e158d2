def zLA (T : Nat → Nat) (n b L N i ln : Nat) (c m : zS) (oc : Option (Option Unit × zS)) (om : Option (Int32 × zS)) : Prop := ∃ (i' n0 n1 n3 nb nl W : Nat) (lc : List (Int32 × Int32)) (c0 m' : zS), i ≤ i' ∧ (zw T n i').1 = 0 ∧ zEN T n b L i' n0 n0 n1 n3 nb nl lc c0 m' ∧ zWB W b n0 n1 lc.length n3 c0 ∧ W ≤ 5 * (zw T n i').2.2.1 + 2 ∧ m'.1 3319 = nI ln ∧ oc = fX3_step N c0 ∧ om = some (1, m') ∧ zGr b c m c0 m'
def zLB (b : Nat) (c m : zS) (oc : Option (Option Unit × zS)) (om : Option (Int32 × zS)) : Prop := ∃ (c' m' : zS) (fn fp : Nat), oc = some (none, c') ∧ om = some (0, m') ∧ zFF fn fp c' m' ∧ zGr b c m c' m'
theorem LA_up {T : Nat → Nat} {n b L N i i1 ln : Nat} {c m c1 m1 : zS} {oc : Option (Option Unit × zS)} {om : Option (Int32 × zS)} (h : zLA T n b L N i1 ln c1 m1 oc om) (hi : i ≤ i1) (hg : zGr b c m c1 m1) : zLA T n b L N i ln c m oc om := by
  obtain ⟨i', n0, n1, n3, nb, nl, W, lc, c0, m', a1, a2, a3, a4, a5, a6, a7, a8, a9⟩ := h
  exact ⟨i', n0, n1, n3, nb, nl, W, lc, c0, m', by omega, a2, a3, a4, a5, a6, a7, a8, zGr_trans hg a9⟩
theorem LB_up {b : Nat} {c m c1 m1 : zS} {oc : Option (Option Unit × zS)} {om : Option (Int32 × zS)} (h : zLB b c1 m1 oc om) (hg : zGr b c m c1 m1) : zLB b c m oc om := by
  obtain ⟨c', m', fn, fp, a1, a2, a3, a4⟩ := h
  exact ⟨c', m', fn, fp, a1, a2, a3, zGr_trans hg a4⟩
theorem LB_24 {T : Nat → Nat} {n b L N i x : Nat} {c m c1 m1 : zS} {oc : Option (Option Unit × zS)} {om : Option (Int32 × zS)} (hx : zCx T n L N) (hi : i ≤ L) (hb : zBk b) (h24 : (zw T n i).1 = 24) (h9 : c1.1 309 = (zw T n i).2.1) (h10 : c1.1 310 = nI (zw T n i).2.2.1) (hf : zGr b c m c1 m1) (ho : oc = some (none, c1)) (hm : om = some (0, zsc (zsc m1 3320 (if (zw T n i).1 = 24 then (zw T n i).2.1 else nI x)) 3321 (nI (zw T n i).2.2.1))) : zLB b c m oc om := by
  obtain ⟨f, fa, fb, fc⟩ := cx_bad hx hi h24
  rw [if_pos h24] at hm
  exact ⟨c1, _, f, (zw T n i).2.2.1, ho, hm, ⟨fa, by omega, by rw [h9, fc], h10, ((zsc_ne (by decide)).trans zsc_at).trans fc, zsc_at⟩, zGr_trans hf (zGr_m hb)⟩
theorem LB_x {T : Nat → Nat} {n b i x : Nat} {y : Int32} {c m c1 m1 : zS} {oc : Option (Option Unit × zS)} {om : Option (Int32 × zS)} (hb : zBk b) (h24 : (zw T n i).1 ≠ 24) (hx1 : 1 ≤ x) (hx8 : x ≤ 8) (h5 : c1.1 305 = nI (zw T n i).2.2.1) (hf : zGr b c m c1 m1) (hy : y = nI x) (ho : oc = some (none, zRF c1 y)) (hm : om = some (0, zsc (zsc m1 3320 (if (zw T n i).1 = 24 then (zw T n i).2.1 else nI x)) 3321 (nI (zw T n i).2.2.1))) : zLB b c m oc om := by
  rw [if_neg h24] at hm
  exact ⟨_, _, x, (zw T n i).2.2.1, ho, hm, zFF_i hx1 hx8 hy h5 rfl rfl, zGr_trans hf (zGr_f hb)⟩
noncomputable def zOK (N : Nat) (p0 : Int32) (M : Nat) (x : Int32) (s : zS) : Option ((Int32 × zS) ⊕ zS) := if x = 0 then some (.inl (0, s)) else if zga ((6 * p0) + 3) (zlen 37) = true then if zga ((6 * p0) + 3) (zlen 37) = true then zbn (fX10_isSign N 44 (zsr s 37 ((6 * p0) + 3) ((s.2.1 37 ((6 * p0) + 3).toNatClampNeg) + 1))) (fun x6 s7 => if x6 = 0 then fX10_operands_L11 N p0 M x6 s7 else zbn (fX10_next N s7) (fun _ s10 => fX10_operands_L11 N p0 M x6 s10)) else none else none
noncomputable def zOE (N : Nat) (o : Option ((Int32 × zS) ⊕ zS)) : Option (Int32 × zS) := zbl o (fun x => some x) (fun s15 => if (s15.1 3315) = 0 then some (1, s15) else zbn (fX10_fail N 5 s15) (fun x16 s17 => if x16 = 0 then some (0, s17) else some (1, s17)))
noncomputable def zWL (N ln Mf n0 f q : Nat) (c : zS) : Option (Option Unit × zS) := zbl (fX3_readWord_L56 N (nI ln) Mf (nI n0) (nI f) (nI q) c) (fun x => some x) (fun lq17 => match lq17 with | (y20, y21, s22) => fX3_readWord_J87 N (nI ln) y20 y21 s22)
theorem L11_1 {N M : Nat} {p0 : Int32} {s : zS} : fX10_operands_L11 N p0 (M + 1) 1 s = zbn (fX10_takeOperand N s) (zOK N p0 M) := by
  show fX10_operands_L11S N p0 (fX10_operands_L11 N p0 M) 1 s = _
  unfold fX10_operands_L11S
  rw [if_neg (show ¬ (1 : Int32) = 0 by decide)]
  rfl
theorem L11_0 {N M : Nat} {p0 : Int32} {s : zS} : fX10_operands_L11 N p0 (M + 1) 0 s = some (.inr s) := by
  show fX10_operands_L11S N p0 (fX10_operands_L11 N p0 M) 0 s = _
  unfold fX10_operands_L11S
  rw [if_pos rfl]
theorem OK_0 {N M : Nat} {p0 : Int32} {s : zS} : zOE N (zOK N p0 M 0 s) = some (0, s) := by
  unfold zOK zOE
  rw [if_pos rfl, zbl_l]
set_option maxHeartbeats 400000 in
theorem OK_1 {N M n0 g : Nat} {s : zS} (hn0 : n0 < 400) (hg : s.2.1 37 (6 * n0 + 3) = nI g) : zOK N (nI n0) M 1 s = zbn (fX10_isSign N 44 (zsr s 37 (nI (6 * n0 + 3)) (nI (g + 1)))) (fun x6 s7 => if x6 = 0 then fX10_operands_L11 N (nI n0) M x6 s7 else zbn (fX10_next N s7) (fun _ s10 => fX10_operands_L11 N (nI n0) M x6 s10)) := by
  have e : 6 * nI n0 + 3 = nI (6 * n0 + 3) := by rw [show 6 * nI n0 = nI (6 * n0) from pk_mul 6 n0]; exact nI_add _ 3
  have z : zga (nI (6 * n0 + 3)) (zlen 37) = true := zga_l (by rfl) (show 6 * n0 + 3 < 4800 by omega) (by decide)
  unfold zOK
  rw [if_neg (show ¬ (1 : Int32) = 0 by decide), e, if_pos z, if_pos z, nI_clamp (by omega), hg, nI_1]
set_option maxHeartbeats 400000 in
theorem OK_bad {T : Nat → Nat} {N M n i n0 : Nat} {s : zS} (hM : 1 ≤ M) (hn0 : n0 < 400) (h : zPM T n i s) (hk : (zw T n i).1 = 24) : ∃ s', zFM s s' ∧ zOE N (zOK N (nI n0) M 1 s) = some (0, zsc (zsc s' 3320 (if (zw T n i).1 = 24 then (zw T n i).2.1 else nI 5)) 3321 (nI (zw T n i).2.2.1)) := by
  obtain ⟨M, rfl⟩ : ∃ q, M = q + 1 := ⟨M - 1, by omega⟩
  have e : 6 * nI n0 + 3 = nI (6 * n0 + 3) := by rw [show 6 * nI n0 = nI (6 * n0) from pk_mul 6 n0]; exact nI_add _ 3
  have z : zga (nI (6 * n0 + 3)) (zlen 37) = true := zga_l (by rfl) (show 6 * n0 + 3 < 4800 by omega) (by decide)
  obtain ⟨s', hs'⟩ : ∃ s', s' = zsr s 37 (nI (6 * n0 + 3)) ((s.2.1 37 (nI (6 * n0 + 3)).toNatClampNeg) + 1) := ⟨_, rfl⟩
  have p' : zPM T n i s' := by rw [hs']; exact zPM_keep (K := []) (A := [37]) h (zeq_r (by simp)) (by simp) (by decide)
  refine ⟨s', by rw [hs']; exact zFM_37 (by omega), ?_⟩
  unfold zOK zOE
  rw [if_neg (show ¬ (1 : Int32) = 0 by decide), e, if_pos z, if_pos z, ← hs', q_sign_f (kx := 8) (x := 44) p' (by omega) rfl (by omega) (by omega), zbn_s, if_pos rfl, L11_0, zbl_r, p'.2.1.1, hk, if_neg (show ¬ nI (zMs 24) = 0 by decide), q_fail (x := 5) (y := 5) p' rfl, zbn_s, if_pos rfl, hk]
theorem WL_stop {N ln Mf n0 f q kd : Nat} {c : zS} (h4 : c.1 304 = nI kd) (hk : kd < 25) (h8 : kd ≠ 8) (hq : q ≤ 800) : zWL N ln (Mf + 1) n0 f q c = fX3_readWord_J87 N (nI ln) (nI n0) (nI f) c := by
  have e : fX3_readWord_L56 N (nI ln) (Mf + 1) (nI n0) (nI f) (nI q) c = some (.inr (nI n0, nI f, c)) := by
    show fX3_readWord_L56S N (nI ln) (fX3_readWord_L56 N (nI ln) Mf) (nI n0) (nI f) (nI q) c = _
    unfold fX3_readWord_L56S
    rw [if_neg (show ¬ (800 : Int32) < nI q from nI_nlt (a := 800) hq (by decide)), h4, if_neg (show ¬ nI kd = (8 : Int32) from fun z => h8 ((nI_eq (b := 8) (by omega) (by decide)).mp z))]
  unfold zWL
  rw [e, zbl_r]
theorem WL_go {N ln Mf n0 f q : Nat} {c : zS} (h4 : c.1 304 = nI 8) (hq : q ≤ 800) : fX3_readWord_L56 N (nI ln) (Mf + 1) (nI n0) (nI f) (nI q) c = zbt (fX3_step N c) (fun sx => some (.inl (none, sx))) (fun _ s12 => zbt (fX3_readOperand N s12) (fun sx => some (.inl (none, sx))) (fun _ s15 => fX3_readWord_L56 N (nI ln) Mf (nI n0) (nI f) (nI (q + 1)) s15)) := by
  show fX3_readWord_L56S N (nI ln) (fX3_readWord_L56 N (nI ln) Mf) (nI n0) (nI f) (nI q) c = _
  unfold fX3_readWord_L56S
  rw [if_neg (show ¬ (800 : Int32) < nI q from nI_nlt (a := 800) hq (by decide)), h4, if_pos (show nI 8 = (8 : Int32) from rfl), nI_1]
set_option maxHeartbeats 400000 in
theorem zSR_g {b n0 sc sm v f g g' pl ln x : Nat} {c m : zS} (h : zSR b n0 sc sm v f g g' pl ln c m) (hn0 : n0 < 400) : zSR b n0 sc sm v f g x pl ln c (zsr m 37 (nI (6 * n0 + 3)) (nI x)) := by
  obtain ⟨⟨r0, r0'⟩, ⟨r1, r1'⟩, ⟨r2, r2'⟩, ⟨r3, r3'⟩, ⟨r4, r4'⟩, ⟨r5, r5'⟩⟩ := h
  refine ⟨⟨r0, ?_⟩, ⟨r1, ?_⟩, ⟨r2, ?_⟩, ⟨r3, ?_⟩, ⟨r4, ?_⟩, ⟨r5, ?_⟩⟩
  · rw [zsr_g (by omega), if_neg (by omega)]; exact r0'
  · rw [zsr_g (by omega), if_neg (by omega)]; exact r1'
  · rw [zsr_g (by omega), if_neg (by omega)]; exact r2'
  · rw [zsr_g (by omega), if_pos rfl]
  · rw [zsr_g (by omega), if_neg (by omega)]; exact r4'
  · rw [zsr_g (by omega), if_neg (by omega)]; exact r5'
set_option maxHeartbeats 400000 in
theorem zSR_c {b n0 sc sm v f g g' pl ln x : Nat} {c m : zS} (h : zSR b n0 sc sm v f g g' pl ln c m) (hn0 : n0 < 400) : zSR b n0 sc sm v f x g' pl ln (zsr c (b + 2) (nI (n0 * 6 + 3)) (nI x)) m := by
  obtain ⟨⟨r0, r0'⟩, ⟨r1, r1'⟩, ⟨r2, r2'⟩, ⟨r3, r3'⟩, ⟨r4, r4'⟩, ⟨r5, r5'⟩⟩ := h
  refine ⟨⟨?_, r0'⟩, ⟨?_, r1'⟩, ⟨?_, r2'⟩, ⟨?_, r3'⟩, ⟨?_, r4'⟩, ⟨?_, r5'⟩⟩
  · rw [zsr_g (by omega), if_neg (by omega)]; exact r0
  · rw [zsr_g (by omega), if_neg (by omega)]; exact r1
  · rw [zsr_g (by omega), if_neg (by omega)]; exact r2
  · rw [zsr_g (by omega), if_pos rfl]
  · rw [zsr_g (by omega), if_neg (by omega)]; exact r4
  · rw [zsr_g (by omega), if_neg (by omega)]; exact r5
set_option maxHeartbeats 400000 in
theorem zSR_s {b n0 sc sm v f g g' pl ln x : Nat} {y : Int32} {c m : zS} (h : zSR b n0 sc sm v f g g' pl ln c m) (hn0 : n0 < 400) (hy : y = nI x) : zSR b n0 sc x v f g g' pl ln c (zsr m 37 (nI (6 * n0)) y) := by
  obtain ⟨⟨r0, r0'⟩, ⟨r1, r1'⟩, ⟨r2, r2'⟩, ⟨r3, r3'⟩, ⟨r4, r4'⟩, ⟨r5, r5'⟩⟩ := h
  refine ⟨⟨r0, ?_⟩, ⟨r1, ?_⟩, ⟨r2, ?_⟩, ⟨r3, ?_⟩, ⟨r4, ?_⟩, ⟨r5, ?_⟩⟩
  · rw [zsr_g (by omega), if_pos rfl, hy]
  · rw [zsr_g (by omega), if_neg (by omega)]; exact r1'
  · rw [zsr_g (by omega), if_neg (by omega)]; exact r2'
  · rw [zsr_g (by omega), if_neg (by omega)]; exact r3'
  · rw [zsr_g (by omega), if_neg (by omega)]; exact r4'
  · rw [zsr_g (by omega), if_neg (by omega)]; exact r5'
set_option maxHeartbeats 1000000 in
theorem finW {N n b L i n0 n1 n3 nb nl v f g pl ln W : Nat} {p0 : Int32} {T : Nat → Nat} {lc : List (Int32 × Int32)} {c m : zS} (hx : zCx T n L N) (h : zEN T n b L i n0 (n0 + 1) n1 n3 nb nl lc c m) (hw : zWB W b n0 n1 lc.length n3 c) (hr : zSR b n0 2 2 v f 0 g pl ln c m) (hn0 : n0 < 400) (hfg : n1 = f + g) (hv : v < n3) : ∃ c1, fX3_readWord_J87 N p0 (nI n0) (nI f) c = (if (zw T n i).1 = 0 then fX3_step N c1 else some (none, zRF c1 5)) ∧ zEN T n b L i (n0 + 1) (n0 + 1) n1 n3 nb nl lc c1 m ∧ zWB W b (n0 + 1) n1 lc.length n3 c1 ∧ zGr b c m c1 m := by
  have hb := h.1.1
  have hlt := zw_lt (cx_w hx h.2.1)
  obtain ⟨c1, hc1⟩ : ∃ c1, c1 = zsr c (b + 2) (nI (n0 * 6 + 3)) (nI g) := ⟨_, rfl⟩
  obtain ⟨A1, A2, A3, A4, A5, A6⟩ := zEN_37 (c' := c1) (m' := m) h hn0 (Or.inr ⟨3, nI g, by omega, hc1⟩) (Or.inl rfl)
  have R1 : zSR b n0 2 2 v f g g pl ln c1 m := by rw [hc1]; exact zSR_c hr hn0
  refine ⟨c1, ?_, zEN_row A1 R1, zWB_st hw A3 A4 (so := 2) (v := v) (f := f) (g := g) (by omega) (by omega) (fun _ => hv) (by omega) R1.1.1 R1.2.1.1 R1.2.2.1.1 R1.2.2.2.1.1, A2⟩
  unfold fX3_readWord_J87
  have g4 : c1.1 304 = nI (zw T n i).1 := A1.1.2.2.2.2.2.2.2.1
  rw [h.1.2.1, if_pos hb, if_pos hb, h.2.2.2.2.2.2.2.2.2.2.1.2.1, show nI n1 - nI f = nI g by rw [pk_sub (by omega), hfg, show f + g - f = g by omega], s_set (n0 := n0) (j := 3) (y := 3) hb h.1.2.2.1 h.2.2.2.2.2.2.2.2.2.1.2.1 hn0 (by omega) rfl rfl, zbn_s, ← hc1]
  by_cases k0 : (zw T n i).1 = 0
  · rw [if_pos k0, dem_y (x := 0) g4 (by rw [k0]; rfl), zbt_s]
    exact bt_id _
  · rw [if_neg k0, dem_n (x := 0) g4 hlt (k := 0) rfl (by omega) k0, zbt_n]
set_option maxHeartbeats 1000000 in
theorem opsStop {N n b L n0 v f pl ln i n1 n3 nb nl W g Mf M : Nat} {T : Nat → Nat} {lc : List (Int32 × Int32)} {c m : zS} (hx : zCx T n L N) (hn0 : n0 < 400) (h : zEN T n b L i n0 (n0 + 1) n1 n3 nb nl lc c m) (hw : zWB W b n0 n1 lc.length n3 c) (hr : zSR b n0 2 2 v f 0 g pl ln c m) (h19 : m.1 3319 = nI ln) (h24 : (zw T n i).1 ≠ 24) (hn1 : n1 = f + g + 1) (hW : W ≤ 5 * (zw T n i).2.2.1 + 2) (hv : v < n3) (h8 : (zw T n i).1 ≠ 8) : zLA T n b L N i ln c m (zWL N ln (Mf + 1) n0 f g c) (zOE N (zOK N (nI n0) (M + 1) 1 m)) ∨ zLB b c m (zWL N ln (Mf + 1) n0 f g c) (zOE N (zOK N (nI n0) (M + 1) 1 m)) := by
  obtain ⟨x1, x2, x3, x4, x5, x6⟩ := id hx
  have hb := h.1.1
  have hi := h.2.1
  have l2 := h.2.2.2.2.2.2.2.2.1
  have hlt := zw_lt (cx_w hx hi)
  have g4 : c.1 304 = nI (zw T n i).1 := h.1.2.2.2.2.2.2.2.1
  obtain ⟨m1, hm1⟩ : ∃ m1, m1 = zsr m 37 (nI (6 * n0 + 3)) (nI (g + 1)) := ⟨_, rfl⟩
  obtain ⟨A1, A2, A3, A4, A5, A6⟩ := zEN_37 (c' := c) (m' := m1) h hn0 (Or.inl rfl) (Or.inr ⟨3, nI (g + 1), by omega, hm1⟩)
  have R1 : zSR b n0 2 2 v f 0 (g + 1) pl ln c m1 := by rw [hm1]; exact zSR_g hr hn0
  obtain ⟨c1, B1, B2, B3, B4⟩ := finW (N := N) (p0 := nI ln) hx A1 hw R1 hn0 (by omega) hv
  have hM : zOE N (zOK N (nI n0) (M + 1) 1 m) = (if (zw T n i).1 = 0 then some (1, m1) else some (0, zsc (zsc m1 3320 (if (zw T n i).1 = 24 then (zw T n i).2.1 else nI 5)) 3321 (nI (zw T n i).2.2.1))) := by
    rw [OK_1 hn0 hr.2.2.2.1.2, ← hm1, q_sign_f (kx := 8) (x := 44) A1.2.2.1 hlt rfl (by omega) h8, zbn_s, if_pos rfl, L11_0]
    unfold zOE
    rw [zbl_r, A1.2.2.1.2.1.1]
    by_cases k0 : (zw T n i).1 = 0
    · rw [if_pos k0, if_pos ((zMs_q _ hlt).2.2.2.2.2.mpr k0)]
    · rw [if_neg k0, if_neg (fun z => k0 ((zMs_q _ hlt).2.2.2.2.2.mp z)), q_fail (x := 5) (y := 5) A1.2.2.1 rfl, zbn_s, if_pos rfl]
  rw [WL_stop g4 hlt h8 (by omega), B1, hM]
  by_cases k0 : (zw T n i).1 = 0
  · rw [if_pos k0, if_pos k0]
    exact Or.inl ⟨i, n0 + 1, n1, n3, nb, nl, W, lc, c1, m1, Nat.le_refl _, k0, B2, B3, hW, by rw [A6]; exact h19, rfl, rfl, zGr_trans A2 B4⟩
  · rw [if_neg k0, if_neg k0]
    exact Or.inr (LB_x (x := 5) (y := 5) hb h24 (by omega) (by omega) B2.1.2.2.2.2.2.2.2.2 (zGr_trans A2 B4) rfl rfl rfl)
set_option maxHeartbeats 1000000 in
theorem opsL {N n b L n0 v f pl ln : Nat} {T : Nat → Nat} (hx : zCx T n L N) (hn0 : n0 < 400) : ∀ (d i n1 n3 nb nl W g : Nat) (lc : List (Int32 × Int32)) (c m : zS) (Mf M : Nat), L ≤ i + d → d < Mf → d < M → zEN T n b L i n0 (n0 + 1) n1 n3 nb nl lc c m → zWB W b n0 n1 lc.length n3 c → zSR b n0 2 2 v f 0 g pl ln c m → m.1 3319 = nI ln → (zw T n i).1 ≠ 24 → n1 = f + g + 1 → W ≤ 5 * (zw T n i).2.2.1 + 2 → v < n3 → zLA T n b L N i ln c m (zWL N ln Mf n0 f g c) (zOE N (zOK N (nI n0) M 1 m)) ∨ zLB b c m (zWL N ln Mf n0 f g c) (zOE N (zOK N (nI n0) M 1 m)) := by
  obtain ⟨x1, x2, x3, x4, x5, x6⟩ := id hx
  intro d
  induction d with
  | zero =>
    intro i n1 n3 nb nl W g lc c m Mf M hd hMf hM h hw hr h19 h24 hn1 hW hv
    obtain ⟨Mf, rfl⟩ : ∃ q, Mf = q + 1 := ⟨Mf - 1, by omega⟩
    obtain ⟨M, rfl⟩ : ∃ q, M = q + 1 := ⟨M - 1, by omega⟩
    exact opsStop hx hn0 h hw hr h19 h24 hn1 hW hv (fun z => by
      have := cx_lt hx h.2.1 (by omega) h24
      omega)
  | succ d ih =>
    intro i n1 n3 nb nl W g lc c m Mf M hd hMf hM h hw hr h19 h24 hn1 hW hv
    obtain ⟨Mf, rfl⟩ : ∃ q, Mf = q + 1 := ⟨Mf - 1, by omega⟩
    obtain ⟨M, rfl⟩ : ∃ q, M = q + 1 := ⟨M - 1, by omega⟩
    by_cases c8 : (zw T n i).1 = 8
    case neg => exact opsStop hx hn0 h hw hr h19 h24 hn1 hW hv c8
    have hb := h.1.1
    have hi := h.2.1
    have l2 := h.2.2.2.2.2.2.2.2.1
    have hiL : i < L := cx_lt hx hi (by omega) h24
    have hadv := zw_adv x1 x2 hiL
    obtain ⟨m1, hm1⟩ : ∃ m1, m1 = zsr m 37 (nI (6 * n0 + 3)) (nI (g + 1)) := ⟨_, rfl⟩
    obtain ⟨A1, A2, A3, A4, A5, A6⟩ := zEN_37 (c' := c) (m' := m1) h hn0 (Or.inl rfl) (Or.inr ⟨3, nI (g + 1), by omega, hm1⟩)
    have R1 : zSR b n0 2 2 v f 0 (g + 1) pl ln c m1 := by rw [hm1]; exact zSR_g hr hn0
    have g4 : c.1 304 = nI 8 := by rw [h.1.2.2.2.2.2.2.2.1, c8]
    obtain ⟨c2, m2, s1, s2, s3, s4, s5, s6, s7, s8⟩ := stepE (N := N) (B := (zw T n i).2.2.1) hx A1 (by omega) (by omega) h24
    have hG2 : zGr b c m c2 m2 := zGr_trans A2 (zGr_x hb s2)
    have hM2 : zOE N (zOK N (nI n0) (M + 1) 1 m) = zOE N (zbn (fX10_takeOperand N m2) (zOK N (nI n0) M)) := by
      rw [OK_1 hn0 hr.2.2.2.1.2, ← hm1, q_sign_t (kx := 8) (x := 44) A1.2.2.1 rfl (by omega) c8, zbn_s, if_neg (show ¬ (1 : Int32) = 0 by decide), s1, zbn_s, L11_1]
    have hq : g ≤ 800 := by omega
    rw [hM2]
    rcases s8 with ⟨d4, d5, d6⟩ | ⟨d4, d5, d6, d7⟩
    case inr =>
      right
      refine LB_24 (x := 5) hx (show i + 1 ≤ L by omega) hb d4 d6 d7 hG2 (by unfold zWL; rw [WL_go g4 hq, d5, zbt_n, zbl_l]) ?_
      rw [take_n s3 (by omega) (by omega), zbn_s, OK_0]
    rcases op_all (N := N) hx d6 (by omega) (by omega) d4 with A | B | C
    · obtain ⟨i', n3', nb', nl', x, el, c3, m3, a1, a2, a3, a4, a5, a6, a7, a8, a9, a10, a11⟩ := A
      have hW2 : zWB W b n0 n1 lc.length n3 c2 := zWB_fx hw s2 (fun t j _ _ => by rw [s5]) hb (Nat.le_refl _)
      have hW3 := zWB_op hW2 d6.2.2.2.2.2.1 a5.2.2.2.2.2.1 a8 hb a9 a10 a6
      have R3 : zSR b n0 2 2 v f 0 (g + 1) pl ln c3 m3 := zSR_o (zSR_k R1 (by rw [s5]) s6) a8
      have e19 : m3.1 3319 = nI ln := (zFo_19 a8).trans (s7.trans (by rw [A6]; exact h19))
      have hG3 : zGr b c m c3 m3 := zGr_trans hG2 (zGr_o a8)
      have hC3 : zWL N ln (Mf + 1) n0 f g c = zWL N ln Mf n0 f (g + 1) c3 := by
        unfold zWL
        rw [WL_go g4 hq, d5, zbt_s, a2, zbt_s]
      rw [hC3, a3, zbn_s]
      rcases ih i' (n1 + 1) n3' nb' nl' _ (g + 1) _ c3 m3 Mf M (by omega) (by omega) (by omega) a5 hW3 R3 e19 a4 (by omega) (by omega) (by omega) with P | P
      · exact Or.inl (LA_up P (by omega) hG3)
      · exact Or.inr (LB_up P hG3)
    · obtain ⟨c3, m3, fn, fp, a1, a2, a3, a4⟩ := B
      refine Or.inr ⟨c3, m3, fn, fp, ?_, ?_, a3, zGr_trans hG2 (zGr_o a4)⟩
      · unfold zWL
        rw [WL_go g4 hq, d5, zbt_s, a1, zbt_n, zbl_l]
      · rw [a2, zbn_s, OK_0]
    · obtain ⟨i', c3, m3, a1, a2, a3, a4, a5, a6, a7, a8⟩ := C
      obtain ⟨s', y1, y2⟩ := OK_bad (N := N) (M := M) (n0 := n0) (by omega) hn0 a7 a4
      right
      refine LB_24 (x := 5) (m1 := s') hx a3 hb a4 a5 a6 (zGr_trans hG2 ⟨(zGr_o a8).1, zFM_trans (zGr_o a8).2 y1⟩) ?_ ?_
      · unfold zWL
        rw [WL_go g4 hq, d5, zbt_s, a1, zbt_n, zbl_l]
      · rw [a2, zbn_s, y2]
