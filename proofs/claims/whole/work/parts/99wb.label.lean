noncomputable def zCL (N ln Mf q : Nat) (c : zS) : Option (Option Unit × zS) := zbt (zbl (fX3_readLabels_L2 N (nI ln) Mf (nI q) c) (fun x => some x) (fun s37 => some (some (), s37))) (fun sx => some (none, sx)) (fun _ s8 => fX3_readWord N (nI ln) s8)
noncomputable def zRL (o : Option ((Int32 × zS) ⊕ zS)) : Option (Int32 × zS) := zbl o (fun x => some x) (fun s52 => some (1, s52))
theorem RL_end {T : Nat → Nat} {N n i M : Nat} {m : zS} (h : zPM T n i m) (hk : (zw T n i).1 = 0) : fX10_readLine_L2 N (M + 1) 1 m = some (.inl (1, m)) := by
  show fX10_readLine_L2S N (fX10_readLine_L2 N M) 1 m = _
  unfold fX10_readLine_L2S
  rw [if_neg (show ¬ (1 : Int32) = 0 by decide), h.2.1.1, hk, if_pos (show nI (zMs 0) = 0 by decide)]
set_option maxHeartbeats 400000 in
theorem RL_x {T : Nat → Nat} {N n i M : Nat} {m : zS} (h : zPM T n i m) (hW : zWk T n (zps T n i) (zw T n i)) (hn : n ≤ 1000) (hk : (zw T n i).1 ≠ 0 ∧ (zw T n i).1 ≠ 1 ∧ (zw T n i).1 ≠ 2 ∧ (zw T n i).1 ≠ 4) : fX10_readLine_L2 N (M + 1) 1 m = some (.inl (0, zsc (zsc m 3320 (if (zw T n i).1 = 24 then (zw T n i).2.1 else nI 5)) 3321 (nI (zw T n i).2.2.1))) := by
  obtain ⟨z4, z1, z7, z2, z3, z0⟩ := zMs_q _ (zw_lt hW)
  have hJ : fX10_readLine_J40 N (fX10_readLine_L2 N M) 1 m = some (.inl (0, zsc (zsc m 3320 (if (zw T n i).1 = 24 then (zw T n i).2.1 else nI 5)) 3321 (nI (zw T n i).2.2.1))) := by
    unfold fX10_readLine_J40 fX10_readLine_J41
    rw [h.2.1.1, if_neg (fun z => by have := z1.mp z; omega), if_pos rfl, q_fail (x := 5) (y := 5) h rfl, zbn_s, if_pos (show zbo (0 : Int32) = true by decide)]
  show fX10_readLine_L2S N (fX10_readLine_L2 N M) 1 m = _
  unfold fX10_readLine_L2S
  rw [if_neg (show ¬ (1 : Int32) = 0 by decide), h.2.1.1, if_neg (fun z => hk.1 (z0.mp z)), hJ]
  by_cases k5 : (zw T n i).1 = 5
  · rw [if_pos (z2.mpr (by omega))]
    have hlen : (zw T n i).2.2.1 + 2 ≤ (zw T n i).2.2.2 ∧ (zw T n i).2.2.2 ≤ n := by
      rcases hW with ⟨z, -⟩ | ⟨z, -⟩ | ⟨y1, y2, y3, hh⟩
      · omega
      · omega
      rcases hh with ⟨z, -⟩ | ⟨z, -⟩ | ⟨z, -⟩ | ⟨z, e⟩ | ⟨z, -⟩ | ⟨z, -⟩ | ⟨z, -⟩
      · omega
      · omega
      · omega
      · exact ⟨e, y3⟩
      · omega
      · omega
      · omega
    rw [h.2.1.2.1, zPM_to h (by omega) (by omega), pk_sub (by omega), if_neg (show ¬ nI ((zw T n i).2.2.2 - (zw T n i).2.2.1) = (1 : Int32) from fun z => by have := (nI_eq (b := 1) (by omega) (by decide)).mp z; omega)]
  · rw [if_neg (fun z => by have := z2.mp z; omega)]
set_option maxHeartbeats 400000 in
theorem RL_name {T : Nat → Nat} {N n i M : Nat} {m : zS} (h : zPM T n i m) (hW : zWk T n (zps T n i) (zw T n i)) (hk : (zw T n i).1 = 1 ∨ (zw T n i).1 = 2) : fX10_readLine_L2 N (M + 1) 1 m = fX10_readLine_J77 N (fX10_readLine_L2 N M) 1 0 (if (zw T n i).1 = 1 then 1 else 0) m := by
  obtain ⟨z4, z1, z7, z2, z3, z0⟩ := zMs_q _ (zw_lt hW)
  obtain ⟨q1, q2⟩ := q_reg (N := N) h hW
  show fX10_readLine_L2S N (fX10_readLine_L2 N M) 1 m = _
  unfold fX10_readLine_L2S fX10_readLine_J40 fX10_readLine_J41 fX10_readLine_J60 fX10_readLine_J72
  rw [if_neg (show ¬ (1 : Int32) = 0 by decide), h.2.1.1, if_neg (fun z => by have := z0.mp z; omega), if_neg (fun z => by have := z2.mp z; omega), if_pos (z1.mpr hk), if_pos rfl, q1, zbn_s]
  by_cases k2 : (zw T n i).1 = 2
  · rw [if_pos k2, if_neg (q2 k2), if_neg (by omega)]
  · rw [if_neg k2, if_pos rfl, if_pos (by omega)]
set_option maxHeartbeats 400000 in
theorem RL_digit {T : Nat → Nat} {N n i M : Nat} {m : zS} (h : zPM T n i m) (hW : zWk T n (zps T n i) (zw T n i)) (hk : (zw T n i).1 = 4) : fX10_readLine_L2 N (M + 1) 1 m = fX10_readLine_J77 N (fX10_readLine_L2 N M) 1 1 1 m ∧ ∃ v : Nat, v < 10 ∧ (zw T n i).2.1 = nI v := by
  obtain ⟨z4, z1, z7, z2, z3, z0⟩ := zMs_q _ (zw_lt hW)
  have hlen : (zw T n i).2.2.2 = (zw T n i).2.2.1 + 1 ∧ ∃ v : Nat, v < 10 ∧ (zw T n i).2.1 = nI v := by
    rcases hW with ⟨z, -⟩ | ⟨z, -⟩ | ⟨y1, y2, y3, hh⟩
    · omega
    · omega
    rcases hh with ⟨z, -⟩ | ⟨z, -⟩ | ⟨z, v, e1, e2, e3⟩ | ⟨z, -⟩ | ⟨z, -⟩ | ⟨z, -⟩ | ⟨z, -⟩
    · omega
    · omega
    · exact ⟨e3, v, e1, e2⟩
    · omega
    · omega
    · omega
    · omega
  refine ⟨?_, hlen.2⟩
  show fX10_readLine_L2S N (fX10_readLine_L2 N M) 1 m = _
  unfold fX10_readLine_L2S fX10_readLine_J41 fX10_readLine_J60 fX10_readLine_J72
  rw [if_neg (show ¬ (1 : Int32) = 0 by decide), h.2.1.1, if_neg (fun z => by have := z0.mp z; omega), if_pos (z2.mpr (by omega)), h.2.1.2.1, zPM_to h (by omega) (by omega), hlen.1, pk_sub (by omega), show (zw T n i).2.2.1 + 1 - (zw T n i).2.2.1 = 1 by omega, if_pos (show nI 1 = (1 : Int32) from rfl), if_neg (fun z => by have := z1.mp z; omega), if_neg (show ¬ (1 : Int32) = 0 by decide), if_neg (show ¬ (1 : Int32) = 0 by decide)]
def zLH (T : Nat → Nat) (n b L N ln d : Nat) : Prop := ∀ (i n0 n1 n3 nb nl W : Nat) (lc : List (Int32 × Int32)) (c m : zS) (Mf M q : Nat), L ≤ i + d → d < Mf → d < M → zEN T n b L i n0 n0 n1 n3 nb nl lc c m → zWB W b n0 n1 lc.length n3 c → W ≤ 5 * (zw T n i).2.2.1 → m.1 3319 = nI ln → (zw T n i).1 ≠ 24 → q ≤ n0 → zLA T n b L N i ln c m (zCL N ln Mf q c) (zRL (fX10_readLine_L2 N M 1 m)) ∨ zLB b c m (zCL N ln Mf q c) (zRL (fX10_readLine_L2 N M 1 m))
set_option maxHeartbeats 1000000 in
theorem labT {N n b L i n0 n1 n3 nb nl W ln v so sm q d Mf M : Nat} {T : Nat → Nat} {lc : List (Int32 × Int32)} {c m c2 m2 : zS} {v2 : Int32} (hx : zCx T n L N) (ih : zLH T n b L N ln d) (hd : L ≤ i + (d + 1)) (hMf : d < Mf) (hM : d < M) (hG : zGr b c m c2 m2) (h : zENb (zw T n i).2.2.2 T n b L i n0 (n0 + 1) n1 n3 nb nl lc c2 m2) (hw : zWB W b n0 n1 lc.length n3 c2) (hr : zSR b n0 so sm v n1 0 0 (zw T n i).2.2.1 ln c2 m2) (hWb : W ≤ 5 * (zw T n i).2.2.1) (h19 : m2.1 3319 = nI ln) (h0 : (zw T n i).1 ≠ 0) (h24 : (zw T n i).1 ≠ 24) (hn0 : n0 < 400) (hso : so ≤ 1) (hv1 : so = 1 → v < 10) (hv2 : so ≠ 1 → v < n3) (hq : q ≤ n0) (h2 : (v2 = 0 ∧ so = 0 ∧ (zw T n (i + 1)).1 = 22) ∨ (v2 = 1 ∧ so = 1)) : ∀ (oc : Option (Option Unit × zS)) (om : Option (Int32 × zS)), oc = zbt (zbl (zbt (fX3_step N c2) (fun sx => some (.inl (none, sx))) (fun _ s26 => zbt (fX3_demand N 22 s26) (fun sx => some (.inl (none, sx))) (fun _ s29 => zbt (fX3_step N s29) (fun sx => some (.inl (none, sx))) (fun _ s32 => fX3_readLabels_L2 N (nI ln) Mf (nI (q + 1)) s32)))) (fun x => some x) (fun s37 => some (some (), s37))) (fun sx => some (none, sx)) (fun _ s8 => fX3_readWord N (nI ln) s8) → om = zRL (zbn (fX10_next N m2) (fun _ s10 => if v2 = 0 then fX10_readLine_J167 N (fX10_readLine_L2 N M) 1 v2 1 (nI n0) s10 else zbn (fX10_isSign N 58 s10) (fun x31 s32 => if x31 = 0 then zbn (fX10_fail N 5 s32) (fun x34 s35 => if zbo x34 = true then some (.inl (x34, s35)) else none) else fX10_readLine_J167 N (fX10_readLine_L2 N M) 1 v2 1 (nI n0) s32))) → zLA T n b L N i ln c m oc om ∨ zLB b c m oc om := by
  intro oc om hoc hom
  obtain ⟨x1, x2, x3, x4, x5, x6⟩ := id hx
  have hb := h.1.1
  have no1 : ¬ (1 : Int32) = 0 := by decide
  have z0 : zbo (0 : Int32) = true := by decide
  obtain ⟨c3, m3, s1, s2, s3, s4, s5, s6, s7, s8⟩ := stepE (N := N) hx h (Nat.le_refl _) h0 h24
  have hadv := zw_adv x1 x2 s4
  have hG3 : zGr b c m c3 m3 := zGr_trans hG (zGr_x hb s2)
  have hlt1 := zw_lt (cx_w hx (show i + 1 ≤ L by omega))
  rw [s1, zbn_s] at hom
  have fl : (zw T n (i + 1)).1 ≠ 22 → om = some (0, zsc (zsc m3 3320 (if (zw T n (i + 1)).1 = 24 then (zw T n (i + 1)).2.1 else nI 5)) 3321 (nI (zw T n (i + 1)).2.2.1)) := by
    intro k22
    rcases h2 with h2 | h2
    · exact absurd h2.2.2 k22
    rw [hom, h2.1, if_neg no1, q_sign_f (kx := 22) (x := 58) s3 hlt1 rfl (by omega) k22, zbn_s, if_pos rfl, q_fail (x := 5) (y := 5) s3 rfl, zbn_s, if_pos z0]
    rfl
  rcases s8 with ⟨d4, d5, d6⟩ | ⟨d4, d5, d6, d7⟩
  case inr =>
    exact Or.inr (LB_24 (x := 5) hx (show i + 1 ≤ L by omega) hb d4 d6 d7 hG3 (by rw [hoc, d5, zbt_n, zbl_l, zbt_n]) (fl (by omega)))
  have g43 : c3.1 304 = nI (zw T n (i + 1)).1 := d6.1.2.2.2.2.2.2.2.1
  by_cases k22 : (zw T n (i + 1)).1 = 22
  case neg =>
    exact Or.inr (LB_x (x := 5) (y := 5) hb d4 (by omega) (by omega) d6.1.2.2.2.2.2.2.2.2 hG3 rfl (by rw [hoc, d5, zbt_s, dem_n (x := 22) g43 hlt1 (k := 22) rfl (by omega) k22, zbt_n, zbl_l, zbt_n]) (fl k22))
  obtain ⟨m4, hm4⟩ : ∃ m4, m4 = zsr m3 37 (nI (6 * n0)) (nI so) := ⟨_, rfl⟩
  obtain ⟨A1, A2, A3, A4, A5, A6⟩ := zEN_37 (c' := c3) (m' := m4) d6 hn0 (Or.inl rfl) (Or.inr ⟨0, nI so, by omega, hm4⟩)
  have R3 : zSR b n0 so sm v n1 0 0 (zw T n i).2.2.1 ln c3 m3 := zSR_k hr (by rw [s5]) s6
  have R4 : zSR b n0 so so v n1 0 0 (zw T n i).2.2.1 ln c3 m4 := by rw [hm4]; exact zSR_s R3 hn0 rfl
  have W3 : zWB W b n0 n1 lc.length n3 c3 := zWB_fx hw s2 (fun t j _ _ => by rw [s5]) hb (Nat.le_refl _)
  have E4 := zEN_row A1 R4
  have W4 : zWB W b (n0 + 1) n1 lc.length n3 c3 := zWB_st W3 (fun _ _ => rfl) (fun _ _ => rfl) (so := so) (v := v) (f := n1) (g := 0) (by omega) hv1 hv2 (by omega) R4.1.1 R4.2.1.1 R4.2.2.1.1 R4.2.2.2.1.1
  obtain ⟨c5, m5, t1, t2, t3, t4, t5, t6, t7, t8⟩ := stepE (N := N) (B := (zw T n (i + 1)).2.2.1) hx E4 (by have := zw_adv x1 x2 (cx_lt hx (show i + 1 ≤ L by omega) (by omega) d4); omega) (by omega) d4
  have hadv2 := zw_adv x1 x2 t4
  have hG5 : zGr b c m c5 m5 := zGr_trans hG3 (zGr_trans A2 (zGr_x hb t2))
  have e6 : 6 * nI n0 = nI (6 * n0) := pk_mul 6 n0
  have hz : zga (nI (6 * n0)) (zlen 37) = true := zga_l (by rfl) (show 6 * n0 < 4800 by omega) (by decide)
  have hJ : fX10_readLine_J167 N (fX10_readLine_L2 N M) 1 v2 1 (nI n0) m3 = fX10_readLine_L2 N M 1 m5 := by
    unfold fX10_readLine_J167
    rw [if_neg no1, q_sign_t (kx := 22) (x := 58) s3 rfl (by omega) k22, zbn_s, if_neg no1, e6]
    rcases h2 with h2 | h2
    · rw [if_pos h2.1, if_pos hz, show zsr m3 37 (nI (6 * n0)) 0 = m4 by rw [hm4, h2.2.1]; rfl, t1, zbn_s]
    · rw [h2.1, if_neg no1, if_pos hz, show zsr m3 37 (nI (6 * n0)) 1 = m4 by rw [hm4, h2.2]; rfl, t1, zbn_s]
  have hom2 : om = zRL (fX10_readLine_L2 N M 1 m5) := by
    rw [hom]
    rcases h2 with h2 | h2
    · rw [if_pos h2.1, hJ]
    · rw [if_neg (show ¬ v2 = 0 by rw [h2.1]; exact no1), q_sign_t (kx := 22) (x := 58) s3 rfl (by omega) k22, zbn_s, if_neg no1, hJ]
  have hoc2 : oc = zbt (zbl (zbt (fX3_step N c3) (fun sx => some (.inl (none, sx))) (fun _ s32 => fX3_readLabels_L2 N (nI ln) Mf (nI (q + 1)) s32)) (fun x => some x) (fun s37 => some (some (), s37))) (fun sx => some (none, sx)) (fun _ s8 => fX3_readWord N (nI ln) s8) := by
    rw [hoc, d5, zbt_s, dem_y (x := 22) g43 (by rw [k22]; rfl), zbt_s]
  rcases t8 with ⟨u4, u5, u6⟩ | ⟨u4, u5, u6, u7⟩
  case inr =>
    obtain ⟨M, rfl⟩ : ∃ w, M = w + 1 := ⟨M - 1, by omega⟩
    refine Or.inr (LB_24 (x := 5) hx (show i + 1 + 1 ≤ L by omega) hb u4 u6 u7 hG5 (by rw [hoc2, u5, zbt_n, zbl_l, zbt_n]) ?_)
    rw [hom2, RL_x t3 (cx_w hx (show i + 1 + 1 ≤ L by omega)) x5 (by omega)]
    rfl
  have W5 : zWB W b (n0 + 1) n1 lc.length n3 c5 := zWB_fx W4 t2 (fun t j _ _ => by rw [t5]) hb (Nat.le_refl _)
  have e19 : m5.1 3319 = nI ln := t7.trans (by rw [A6]; exact s7.trans h19)
  have hoc3 : oc = zCL N ln Mf (q + 1) c5 := by
    rw [hoc2, u5, zbt_s]
    rfl
  rw [hoc3, hom2]
  rcases ih (i + 1 + 1) (n0 + 1) n1 n3 nb nl W lc c5 m5 Mf M (q + 1) (by omega) hMf (by omega) u6 W5 (by omega) e19 u4 (by omega) with P | P
  · exact Or.inl (LA_up P (by omega) hG5)
  · exact Or.inr (LB_up P hG5)
set_option maxHeartbeats 1000000 in
theorem lineEnd {N n b L i n0 n1 n3 nb nl W ln Mf M q : Nat} {T : Nat → Nat} {lc : List (Int32 × Int32)} {c m : zS} (hx : zCx T n L N) (h : zEN T n b L i n0 n0 n1 n3 nb nl lc c m) (hw : zWB W b n0 n1 lc.length n3 c) (hWb : W ≤ 5 * (zw T n i).2.2.1) (h19 : m.1 3319 = nI ln) (h24 : (zw T n i).1 ≠ 24) (hq : q ≤ n0) (hk : ¬ ((zw T n i).1 = 4 ∨ ((zw T n i).1 = 1 ∧ (zw T n (i + 1)).1 = 22))) : zLA T n b L N i ln c m (zCL N ln (Mf + 1) q c) (zRL (fX10_readLine_L2 N (M + 1) 1 m)) ∨ zLB b c m (zCL N ln (Mf + 1) q c) (zRL (fX10_readLine_L2 N (M + 1) 1 m)) := by
  obtain ⟨x1, x2, x3, x4, x5, x6⟩ := id hx
  have hb := h.1.1
  have hi := h.2.1
  have h2 := h.2.2.1
  have hW := cx_w hx hi
  have hlt := zw_lt hW
  have g3 : c.1 303 = nI i := h.1.2.2.2.2.2.2.1
  have g4 : c.1 304 = nI (zw T n i).1 := h.1.2.2.2.2.2.2.2.1
  have o1 : n0 ≤ 400 := h.2.2.2.2.2.2.2.2.2.1.1
  have nk : ∀ (k : Nat) (y : Int32), y = nI k → k < 25 → (zw T n i).1 ≠ k → ¬ nI (zw T n i).1 = y := fun k y hy hk hne z => hne ((nI_eq (by omega) (by omega)).mp (z.trans hy))
  have hL0 : fX3_isAtLabel N c = some (0, c) := by
    unfold fX3_isAtLabel
    rw [g4, if_neg (nk 4 4 rfl (by omega) (by omega))]
    by_cases k1 : (zw T n i).1 = 1
    · have hiL : i < L := cx_lt hx hi (by omega) h24
      have hlt1 := zw_lt (cx_w hx (show i + 1 ≤ L by omega))
      rw [if_pos (show nI (zw T n i).1 = 1 by rw [k1]; rfl), g3, show nI i + 1 = nI (i + 1) from nI_1 _, (k_kind h.1 (show i + 1 ≤ L by omega) x4).1, zbn_s, if_neg (show ¬ nI (zw T n (i + 1)).1 = (22 : Int32) from fun z => by have := (nI_eq (b := 22) (by omega) (by decide)).mp z; omega)]
    · rw [if_neg (nk 1 1 rfl (by omega) k1)]
  have hC : zCL N ln (Mf + 1) q c = fX3_readWord N (nI ln) c := by
    have e : fX3_readLabels_L2 N (nI ln) (Mf + 1) (nI q) c = some (.inr c) := by
      show fX3_readLabels_L2S N (nI ln) (fX3_readLabels_L2 N (nI ln) Mf) (nI q) c = _
      unfold fX3_readLabels_L2S
      rw [if_neg (show ¬ (400 : Int32) < nI q from nI_nlt (a := 400) (by omega) (by decide)), hL0, zbn_s, if_pos rfl]
    unfold zCL
    rw [e, zbl_r, zbt_s]
  rw [hC]
  by_cases kn : (zw T n i).1 = 1 ∨ (zw T n i).1 = 2
  · obtain ⟨x, m', e1, e2⟩ := wordI (N := N) (rec := fX10_readLine_L2 N M) (v3 := if (zw T n i).1 = 1 then 1 else 0) hx h hw hWb h19 (by
      by_cases k1 : (zw T n i).1 = 1
      · exact Or.inl ⟨k1, fun z => hk (Or.inr ⟨k1, z⟩)⟩
      · exact Or.inr ⟨by omega, if_neg k1⟩)
    rw [RL_name h2 hW kn, e1]
    exact e2
  have hR : fX3_readWord N (nI ln) c = (if (zw T n i).1 = 0 then fX3_step N c else some (none, zRF c 5)) := by
    unfold fX3_readWord
    rw [g4, if_neg (nk 1 1 rfl (by omega) (by omega)), if_neg (nk 2 2 rfl (by omega) (by omega))]
    by_cases k0 : (zw T n i).1 = 0
    · rw [if_pos k0, dem_y (x := 0) g4 (by rw [k0]; rfl), zbt_s]
      exact bt_id _
    · rw [if_neg k0, dem_n (x := 0) g4 hlt (k := 0) rfl (by omega) k0, zbt_n]
  rw [hR]
  by_cases k0 : (zw T n i).1 = 0
  · rw [if_pos k0, RL_end h2 k0]
    exact Or.inl ⟨i, n0, n1, n3, nb, nl, W, lc, c, m, Nat.le_refl _, k0, h, hw, by omega, h19, rfl, rfl, zGr_refl _ _ _⟩
  · rw [if_neg k0, RL_x h2 hW x5 (by omega)]
    exact Or.inr (LB_x (x := 5) (y := 5) (c1 := c) (m1 := m) hb h24 (by omega) (by omega) h.1.2.2.2.2.2.2.2.2 (zGr_refl _ _ _) rfl rfl rfl)
set_option maxHeartbeats 1000000 in
theorem lineL {N n b L ln : Nat} {T : Nat → Nat} (hx : zCx T n L N) : ∀ d, zLH T n b L N ln d := by
  obtain ⟨x1, x2, x3, x4, x5, x6⟩ := id hx
  have z0 : zbo (0 : Int32) = true := by decide
  have no1 : ¬ (1 : Int32) = 0 := by decide
  have g0 : (0 : Int32).toNatClampNeg = 0 := by decide
  have hz0 : zga 0 (zlen 36) = true := by decide +kernel
  intro d
  induction d with
  | zero =>
    intro i n0 n1 n3 nb nl W lc c m Mf M q hd hMf hM h hw hWb h19 h24 hq
    obtain ⟨Mf, rfl⟩ : ∃ w, Mf = w + 1 := ⟨Mf - 1, by omega⟩
    obtain ⟨M, rfl⟩ : ∃ w, M = w + 1 := ⟨M - 1, by omega⟩
    have hk0 : (zw T n i).1 = 0 := by
      apply Classical.byContradiction
      intro z
      have := cx_lt hx h.2.1 z h24
      omega
    exact lineEnd hx h hw hWb h19 h24 hq (by omega)
  | succ d ih =>
    intro i n0 n1 n3 nb nl W lc c m Mf M q hd hMf hM h hw hWb h19 h24 hq
    obtain ⟨Mf, rfl⟩ : ∃ w, Mf = w + 1 := ⟨Mf - 1, by omega⟩
    obtain ⟨M, rfl⟩ : ∃ w, M = w + 1 := ⟨M - 1, by omega⟩
    by_cases ke : (zw T n i).1 = 4 ∨ ((zw T n i).1 = 1 ∧ (zw T n (i + 1)).1 = 22)
    case neg => exact lineEnd hx h hw hWb h19 h24 hq ke
    have hb := h.1.1
    have hi := h.2.1
    have h2 := h.2.2.1
    have hiL : i < L := cx_lt hx hi (by omega) h24
    have hadv := zw_adv x1 x2 hiL
    have g3 : c.1 303 = nI i := h.1.2.2.2.2.2.2.1
    have g4 : c.1 304 = nI (zw T n i).1 := h.1.2.2.2.2.2.2.2.1
    have o1 : n0 ≤ 400 := h.2.2.2.2.2.2.2.2.2.1.1
    have o2 : c.1 (100 * (b + 1) + 3) = nI n0 := h.2.2.2.2.2.2.2.2.2.1.2.1
    have o3 : m.2.1 36 0 = nI n0 := h.2.2.2.2.2.2.2.2.2.1.2.2.1
    have hlt := zw_lt (cx_w hx hi)
    have h4 : ¬ (400 : Int32) < nI q := nI_nlt (a := 400) (by omega) (by decide)
    by_cases k4 : (zw T n i).1 = 4
    · obtain ⟨r1, v, hv, ev⟩ := RL_digit (N := N) (M := M) h2 (cx_w hx hi) k4
      have e16 : m.1 3316 = nI v := (h2.2.1.2.2.2.1 (by omega)).trans ev
      have hCd : fX3_readLabels_L2 N (nI ln) (Mf + 1) (nI q) c = zbt (fX3_addStatement N 1 (nI v) (nI ln) c) (fun sx => some (.inl (none, sx))) (fun _ s23 => zbt (fX3_step N s23) (fun sx => some (.inl (none, sx))) (fun _ s26 => zbt (fX3_demand N 22 s26) (fun sx => some (.inl (none, sx))) (fun _ s29 => zbt (fX3_step N s29) (fun sx => some (.inl (none, sx))) (fun _ s32 => fX3_readLabels_L2 N (nI ln) Mf (nI (q + 1)) s32)))) := by
        show fX3_readLabels_L2S N (nI ln) (fX3_readLabels_L2 N (nI ln) Mf) (nI q) c = _
        unfold fX3_readLabels_L2S fX3_isAtLabel
        rw [if_neg h4, g4, if_pos (show nI (zw T n i).1 = 4 by rw [k4]; rfl), zbn_s, if_neg no1, g4, if_pos (show nI (zw T n i).1 = 4 by rw [k4]; rfl), g3, (k_kind h.1 hi x4).2.2, zbn_s, ev, nI_1]
      rw [r1]
      unfold fX10_readLine_J77 zCL
      rw [if_pos hz0, g0, o3, hCd]
      by_cases f400 : n0 = 400
      · rw [if_pos (show nI n0 = 400 by rw [f400]; rfl), q_fail (x := 8) (y := 8) h2 rfl, zbn_s, if_pos z0, a_full hb h.1.2.1 h.1.2.2.1 o2 f400, zbt_n, zbl_l, zbt_n]
        exact Or.inr (LB_x (x := 8) (y := 8) (m1 := m) (c1 := c) hb h24 (by omega) (by omega) h.1.2.2.2.2.2.2.2.2 (zGr_refl _ _ _) rfl rfl rfl)
      rw [if_neg (show ¬ nI n0 = (400 : Int32) from fun z => f400 ((nI_eq (b := 400) (by omega) (by decide)).mp z)), if_neg no1, e16]
      obtain ⟨c2, m2, a1, a2, a3, a4, a5, a6, a7, a8⟩ := stA (N := N) (x := 1) (x' := 0) (y := nI v) (z := nI ln) (sc := 1) (sm := 0) (v := v) (ln := ln) (B := (zw T n i).2.2.1) hx h hw (by omega) (by omega) h19 rfl rfl rfl rfl
      have a3' : zENb (zw T n i).2.2.2 T n b L i n0 (n0 + 1) n1 n3 nb nl lc c2 m2 := by
        obtain ⟨y1, y2, y3, y4, ⟨y5, y6⟩, y7⟩ := a3
        exact ⟨y1, y2, y3, y4, ⟨by omega, by omega⟩, y7⟩
      refine labT (v2 := 1) (Mf := Mf) (M := M) hx ih hd (by omega) (by omega) a6 a3' a4 a5 hWb a7 (by omega) h24 (by omega) (by omega) (fun _ => hv) (fun z => absurd rfl z) hq (Or.inr ⟨rfl, rfl⟩) _ _ ?_ ?_
      · rw [a1, zbt_s]
      · unfold fX10_readLine_J112 fX10_readLine_J124
        rw [if_neg no1, a2, zbn_s, if_neg no1, if_pos hz0, g0, a8, show nI (n0 + 1) - 1 = nI n0 from nI_pred n0]
    · have k1 : (zw T n i).1 = 1 := by omega
      have k22 : (zw T n (i + 1)).1 = 22 := by omega
      have r1 := RL_name (N := N) (M := M) h2 (cx_w hx hi) (Or.inl k1)
      rw [if_pos k1] at r1
      have hCd : fX3_readLabels_L2 N (nI ln) (Mf + 1) (nI q) c = zbt (fX3_nameNumber N c) (fun sx => some (.inl (none, sx))) (fun x4 s5 => zbt (fX3_addStatement N 0 x4 (nI ln) s5) (fun sx => some (.inl (none, sx))) (fun _ s23 => zbt (fX3_step N s23) (fun sx => some (.inl (none, sx))) (fun _ s26 => zbt (fX3_demand N 22 s26) (fun sx => some (.inl (none, sx))) (fun _ s29 => zbt (fX3_step N s29) (fun sx => some (.inl (none, sx))) (fun _ s32 => fX3_readLabels_L2 N (nI ln) Mf (nI (q + 1)) s32))))) := by
        show fX3_readLabels_L2S N (nI ln) (fX3_readLabels_L2 N (nI ln) Mf) (nI q) c = _
        unfold fX3_readLabels_L2S fX3_isAtLabel
        rw [if_neg h4, g4, if_neg (show ¬ nI (zw T n i).1 = (4 : Int32) by rw [k1]; decide), if_pos (show nI (zw T n i).1 = 1 by rw [k1]; rfl), g3, show nI i + 1 = nI (i + 1) from nI_1 _, (k_kind h.1 (show i + 1 ≤ L by omega) x4).1, zbn_s, if_pos (show nI (zw T n (i + 1)).1 = 22 by rw [k22]; rfl), zbn_s, if_neg no1, g4, if_neg (show ¬ nI (zw T n i).1 = (4 : Int32) by rw [k1]; decide), nI_1]
      rw [r1]
      unfold fX10_readLine_J77 zCL
      rw [if_pos hz0, g0, o3, hCd]
      by_cases f400 : n0 = 400
      · rw [if_pos (show nI n0 = 400 by rw [f400]; rfl), q_fail (x := 8) (y := 8) h2 rfl, zbn_s, if_pos z0]
        rcases nameI (N := N) hx h hw (Or.inl k1) with ⟨k, n3', nb', c1, m1, p1, p2, p3, p4, p5, p6, p7, p8, p9⟩ | ⟨c1, p1, p2, p3, p4, p5⟩
        · rw [p1, zbt_s, a_full hb p6.1.2.1 p6.1.2.2.1 p6.2.2.2.2.2.2.2.2.2.1.2.1 f400, zbt_n, zbl_l, zbt_n]
          exact Or.inr (LB_x (x := 8) (y := 8) (m1 := m) hb h24 (by omega) (by omega) p6.1.2.2.2.2.2.2.2.2 ⟨p8.1, zFM_refl _⟩ rfl rfl rfl)
        · rw [p1, zbt_n, zbl_l, zbt_n, if_neg h24]
          exact Or.inr ⟨c1, _, 8, (zw T n i).2.2.1, rfl, rfl, ⟨by omega, by omega, p3, p4, (zsc_ne (by decide)).trans zsc_at, zsc_at⟩, zGr_trans p5 (zGr_m hb)⟩
      rw [if_neg (show ¬ nI n0 = (400 : Int32) from fun z => f400 ((nI_eq (b := 400) (by omega) (by decide)).mp z)), if_pos rfl]
      rcases nameI (N := N) hx h hw (Or.inl k1) with ⟨k, n3', nb', c1, m1, p1, p2, p3, p4, p5, p6, p7, p8, p9⟩ | ⟨c1, p1, p2, p3, p4, p5⟩
      case inr =>
        rw [p1, zbt_n, zbl_l, zbt_n, p2, zbn_s]
        unfold fX10_readLine_J112 fX10_readLine_J124 fX10_state
        rw [if_pos rfl, if_pos hz0, g0, o3, if_neg (show ¬ nI n0 = (400 : Int32) from fun z => f400 ((nI_eq (b := 400) (by omega) (by decide)).mp z)), if_pos rfl, q_fail (x := 8) (y := 8) h2 rfl, zbn_s, if_pos z0, zbn_s, if_pos rfl, if_neg h24]
        exact Or.inr ⟨c1, _, 8, (zw T n i).2.2.1, rfl, rfl, ⟨by omega, by omega, p3, p4, (zsc_ne (by decide)).trans zsc_at, zsc_at⟩, zGr_trans p5 (zGr_m hb)⟩
      obtain ⟨c2, m2, a1, a2, a3, a4, a5, a6, a7, a8⟩ := stA (N := N) (x := 0) (x' := 2) (y := nI k) (z := nI ln) (sc := 0) (sm := 2) (v := k) (ln := ln) hx p6 p7 (by omega) (by omega) (p9.trans h19) rfl rfl rfl rfl
      refine labT (v2 := 0) (Mf := Mf) (M := M) hx ih hd (by omega) (by omega) (zGr_trans p8 a6) a3 a4 a5 hWb a7 (by omega) h24 (by omega) (by omega) (fun z => absurd z (by omega)) (fun _ => p3) hq (Or.inl ⟨rfl, rfl, k22⟩) _ _ ?_ ?_
      · rw [p1, zbt_s, a1, zbt_s]
      · rw [p2, zbn_s]
        unfold fX10_readLine_J112 fX10_readLine_J124
        rw [if_pos rfl, a2, zbn_s, if_neg no1, if_pos hz0, g0, a8, show nI (n0 + 1) - 1 = nI n0 from nI_pred n0]
