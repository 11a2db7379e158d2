set_option maxHeartbeats 1000000 in
theorem op_mem {N n b L i n0 s0 n1 n3 nb nl : Nat} {T : Nat → Nat} {lc : List (Int32 × Int32)} {c m : zS} (hx : zCx T n L N) (h : zEN T n b L i n0 s0 n1 n3 nb nl lc c m) (hn1 : 2 * n1 + 1 ≤ i) (hlc : lc.length + 1 ≤ i) (hkd : (zw T n i).1 = 9) (h9 : (zw T n (i + 1)).1 = 2) : zOA T n b L i n0 s0 n1 n3 nb nl lc c m (fX3_readOperand N c) (fX10_takeOperand N m) ∨ zOB b n1 n3 nb c m (fX3_readOperand N c) (fX10_takeOperand N m) ∨ zOC T n b L n1 n3 nb c m (fX3_readOperand N c) (fX10_takeOperand N m) := by
  have hb := h.1.1
  have hbb := zb_lt hb
  have hi := h.2.1
  have h2 := h.2.2.1
  obtain ⟨x1, x2, x3, x4, x5, x6⟩ := id hx
  have hlt := zw_lt (cx_w hx hi)
  have h24 : (zw T n i).1 ≠ 24 := by omega
  have hiL : i < L := cx_lt hx hi (by omega) h24
  have g3 : c.1 303 = nI i := h.1.2.2.2.2.2.2.1
  have g4 : c.1 304 = nI (zw T n i).1 := h.1.2.2.2.2.2.2.2.1
  have nk : ∀ (k : Nat) (y : Int32), y = nI k → k < 25 → (zw T n i).1 ≠ k → ¬ nI (zw T n i).1 = y := fun k y hy hk hne z => hne ((nI_eq (by omega) (by omega)).mp (z.trans hy))
  obtain ⟨c1, m1, b1, b2, b3, b4, -, b5⟩ := begI (N := N) (x := 2) (so := 2) hx h rfl
  obtain ⟨m2, e1, e2, e3⟩ := isBase_y (N := N) hx hiL b2.1.2.2.1 hkd
  rw [if_pos h9] at e1
  obtain ⟨e4, e5⟩ := zMI_m b2 e2 e3
  have E4 := e4
  obtain ⟨⟨s1, s2, s3, s4, s5, s6, s7, ⟨f1, f2, f3, f4, f5⟩, l1, l2⟩, o1, o2, o3, o4⟩ := e4
  rcases q_count (N := N) f1 f2 (by omega) f5 with ⟨-, k2⟩ | ⟨k1, -⟩
  case inr => omega
  rcases q_tally (N := N) s3 f3 f4 (by omega) f5 with ⟨-, t2⟩ | ⟨t1, -⟩
  case inr => omega
  obtain ⟨c3, hc3⟩ : ∃ c3, c3 = zsc c1 308 (nI (0 + 1)) := ⟨_, rfl⟩
  obtain ⟨m3, hm3⟩ : ∃ m3, m3 = zsc (zsc m2 3324 (nI (lc.length + 0 + 1))) 3325 (nI (0 + 1)) := ⟨_, rfl⟩
  rw [← hc3] at k2
  rw [← hm3] at t2
  have zm3 : zeq [3324, 3325] [] m2 m3 := by rw [hm3]; exact zeq_trans (zeq_c (by decide)) (zeq_c (by decide))
  have pc3 : zPC T n b L i c3 := by rw [hc3]; exact zPC_c s1 (by omega)
  have ic3 : zIC b lc c3 := by rw [hc3]; exact zIC_c s6 (by omega) hb
  have im3 : zIM lc m3 := zIM_keep s7 (by rw [zm3.2.1 36 List.not_mem_nil]) (zm3.2.1 39 List.not_mem_nil)
  have pm3 : zPM T n i m3 := zPM_keep s3 zm3 (by decide) (by simp)
  have pn3 : zPN b n3 nb c3 m3 := by
    rw [hc3]
    exact zPN_c (zPN_keep s4 rfl (by rw [zm3.2.1 36 List.not_mem_nil]) rfl rfl rfl (zm3.2.1 40 List.not_mem_nil) (zm3.2.1 41 List.not_mem_nil)) (by omega) hb
  obtain ⟨c4, g1, g2, g5⟩ := q_addItem (N := N) (u := 0) (v := 0) hb pc3.2.2.1 ic3 (by omega) (by omega)
  obtain ⟨m4, w1, w2, w3, w4, w5⟩ := q_emit (N := N) (u := 0) (v := 0) im3 (by omega)
  have nk4 : ∀ y, y ≠ 100 * (b + 5) + 3 → c4.1 y = c3.1 y := fun y hy => g5.1 y (by simp [hy])
  have ac4 : ∀ a, a ≠ b + 6 → c4.2.1 a = c3.2.1 a := fun a ha => g5.2.1 a (by simp [ha])
  have km4 : ∀ y, m4.1 y = m3.1 y := fun y => w3.1 y List.not_mem_nil
  have fr : zFx2 b n3 nb c1 m2 c4 m4 := by
    refine zFx2_trans (n3' := n3) (nb' := nb) (c1 := c3) (m1 := m3) ?_ ⟨zeq_mono g5 (fun y hy => by rw [List.mem_singleton.mp hy]; unfold zKX; simp) (fun a ha => by rw [List.mem_singleton.mp ha]; simp), fun y _ => by rw [ac4 _ (by omega)], fun y _ => by rw [ac4 _ (by omega)], zeq_mono w3 (fun _ h => absurd h List.not_mem_nil) (by decide), w4, fun j hj _ => w5 j hj⟩ (Nat.le_refl _) (Nat.le_refl _)
    rw [hc3, hm3]
    exact zFx2_trans z3_F zt_F (Nat.le_refl n3) (Nat.le_refl nb)
  have M4 : zMI T n b L i n0 s0 n1 n3 nb nl (lc ++ [(0, 0)]) lc.length 1 (zw T n i).2.2.1 2 0 0 (-1) c4 m4 := by
    refine zMI_x E4 fr ⟨zPC_keep pc3 (zeq_mono g5 (fun y hy => by rw [List.mem_singleton.mp hy]; unfold zKC; simp) (fun a ha => by rw [List.mem_singleton.mp ha]; unfold zAC; simp)) (nk4 _ (by omega)) (nk4 _ (by omega)) (nk4 _ (by omega)) (nk4 _ (by omega)) (nk4 _ (by omega)), s2, zPM_keep pm3 w3 (by simp) (by decide), zPN_keep pn3 (nk4 _ (by omega)) (w5 3 (by decide)) (nk4 _ (by omega)) (ac4 _ (by omega)) (ac4 _ (by omega)) (w3.2.1 40 (by decide)) (w3.2.1 41 (by decide)), s5, g2, w2, ⟨?_, ?_, ?_, ?_, by omega⟩, ?_, l2⟩ (Nat.le_refl _) (Nat.le_refl _)
    · rw [nk4 _ (by omega), hc3]; exact (zsc_ne (by decide)).trans f1
    · rw [nk4 _ (by omega), hc3]; exact zsc_at
    · rw [km4, hm3]; exact (zsc_ne (by decide)).trans zsc_at
    · rw [km4, hm3]; exact zsc_at
    · rw [List.length_append, List.length_singleton]; exact hlc
  have hf : zFo b n1 n3 nb c m c4 m4 := zFo_trans b3 (zFo_trans (zFo_x hb e5) (zFo_x hb fr) (Nat.le_refl n1) (Nat.le_refl _) (Nat.le_refl _)) (Nat.le_refl _) (Nat.le_refl _) (Nat.le_refl _)
  have hC : fX3_readOperand N c = zbt (fX3_readBase N c4) (fun sx => some (none, sx)) (fun _ s48 => fX3_readOperand_J191 N s48) := by
    unfold fX3_readOperand fX3_readOperand_J14
    rw [g4, if_neg (nk 16 16 rfl (by omega) (by omega)), if_neg (nk 2 2 rfl (by omega) (by omega)), if_neg (nk 7 7 rfl (by omega) (by omega)), if_pos (show nI (zw T n i).1 = 9 by rw [hkd]; rfl), g3, show nI i + 1 = nI (i + 1) from nI_1 _, (k_kind h.1 (show i + 1 ≤ L by omega) x4).1, zbn_s, if_pos (show nI (zw T n (i + 1)).1 = 2 by rw [h9]; rfl), b1, zbt_s, k2, zbt_s, pc3.2.1, if_pos hb, g1, zbn_s]
  have hM : fX10_takeOperand N m = zbn (fX10_based N (nI (7 * n1)) m4) (fun x42 s43 => if x42 = 0 then some (0, s43) else fX10_takeOperand_J421 N (nI (7 * n1)) s43) := by
    have q1 := (q_reg (N := N) b2.1.2.2.1 (cx_w hx hi)).1
    rw [if_neg (show ¬ (zw T n i).1 = 2 by omega)] at q1
    rw [take_y h2 hlt (by omega), b5, q1, zbn_s, b2.1.2.2.1.2.1.1, if_neg (fun z => by have := (zMs_q _ hlt).1.mp z; omega), if_pos rfl, e1, zbn_s, if_neg (show ¬ (1 : Int32) = 0 by decide), t2, zbn_s, if_neg (show ¬ (1 : Int32) = 0 by decide), w1, zbn_s]
  rw [hC, hM]
  rcases baseI (N := N) hx M4 hkd (by omega) with ⟨r, c5, m5, u1, u2, u3, u4, u5, u6, u7, u8⟩ | B | C
  · left
    obtain ⟨c6, m6, v1, v2, v3, v4, v5, v6, v7, v8, v9, v10⟩ := finI (N := N) hx u5 (by omega) (by rw [List.length_append, List.length_singleton])
    refine ⟨i + 3, n3, nb, nl, 7, [((0, 0), 1)], c6, m6, by omega, by rw [u2, zbt_s, v1], by rw [u3, zbn_s, if_neg (show ¬ (1 : Int32) = 0 by decide), v2], u4, v3, Nat.le_refl _, Nat.le_refl _, zFo_trans hf (zFo_trans u6 v4 (Nat.le_refl _) (Nat.le_refl _) (Nat.le_refl _)) (Nat.le_refl _) (Nat.le_refl _) (Nat.le_refl _), ⟨2, 0, by omega, by omega, v6, v8, v9, v10, by show 1 ≤ 60; omega, fun _ => ⟨r, u1, v7⟩, fun z => by omega, fun _ => ⟨1, Or.inl ⟨(0, 0), 0, rfl, by omega, rfl⟩⟩, fun z => by omega, fun z => by omega, fun _ => ?_⟩, fun q hq => ?_, ?_⟩
    · rw [if_pos rfl, if_pos rfl]; omega
    · rw [List.mem_singleton.mp hq]
      exact Or.inl ⟨rfl, Or.inr ⟨0, by omega, rfl, Nat.le_refl _⟩⟩
    · show 1 + 0 + 7 + 5 * (zw T n i).2.2.1 ≤ 5 * (zw T n (i + 3)).2.2.1 + 2
      omega
  · exact Or.inr (Or.inl (OB_up B hf (Nat.le_refl _) (Nat.le_refl _) (fun c' e => by rw [e, zbt_n]) (fun m' e => by rw [e, zbn_s, if_pos rfl])))
  · refine Or.inr (Or.inr (OC_up C hf (Nat.le_refl _) (Nat.le_refl _) (fun c' e => by rw [e, zbt_n]) (fun i' m' _ _ _ e => ?_)))
    obtain ⟨v, ev⟩ := t_fin0 (N := N) (n1 := n1) (m := m') (by omega)
    exact ⟨_, by rw [e, zbn_s, if_neg (show ¬ (1 : Int32) = 0 by decide), ev], zeq_r (by simp), zFM_38 (by omega)⟩
theorem zpo_le (T : Nat → Nat) (n fr : Nat) : ∀ j, zpo T n fr j ≤ fr + 2 * j
  | 0 => Nat.le_refl _
  | j + 1 => by
    have h := zpo_le T n fr j
    have hw : zwid T n (zpo T n fr j) ≤ 2 := by unfold zwid; split <;> omega
    show zpo T n fr j + zwid T n (zpo T n fr j) ≤ fr + 2 * (j + 1)
    omega
set_option maxHeartbeats 400000 in
theorem l_strC {N n b nb cnt fr : Nat} {T : Nat → Nat} {c0 : zS} (hb : zBk b) (hTx : zTx 5 403 T n c0) (h302 : c0.2.2.1 302 = b) (hnb : nb + cnt ≤ 3000) (hN : cnt < N) (hfr : fr ≤ 3000) (h0 : c0.1 (100 * b + 5) = nI nb) : zp (fX3_readString_L61 N N (nI cnt) (nI fr) 0 c0) (fun q => ∃ t, q = .inr t ∧ zeq [100 * b + 5] [b + 9] c0 t ∧ t.1 (100 * b + 5) = nI (nb + cnt) ∧ (∀ x, x < nb → t.2.1 (b + 9) x = c0.2.1 (b + 9) x) ∧ ∀ j, j < cnt → t.2.1 (b + 9) (nb + j) = cI (zcode T n 34 (zpo T n fr j))) := by
  have hbb := zb_lt hb
  refine zlp3 (S := fX3_readString_L61S N) (fun a1 a2 a3 t => a1 = nI cnt ∧ ∃ i, i ≤ cnt ∧ a2 = nI (zpo T n fr i) ∧ a3 = nI i ∧ zeq [100 * b + 5] [b + 9] c0 t ∧ t.1 (100 * b + 5) = nI (nb + i) ∧ (∀ x, x < nb → t.2.1 (b + 9) x = c0.2.1 (b + 9) x) ∧ ∀ j, j < i → t.2.1 (b + 9) (nb + j) = cI (zcode T n 34 (zpo T n fr j))) (fun _ _ a3 _ => cnt - a3.toNatClampNeg) _ ?_ N (nI cnt) (nI fr) 0 c0 ⟨rfl, 0, Nat.zero_le _, rfl, rfl, zeq_refl _ _ _, h0, fun _ _ => rfl, fun j hj => absurd hj (Nat.not_lt_zero _)⟩ (by rw [show (0 : Int32) = nI 0 from rfl, nI_clamp (by omega)]; omega)
  intro rec a1 a2 a3 t hI hr
  obtain ⟨rfl, i, h1, rfl, rfl, h2, h3, h4, h5⟩ := hI
  rw [nI_clamp (show i < 2 ^ 31 by omega)] at hr
  unfold fX3_readString_L61S
  by_cases c : i < cnt
  · have hzp := zpo_le T n fr i
    have t302 : t.2.2.1 302 = b := by rw [h2.2.2]; exact h302
    have tx : zTx 5 403 T n t := zTx_keep hTx h2 (by simp only [List.mem_cons, List.not_mem_nil, or_false]; omega) (by simp only [List.mem_cons, List.not_mem_nil, or_false]; omega)
    obtain ⟨v, hv⟩ : ∃ v, v = cI (zcode T n 34 (zpo T n fr i)) := ⟨_, rfl⟩
    have e : fX0_addByte N b v t = some ((), zsc (zsr t (b + 9) (nI (nb + i)) v) (100 * b + 5) (nI (nb + i + 1))) := by
      unfold fX0_addByte
      rw [h3, (zlen_b hb).2.2.2.2, if_neg (nI_ge (show nb + i < 3000 by omega) (by decide)), if_pos (zga_n (show nb + i < 3000 by omega) (by decide)), nI_1]
    have z3 : zeq [100 * b + 5] [b + 9] c0 (zsc (zsr t (b + 9) (nI (nb + i)) v) (100 * b + 5) (nI (nb + i + 1))) := zeq_trans h2 (zeq_trans (zeq_r (List.mem_singleton.mpr rfl)) (zeq_c (List.mem_singleton.mpr rfl)))
    have tx3 : zTx 5 403 T n (zsc (zsr t (b + 9) (nI (nb + i)) v) (100 * b + 5) (nI (nb + i + 1))) := zTx_keep hTx z3 (by simp only [List.mem_cons, List.not_mem_nil, or_false]; omega) (by simp only [List.mem_cons, List.not_mem_nil, or_false]; omega)
    have ec : fX8_codeAt N (nI (zpo T n fr i)) 34 t = some (v, t) := by
      rw [hv]
      exact e8_code tx (zpo T n fr i) 34 (by omega) (by omega)
    refine zp_neg (nI_ge (by omega) (by omega)) ?_
    rw [t302, if_pos hb, ec, zbn_s, e, zbn_s, e8_wid tx3 (zpo T n fr i) (by omega), zbn_s, nI_add, nI_1]
    refine hr _ _ _ _ ⟨rfl, i + 1, by omega, rfl, rfl, z3, zsc_at, fun x hx => ?_, fun j hj => ?_⟩ (by rw [nI_clamp (by omega)]; omega)
    · show (zsr t (b + 9) (nI (nb + i)) _).2.1 (b + 9) x = _
      rw [zsr_n (by omega) (by omega)]
      exact h4 x hx
    · show (zsr t (b + 9) (nI (nb + i)) _).2.1 (b + 9) (nb + j) = _
      by_cases ej : j = i
      · subst ej
        rw [zsr_a (by omega)]
        exact hv
      · rw [zsr_n (by omega) (by omega)]
        exact h5 j (by omega)
  · have e : i = cnt := by omega
    subst e
    exact zp_pos (nI_le (Nat.le_refl _) (by omega)) (zp_some ⟨_, rfl, h2, h3, h4, h5⟩)
set_option maxHeartbeats 400000 in
theorem l_strM {N cnt nl : Nat} {v2 : Int32} {m0 : zS} (h11 : m0.1 3311 = nI cnt) (h12 : m0.1 3312 = nI nl) (hnl : nl + cnt ≤ 3000) (hN : cnt < N) : zp (fX10_takeOperand_L260 N N v2 0 m0) (fun q => ∃ t, q = .inr (v2, t) ∧ zeq [] [42] m0 t ∧ zFM m0 t ∧ (∀ x, x < nl → t.2.1 42 x = m0.2.1 42 x) ∧ ∀ j, j < cnt → t.2.1 42 (nl + j) = m0.2.1 48 j) := by
  refine zlp2 (S := fX10_takeOperand_L260S N) (fun a1 a2 t => a1 = v2 ∧ ∃ i, i ≤ cnt ∧ a2 = nI i ∧ zeq [] [42] m0 t ∧ zFM m0 t ∧ (∀ x, x < nl → t.2.1 42 x = m0.2.1 42 x) ∧ ∀ j, j < i → t.2.1 42 (nl + j) = m0.2.1 48 j) (fun _ a2 _ => cnt - a2.toNatClampNeg) _ ?_ N v2 0 m0 ⟨rfl, 0, Nat.zero_le _, rfl, zeq_refl _ _ _, zFM_refl _, fun _ _ => rfl, fun j hj => absurd hj (Nat.not_lt_zero _)⟩ (by rw [show (0 : Int32) = nI 0 from rfl, nI_clamp (by omega)]; omega)
  intro rec a1 a2 t hI hr
  obtain ⟨rfl, i, h1, rfl, h2, h3, h4, h5⟩ := hI
  rw [nI_clamp (show i < 2 ^ 31 by omega)] at hr
  have k11 : t.1 3311 = nI cnt := (h2.1 _ List.not_mem_nil).trans h11
  have k12 : t.1 3312 = nI nl := (h2.1 _ List.not_mem_nil).trans h12
  have k48 : t.2.1 48 = m0.2.1 48 := h2.2.1 48 (by decide)
  unfold fX10_takeOperand_L260S
  rw [k11, k12, k48]
  by_cases c : i < cnt
  · refine zp_neg (nI_ge (by omega) (by omega)) (zp_pos (zga_l (by rfl) (show i < 3001 by omega) (by decide)) ?_)
    rw [nI_add]
    refine zp_pos (zga_l (by rfl) (show nl + i < 6000 by omega) (by decide)) ?_
    rw [nI_clamp (by omega), nI_1]
    refine hr _ _ _ ⟨rfl, i + 1, by omega, rfl, zeq_trans h2 (zeq_r (by simp)), zFM_trans h3 (zFM_r (by decide) (by omega) (fun h => absurd h (by decide)) (fun h => absurd h (by decide)) (fun h => absurd h (by decide)) (fun h => absurd h (by decide)) (fun h => absurd h (by decide)) (fun h => absurd h (by decide)) (fun _ => by omega) (fun h => absurd h (by decide))), fun x hx => ?_, fun j hj => ?_⟩ (by rw [nI_clamp (by omega)]; omega)
    · rw [zsr_n (by omega) (by omega)]
      exact h4 x hx
    · by_cases ej : j = i
      · subst ej
        rw [zsr_a (by omega)]
      · rw [zsr_n (by omega) (by omega)]
        exact h5 j (by omega)
  · have e : i = cnt := by omega
    subst e
    exact zp_pos (nI_le (Nat.le_refl _) (by omega)) (zp_some ⟨_, rfl, h2, h3, h4, h5⟩)
set_option maxHeartbeats 2000000 in
theorem op_str {N n b L i n0 s0 n1 n3 nb nl : Nat} {T : Nat → Nat} {lc : List (Int32 × Int32)} {c m : zS} (hx : zCx T n L N) (h : zEN T n b L i n0 s0 n1 n3 nb nl lc c m) (hn1 : 2 * n1 + 1 ≤ i) (hkd : (zw T n i).1 = 7) : zOA T n b L i n0 s0 n1 n3 nb nl lc c m (fX3_readOperand N c) (fX10_takeOperand N m) ∨ zOB b n1 n3 nb c m (fX3_readOperand N c) (fX10_takeOperand N m) ∨ zOC T n b L n1 n3 nb c m (fX3_readOperand N c) (fX10_takeOperand N m) := by
  have hb := h.1.1
  have hbb := zb_lt hb
  have hi := h.2.1
  have h2 := h.2.2.1
  obtain ⟨x1, x2, x3, x4, x5, x6⟩ := id hx
  have hW := cx_w hx hi
  have hlt := zw_lt hW
  have h24 : (zw T n i).1 ≠ 24 := by omega
  have hiL : i < L := cx_lt hx hi (by omega) h24
  have hadv := zw_adv x1 x2 hiL
  have g4 : c.1 304 = nI (zw T n i).1 := h.1.2.2.2.2.2.2.2.1
  have nk : ∀ (k : Nat) (y : Int32), y = nI k → k < 25 → (zw T n i).1 ≠ k → ¬ nI (zw T n i).1 = y := fun k y hy hk hne z => hne ((nI_eq (by omega) (by omega)).mp (z.trans hy))
  obtain ⟨c1, m1, b1, b2, b3, b4, b36, b5⟩ := begI (N := N) (x := 3) (so := 3) hx h rfl
  obtain ⟨⟨s1, s2, s3, s4, s5, s6, s7, ⟨f1, f2, f3, f4, f5⟩, l1, l2⟩, o1, ⟨⟨u1, u2, u3, u4⟩, ⟨v1, v2, v3, v4⟩, ⟨w1, w2, w3⟩⟩, o3, o4⟩ := b2
  obtain ⟨cnt, hc1, hc2, hc3, hc4⟩ := s3.2.1.2.2.2.2.2 hkd
  have hlen : (zw T n i).2.2.1 + cnt + 2 ≤ (zw T n i).2.2.2 := by
    rcases hW with ⟨z, -⟩ | ⟨z, -⟩ | ⟨y1, y2, y3, hh⟩
    · omega
    · omega
    rcases hh with ⟨z, -⟩ | ⟨z, -⟩ | ⟨z, -⟩ | ⟨z, -⟩ | ⟨z, -⟩ | ⟨-, c', e1, e2⟩ | ⟨z, -⟩
    · omega
    · omega
    · omega
    · omega
    · omega
    · have : cnt = c' := (nI_eq (by omega) (by omega)).mp (hc2.symm.trans e1)
      omega
    · omega
  -- the class
  have g3 : c1.1 303 = nI i := s1.2.2.2.2.2.2.1
  have g5 : c1.1 305 = nI (zw T n i).2.2.1 := s1.2.2.2.2.2.2.2.2
  have hT1 : zTbl c1 := s1.2.2.1
  obtain ⟨c2, hc2'⟩ : ∃ c2, c2 = zsr c1 (b + 4) (nI (n1 * 8 + 7)) (nI nb) := ⟨_, rfl⟩
  obtain ⟨c3, hc3'⟩ : ∃ c3, c3 = zsr c2 (b + 4) (nI (n1 * 8 + 6)) (nI cnt) := ⟨_, rfl⟩
  have f21 : c2.1 = c1.1 := by rw [hc2']
  have f31 : c3.1 = c1.1 := by rw [hc3']; exact f21
  have z13 : zeq [] [b + 4] c1 c3 := by rw [hc3', hc2']; exact zeq_trans (zeq_r (by simp)) (zeq_r (by simp))
  have z12 : zeq [] [b + 4] c1 c2 := by rw [hc2']; exact zeq_r (by simp)
  have hT2 : zTbl c2 := zTbl_z hb hT1 z12 (fun _ h => absurd h List.not_mem_nil) (fun a ha => by rw [List.mem_singleton.mp ha]; unfold zAC; simp)
  have x302 : c1.2.2.1 302 = b := s1.2.1
  have x302' : c2.2.2.1 302 = b := by rw [z12.2.2]; exact x302
  have x302'' : c3.2.2.1 302 = b := by rw [z13.2.2]; exact x302
  have tx3 : zTx 5 403 T n c3 := zTx_keep s1.2.2.2.1 z13 List.not_mem_nil (by simp; omega)
  obtain ⟨q4, eq4, c4, rfl, a1, a2, a3, a4⟩ := l_strC (N := N) (nb := nb) (cnt := cnt) (fr := (zw T n i).2.2.1 + 1) hb tx3 x302'' (by omega) (by omega) (by omega) (by rw [f31]; exact s4.2.2.2.1)
  have hRS : fX3_readString N c1 = zbt (fX3_step N c4) (fun sx => some (none, sx)) (fun _ s28 => some (some (), s28)) := by
    unfold fX3_readString
    rw [g3, (k_kind s1 s2 x4).2.2, zbn_s, hc2, x302, if_pos hb, if_pos hb, o3, s4.2.2.2.1, o_set (n1 := n1) (j := 7) (y := 7) hb hT1 v2 (by omega) (by omega) rfl rfl, zbn_s, ← hc2', x302', if_pos hb, f21, o3, o_set (n1 := n1) (j := 6) (y := 6) hb hT2 (by rw [f21]; exact v2) (by omega) (by omega) rfl rfl, zbn_s, ← hc3', f31, g5, show nI (zw T n i).2.2.1 + 1 = nI ((zw T n i).2.2.1 + 1) from nI_1 _, eq4, zbl_r]
  have hC : fX3_readOperand N c = zbt (fX3_step N c4) (fun sx => some (none, sx)) (fun _ s54 => fX3_readOperand_J191 N s54) := by
    unfold fX3_readOperand fX3_readOperand_J14
    rw [g4, if_neg (nk 16 16 rfl (by omega) (by omega)), if_neg (nk 2 2 rfl (by omega) (by omega)), if_pos (show nI (zw T n i).1 = 7 by rw [hkd]; rfl), b1, zbt_s, hRS]
    cases fX3_step N c4 with
    | none => rfl
    | some q =>
      obtain ⟨o, s⟩ := q
      cases o <;> rfl
  have z14 : zeq [100 * b + 5] [b + 4, b + 9] c1 c4 := zeq_trans (zeq_mono z13 (fun _ h => absurd h List.not_mem_nil) (by simp)) (zeq_mono a1 (by simp) (by simp))
  have pc4 : zPC T n b L i c4 := zPC_keep s1 (zeq_mono z14 (fun y hy => by rw [List.mem_singleton.mp hy]; unfold zKC; simp) (fun y hy => by unfold zAC; simp only [List.mem_cons, List.not_mem_nil, or_false] at hy ⊢; omega)) (z14.1 _ (by simp; omega)) (z14.1 _ (by simp; omega)) (z14.1 _ (by simp; omega)) (z14.1 _ (by simp; omega)) (z14.1 _ (by simp; omega))
  obtain ⟨c5, d1, d2, d3⟩ := s3_step (N := N) pc4 hiL x4
  have k5 : ∀ y, y ∉ [303, 304, 305, 309, 310] → y ≠ 100 * b + 5 → c5.1 y = c1.1 y := fun y q1 q2 => (d1.1 y q1).trans (z14.1 y (by simp [q2]))
  have k5' : ∀ y, 306 ≤ y → y ≠ 309 → y ≠ 310 → y ≠ 100 * b + 5 → c5.1 y = c1.1 y := fun y q1 q2 q3 q4 => k5 y (by simp only [List.mem_cons, List.not_mem_nil, or_false]; omega) q4
  have r5 : ∀ a, c5.2.1 a = c4.2.1 a := fun a => d1.2.1 a List.not_mem_nil
  have r5' : ∀ a, a ≠ b + 4 → a ≠ b + 9 → c5.2.1 a = c1.2.1 a := fun a q1 q2 => (r5 a).trans (z14.2.1 a (by simp [q1, q2]))
  have arr4 : ∀ y, c5.2.1 (b + 4) y = if y = n1 * 8 + 6 then nI cnt else if y = n1 * 8 + 7 then nI nb else c1.2.1 (b + 4) y := fun y => by
    rw [r5, a1.2.1 (b + 4) (by simp), hc3', zsr_g (by omega), hc2', zsr_g (by omega)]
  have arr9 : ∀ y, y < nb → c5.2.1 (b + 9) y = c1.2.1 (b + 9) y := fun y hy => by
    rw [r5, a3 y hy, z13.2.1 _ (by simp)]
  have arr9' : ∀ j, j < cnt → c5.2.1 (b + 9) (nb + j) = cI (zcode T n 34 (zpo T n ((zw T n i).2.2.1 + 1) j)) := fun j hj => by rw [r5]; exact a4 j hj
  have x5b : c5.1 (100 * b + 5) = nI (nb + cnt) := (d1.1 _ (by simp only [List.mem_cons, List.not_mem_nil, or_false]; omega)).trans a2
  -- the reference
  obtain ⟨md, hmd⟩ : ∃ md, md = zsr (zsr (zsr (zsr m1 38 (nI (7 * n1)) 3) 38 (nI (7 * n1 + 1)) (-1)) 38 (nI (7 * n1 + 6)) (nI cnt)) 49 (nI n1) (nI nl) := ⟨_, rfl⟩
  have zmd : zeq [] [38, 49] m1 md := by rw [hmd]; exact zeq_trans (zeq_r (by simp)) (zeq_trans (zeq_r (by simp)) (zeq_trans (zeq_r (by simp)) (zeq_r (by simp))))
  have kmd : ∀ y, md.1 y = m1.1 y := fun y => zmd.1 y List.not_mem_nil
  have fmd : zFM m1 md := by
    rw [hmd]
    exact zFM_trans (zFM_38 (by omega)) (zFM_trans (zFM_38 (by omega)) (zFM_trans (zFM_38 (by omega)) (zFM_r (by decide) (by omega) (fun h => absurd h (by decide)) (fun h => absurd h (by decide)) (fun h => absurd h (by decide)) (fun h => absurd h (by decide)) (fun h => absurd h (by decide)) (fun h => absurd h (by decide)) (fun h => absurd h (by decide)) (fun _ => by omega))))
  obtain ⟨qe, eqe, me, rfl, e1, e2, e3, e4⟩ := l_strM (N := N) (cnt := cnt) (nl := nl) (v2 := nI (7 * n1)) (m0 := md) ((kmd _).trans hc3) ((kmd _).trans w2) (by omega) (by omega)
  have kme : ∀ y, me.1 y = m1.1 y := fun y => (e1.1 y List.not_mem_nil).trans (kmd y)
  obtain ⟨mf, hmf⟩ : ∃ mf, mf = zsc me 3312 (nI (nl + cnt)) := ⟨_, rfl⟩
  have zmf : zeq [3312] [38, 42, 49] m1 mf := by
    rw [hmf]
    exact zeq_trans (zeq_mono zmd (fun _ h => absurd h List.not_mem_nil) (by simp)) (zeq_trans (zeq_mono e1 (fun _ h => absurd h List.not_mem_nil) (by simp)) (zeq_c (by simp)))
  have fmf : zFM m1 mf := zFM_trans fmd (zFM_trans e2 (by rw [hmf]; exact zFM_eq (zeq_c (K := [3312]) (A := []) (by simp)) (by decide) (by simp)))
  obtain ⟨mg, n1', n2', n3'⟩ := q_next (N := N) x1 x2 (by omega) hiL (zTx_keep s3.1 zmf (by decide) (by decide)) ((zmf.1 3318 (by decide)).trans (zPM_to s3 h24 (by omega))) ((zmf.1 3320 (by decide)).trans s3.2.2)
  have hM : fX10_takeOperand N m = fX10_takeOperand_J421 N (nI (7 * n1)) mg := by
    have q1 := (q_reg (N := N) s3 hW).1
    rw [if_neg (show ¬ (zw T n i).1 = 2 by omega)] at q1
    have hz1 : zga 1 (zlen 36) = true := by decide +kernel
    rw [take_y h2 hlt (by omega), b5, q1, zbn_s, s3.2.1.1, if_pos ((zMs_q _ hlt).1.mpr hkd), if_pos (zga_l (by rfl) (show 7 * n1 < 11200 by omega) (by decide)), if_pos (zga_l (by rfl) (show 7 * n1 + 1 < 11200 by omega) (by decide)), if_pos (zga_l (by rfl) (show 7 * n1 + 6 < 11200 by omega) (by decide)), if_pos hz1, b36, show nI (n1 + 1) - 1 = nI n1 from nI_pred n1, if_pos (zga_l (by rfl) (show n1 < 1600 by omega) (by decide)), hc3, w2, ← hmd, eqe, zbl_r]
    show zbn (fX10_next N (zsc me 3312 (me.1 3312 + me.1 3311))) (fun _ s63 => fX10_takeOperand_J421 N (nI (7 * n1)) s63) = _
    rw [kme, kme, w2, hc3, nI_add, ← hmf, n1', zbn_s]
  have kmg : ∀ y, y ∉ [3311, 3315, 3316, 3317, 3318] → y ≠ 3312 → mg.1 y = m1.1 y := fun y q1 q2 => (n3'.1 y q1).trans (zmf.1 y (by simp [q2]))
  have amg : ∀ a, a ∉ [38, 42, 48, 49] → mg.2.1 a = m1.2.1 a := fun a q => (n3'.2.1 a (fun z => q (by rw [List.mem_singleton.mp z]; decide))).trans (zmf.2.1 a (fun z => q (by
    simp only [List.mem_cons, List.not_mem_nil, or_false] at z ⊢
    omega)))
  have zmg : zeq [3311, 3312, 3315, 3316, 3317, 3318] [38, 42, 48, 49] m1 mg := zeq_trans (zeq_mono zmf (by decide) (by decide)) (zeq_mono n3' (by decide) (by decide))
  have fmg : zFM m1 mg := zFM_trans fmf (zFM_eq n3' (by decide) (by simp))
  have arr38 : ∀ y, mg.2.1 38 y = if y = 7 * n1 + 6 then nI cnt else if y = 7 * n1 + 1 then (-1) else if y = 7 * n1 then 3 else m1.2.1 38 y := fun y => by
    rw [n3'.2.1 38 (by decide), hmf, show (zsc me 3312 (nI (nl + cnt))).2.1 38 = me.2.1 38 from rfl, e1.2.1 38 (by decide), hmd, zsr_o (show (38 : Nat) ≠ 49 by decide), zsr_g (by omega), zsr_g (by omega), zsr_g (by omega)]
  have arr49 : ∀ y, mg.2.1 49 y = if y = n1 then nI nl else m1.2.1 49 y := fun y => by
    rw [n3'.2.1 49 (by decide), hmf, show (zsc me 3312 (nI (nl + cnt))).2.1 49 = me.2.1 49 from rfl, e1.2.1 49 (by decide), hmd, zsr_g (by omega), zsr_o (show (49 : Nat) ≠ 38 by decide), zsr_o (show (49 : Nat) ≠ 38 by decide), zsr_o (show (49 : Nat) ≠ 38 by decide)]
  have m42 : mg.2.1 42 = me.2.1 42 := by rw [n3'.2.1 42 (by decide), hmf]
  have arr42 : ∀ y, y < nl → mg.2.1 42 y = m1.2.1 42 y := fun y hy => by rw [m42, e3 y hy, zmd.2.1 42 (by decide)]
  have arr42' : ∀ j, j < cnt → mg.2.1 42 (nl + j) = cI (zcode T n 34 (zpo T n ((zw T n i).2.2.1 + 1) j)) := fun j hj => by rw [m42, e4 j hj, zmd.2.1 48 (by decide)]; exact hc4 j hj
  have hf5 : zFo b n1 n3 nb c1 m1 c5 mg := ⟨zeq_trans (zeq_mono z14 (fun y hy => by rw [List.mem_singleton.mp hy]; unfold zKX; simp) (by simp)) (zeq_mono d1 (fun y hy => by unfold zKX; simp only [List.mem_cons, List.not_mem_nil, or_false] at hy ⊢; omega) (fun _ h => absurd h List.not_mem_nil)), fun y hy => by rw [arr4, if_neg (by omega), if_neg (by omega)], fun y _ => by rw [r5' _ (by omega) (by omega)], arr9, zeq_mono zmg (by decide) (by decide), fmg, by rw [amg 36 (by decide)]⟩
  have hf6 : zFo b n1 n3 nb c m c5 mg := zFo_trans b3 hf5 (Nat.le_refl _) (Nat.le_refl _) (Nat.le_refl _)
  rw [hC, hM]
  rcases d3 with ⟨d4, d5⟩ | ⟨d4, d5, d6, d7⟩
  case inr =>
    right
    right
    obtain ⟨v, ev⟩ := t_fin0 (N := N) (n1 := n1) (m := mg) (by omega)
    exact OC_up (oc := some (none, c5)) (om := some (1, mg)) (n3' := n3) (nb' := nb) ⟨i + 1, c5, mg, rfl, rfl, by omega, d4, d6, d7, n2', hf5⟩ b3 (Nat.le_refl _) (Nat.le_refl _) (fun c' e => by rw [d5, zbt_n]; exact e) (fun i' m' _ _ _ e => ⟨zsr mg 38 (nI (7 * n1 + 4)) v, ev, by cases e; exact zeq_r (by simp), by cases e; exact zFM_38 (by omega)⟩)
  left
  obtain ⟨⟨q0, q0'⟩, ⟨q1, q1'⟩, ⟨q2, q2'⟩, ⟨q3, q3'⟩, ⟨q5, q5'⟩, -, -⟩ := o4
  have OP5 : zOP b n0 s0 n1 (n1 + 1) (nb + cnt) (nl + cnt) c5 mg := by
    refine ⟨⟨u1, (k5' _ (by omega) (by omega) (by omega) (by omega)).trans u2, by rw [amg 36 (by decide)]; exact u3, fun k j hk hj => by rw [r5' _ (by omega) (by omega), amg 37 (by decide)]; exact u4 k j hk hj⟩, ⟨v1, (k5' _ (by omega) (by omega) (by omega) (by omega)).trans v2, by rw [amg 36 (by decide)]; exact v3, fun k j hk hj => by rw [arr4, if_neg (by omega), if_neg (by omega), arr38, if_neg (by omega), if_neg (by omega), if_neg (by omega)]; exact v4 k j hk hj⟩, ⟨by omega, ?_, fun k hk => ?_⟩⟩
    · rw [n3'.1 3312 (by decide), hmf]; exact zsc_at
    · obtain ⟨p, q, l, y1, y2, y3, y4, y5, y6⟩ := w3 k hk
      refine ⟨p, q, l, by omega, by omega, ?_, ?_, fun hl => ?_, fun x hx => ?_⟩
      · rw [arr4, if_neg (by omega), if_neg (by omega)]; exact y3
      · rw [arr4, if_neg (by omega), if_neg (by omega)]; exact y4
      · rw [arr49, if_neg (by omega)]; exact y5 hl
      · rw [arr9 _ (by omega), arr42 _ (by omega)]; exact y6 x hx
  have D := o_done (v := nI 0) hb (by omega) OP5 (fun j hj h4 => by
    have hj : j = 0 ∨ j = 1 ∨ j = 2 ∨ j = 3 ∨ j = 5 ∨ j = 6 := by omega
    rw [arr4, arr38]
    rcases hj with rfl | rfl | rfl | rfl | rfl | rfl
    · rw [if_neg (by omega), if_neg (by omega), if_neg (by omega), if_neg (by omega), if_pos (by omega), q0]; rfl
    · rw [if_neg (by omega), if_neg (by omega), if_neg (by omega), if_pos (by omega), q1]
    · rw [if_neg (by omega), if_neg (by omega), if_neg (by omega), if_neg (by omega), if_neg (by omega), q2, q2']
    · rw [if_neg (by omega), if_neg (by omega), if_neg (by omega), if_neg (by omega), if_neg (by omega), q3, q3']
    · rw [if_neg (by omega), if_neg (by omega), if_neg (by omega), if_neg (by omega), if_neg (by omega), q5, q5']
    · rw [if_pos rfl, if_pos rfl]) ⟨nb, nl, cnt, Nat.le_refl _, Nat.le_refl _, by rw [arr4, if_neg (by omega), if_pos rfl], by rw [arr4, if_pos rfl], fun _ => by rw [arr49, if_pos (by omega)], fun x hx => by rw [arr9' x hx, show 3000 * 0 + nl + x = nl + x by omega, arr42' x hx]⟩
  have E1 := o_fin (N := N) (c := c5) (F := lc.length) (q := lc.length) hb (d2 d4).2.1 (d2 d4).2.2.1 ((k5' _ (by omega) (by omega) (by omega) (by omega)).trans v2) (by omega) ((k5' _ (by omega) (by omega) (by omega) (by omega)).trans o3) ((k5' _ (by omega) (by omega) (by omega) (by omega)).trans f1) ((k5' _ (by omega) (by omega) (by omega) (by omega)).trans s6.1) (Nat.le_refl _)
  have E2 := t_fin (N := N) (n1 := n1) (m := mg) (F := lc.length) (q := lc.length) (by omega) (by rw [amg 36 (by decide)]; exact s7.1) (by rw [arr38, if_neg (by omega), if_neg (by omega), if_neg (by omega)]; exact q3') (Nat.le_refl _)
  rw [Nat.sub_self] at E1 E2
  obtain ⟨c', hc'⟩ : ∃ c', c' = zsr c5 (b + 4) (nI (n1 * 8 + 4)) (nI 0) := ⟨_, rfl⟩
  obtain ⟨m', hm'⟩ : ∃ m', m' = zsr mg 38 (nI (7 * n1 + 4)) (nI 0) := ⟨_, rfl⟩
  rw [← hc', ← hm'] at D
  rw [← hc'] at E1
  rw [← hm'] at E2
  have zc : zeq [] [b + 4] c5 c' := by rw [hc']; exact zeq_r (by simp)
  have zm : zeq [] [38] mg m' := by rw [hm']; exact zeq_r (by simp)
  have kc : ∀ y, c'.1 y = c5.1 y := fun y => zc.1 y List.not_mem_nil
  have km : ∀ y, m'.1 y = mg.1 y := fun y => zm.1 y List.not_mem_nil
  have ac : ∀ a, a ≠ b + 4 → c'.2.1 a = c5.2.1 a := fun a ha => zc.2.1 a (by simp [ha])
  have am : ∀ a, a ≠ 38 → m'.2.1 a = mg.2.1 a := fun a ha => zm.2.1 a (by simp [ha])
  have g4' : ∀ y, c'.2.1 (b + 4) y = if y = n1 * 8 + 4 then nI 0 else c5.2.1 (b + 4) y := fun y => by rw [hc', zsr_g (by omega)]
  have zc2 : zeq (zKC b) (zAC b) c5 c' := zeq_mono zc (fun _ h => absurd h List.not_mem_nil) (fun a ha => by rw [List.mem_singleton.mp ha]; unfold zAC; simp)
  have fm' : zFM mg m' := by rw [hm']; exact zFM_38 (by omega)
  obtain ⟨y1, y2, y3, y4, y5⟩ := s4
  refine ⟨i + 1, n3, nb + cnt, nl + cnt, 2 * cnt + 4, [], c', m', by omega, by rw [d5, zbt_s, E1], E2, d4, ⟨zPC_keep (d2 d4) zc2 (kc _) (kc _) (kc _) (kc _) (kc _), by omega, zPM_keep n2' zm (by simp) (by decide), ⟨y1, ?_, ?_, ?_, fun k hk => ?_⟩, ⟨by omega, by omega⟩, ?_, ?_, ?_, ⟨?_, by omega⟩, D⟩, Nat.le_refl _, by omega, zFo_trans hf6 ⟨zeq_mono zc (fun _ h => absurd h List.not_mem_nil) (by simp), fun y hy => by rw [g4', if_neg (by omega)], fun y _ => by rw [ac _ (by omega)], fun y _ => by rw [ac _ (by omega)], zeq_mono zm (fun _ h => absurd h List.not_mem_nil) (by decide), fm', by rw [am 36 (by decide)]⟩ (Nat.le_refl n1) (Nat.le_refl n3) (Nat.le_refl nb), ⟨3, 0, by omega, by omega, ?_, ?_, ?_, ?_, Nat.zero_le _, fun z => by omega, fun _ => rfl, fun z => by omega, fun z => by omega, fun _ => ⟨cnt, ?_, by omega, Nat.le_refl _⟩, fun z => by omega⟩, fun q hq => absurd hq List.not_mem_nil, ?_⟩
  · rw [kc, k5' _ (by omega) (by omega) (by omega) (by omega)]; exact y2
  · rw [am 36 (by decide), amg 36 (by decide)]; exact y3
  · rw [kc]; exact x5b
  · obtain ⟨p, l, t1, t2, t3, t4, t5, t6, t7⟩ := y5 k hk
    refine ⟨p, l, t1, t2, by omega, ?_, ?_, ?_, fun x hx => ?_⟩
    · rw [ac _ (by omega), r5' _ (by omega) (by omega)]; exact t4
    · rw [ac _ (by omega), r5' _ (by omega) (by omega)]; exact t5
    · rw [am 41 (by decide), amg 41 (by decide)]; exact t6
    · rw [ac _ (by omega), arr9 _ (by omega), am 40 (by decide), amg 40 (by decide)]; exact t7 x hx
  · rw [List.map_nil, List.append_nil]
    exact zIC_keep s6 (by rw [kc, k5' _ (by omega) (by omega) (by omega) (by omega)]) (by rw [ac _ (by omega), r5' _ (by omega) (by omega)])
  · rw [List.map_nil, List.append_nil]
    exact zIM_keep s7 (by rw [am 36 (by decide), amg 36 (by decide)]) (by rw [am 39 (by decide), amg 39 (by decide)])
  · rw [List.map_nil, List.append_nil, km, kmg _ (by decide) (by decide)]; exact f3
  · rw [List.map_nil, List.append_nil]; omega
  · rw [g4', if_neg (by omega), arr4, if_neg (by omega), if_neg (by omega)]; exact q0
  · rw [g4', if_neg (by omega), arr4, if_neg (by omega), if_neg (by omega)]; exact q2
  · rw [g4', if_neg (by omega), arr4, if_neg (by omega), if_neg (by omega)]; exact q3
  · rw [g4', if_pos rfl]; rfl
  · rw [g4', if_neg (by omega), arr4, if_pos rfl]
  · show 0 + (2 * cnt + 4) + 5 * (zw T n i).2.2.1 ≤ 5 * (zw T n (i + 1)).2.2.1 + 2
    omega
