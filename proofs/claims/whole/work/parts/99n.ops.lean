set_option maxHeartbeats 400000 in
theorem o_fin {N b n1 F q : Nat} {c : zS} (hb : zBk b) (h302 : c.2.2.1 302 = b) (hT : zTbl c) (h1 : c.1 (100 * (b + 3) + 3) = nI (n1 + 1)) (hn1 : n1 < 800) (h6 : c.1 306 = nI n1) (h7 : c.1 307 = nI F) (h5 : c.1 (100 * (b + 5) + 3) = nI q) (hF : F ≤ q) : fX3_readOperand_J191 N c = some (some (), zsr c (b + 4) (nI (n1 * 8 + 4)) (nI (q - F))) := by
  unfold fX3_readOperand_J191
  rw [h302, if_pos hb, if_pos hb, h5, h6, h7, pk_sub hF, o_set (n1 := n1) (j := 4) (y := 4) hb hT h1 hn1 (by omega) rfl rfl, zbn_s]
set_option maxHeartbeats 400000 in
theorem t_fin {N n1 F q : Nat} {m : zS} (hn1 : n1 < 800) (h2 : m.2.1 36 2 = nI q) (h3 : m.2.1 38 (7 * n1 + 3) = nI F) (hF : F ≤ q) : fX10_takeOperand_J421 N (nI (7 * n1)) m = some (1, zsr m 38 (nI (7 * n1 + 4)) (nI (q - F))) := by
  have g2 : (2 : Int32).toNatClampNeg = 2 := by decide
  have z2 : zga 2 (zlen 36) = true := by decide +kernel
  have p3 : nI (7 * n1) + 3 = nI (7 * n1 + 3) := nI_add _ 3
  have p4 : nI (7 * n1) + 4 = nI (7 * n1 + 4) := nI_add _ 4
  unfold fX10_takeOperand_J421
  rw [if_pos z2, p3, if_pos (zga_l (by rfl) (show 7 * n1 + 3 < 11200 by omega) (by decide)), p4, if_pos (zga_l (by rfl) (show 7 * n1 + 4 < 11200 by omega) (by decide)), g2, h2, nI_clamp (show 7 * n1 + 3 < 2 ^ 31 by omega), h3, pk_sub hF]
set_option maxHeartbeats 400000 in
theorem o_done {b n0 s0 n1 nb nl : Nat} {c m : zS} {v : Int32} (hb : zBk b) (hn1 : n1 < 800) (h : zOP b n0 s0 n1 (n1 + 1) nb nl c m) (hrow : ∀ j, j < 7 → j ≠ 4 → c.2.1 (b + 4) (n1 * 8 + j) = m.2.1 38 (7 * n1 + j)) (hstr : ∃ p q l : Nat, p + l ≤ nb ∧ q + l ≤ nl ∧ c.2.1 (b + 4) (n1 * 8 + 7) = nI p ∧ c.2.1 (b + 4) (n1 * 8 + 6) = nI l ∧ (0 < l → m.2.1 49 (800 * 0 + n1) = nI q) ∧ ∀ x, x < l → c.2.1 (b + 9) (p + x) = m.2.1 42 (3000 * 0 + q + x)) : zOP b n0 s0 (n1 + 1) (n1 + 1) nb nl (zsr c (b + 4) (nI (n1 * 8 + 4)) v) (zsr m 38 (nI (7 * n1 + 4)) v) := by
  have hbb := zb_lt hb
  obtain ⟨⟨a1, a2, a3, a4⟩, ⟨b1, b2, b3, b4⟩, ⟨c1, c2, c3⟩⟩ := h
  have c2' : (zsr c (b + 4) (nI (n1 * 8 + 4)) v).2.1 (b + 2) = c.2.1 (b + 2) := zsr_o (by omega)
  have c9' : (zsr c (b + 4) (nI (n1 * 8 + 4)) v).2.1 (b + 9) = c.2.1 (b + 9) := zsr_o (by omega)
  have m36 : (zsr m 38 (nI (7 * n1 + 4)) v).2.1 36 = m.2.1 36 := zsr_o (by decide)
  have m37 : (zsr m 38 (nI (7 * n1 + 4)) v).2.1 37 = m.2.1 37 := zsr_o (by decide)
  have m42 : (zsr m 38 (nI (7 * n1 + 4)) v).2.1 42 = m.2.1 42 := zsr_o (by decide)
  have m49 : (zsr m 38 (nI (7 * n1 + 4)) v).2.1 49 = m.2.1 49 := zsr_o (by decide)
  refine ⟨⟨a1, a2, by rw [m36]; exact a3, fun k j hk hj => by rw [c2', m37]; exact a4 k j hk hj⟩, ⟨b1, b2, by rw [m36]; exact b3, fun k j hk hj => ?_⟩, ⟨c1, c2, fun k hk => ?_⟩⟩
  · rw [zsr_g (by omega), zsr_g (by omega)]
    by_cases e : k = n1
    · subst e
      by_cases e4 : j = 4
      · subst e4
        rw [if_pos rfl, if_pos (by omega)]
      · rw [if_neg (by omega), if_neg (by omega), show 5600 * 0 + 7 * k + j = 7 * k + j by omega]
        exact hrow j hj e4
    · rw [if_neg (by omega), if_neg (by omega)]
      exact b4 k j (by omega) hj
  · rw [zsr_g (by omega), zsr_g (by omega), if_neg (by omega), if_neg (by omega), c9', m42, m49]
    by_cases e : k = n1
    · subst e
      exact hstr
    · exact c3 k (by omega)
def zFo (b n1 n3 nb : Nat) (c m c' m' : zS) : Prop := zeq (306 :: 307 :: (100 * (b + 3) + 3) :: zKX b) [b + 4, b + 6, b + 8, b + 9] c c' ∧ (∀ x, x < n1 * 8 → c'.2.1 (b + 4) x = c.2.1 (b + 4) x) ∧ (∀ x, x < n3 * 2 → c'.2.1 (b + 8) x = c.2.1 (b + 8) x) ∧ (∀ x, x < nb → c'.2.1 (b + 9) x = c.2.1 (b + 9) x) ∧ zeq (3312 :: zKY) [36, 38, 39, 40, 41, 42, 43, 48, 49] m m' ∧ zFM m m' ∧ m'.2.1 36 0 = m.2.1 36 0
set_option maxHeartbeats 400000 in
theorem zFo_trans {b n1 n3 nb n1' n3' nb' : Nat} {c m c1 m1 c2 m2 : zS} (h1 : zFo b n1 n3 nb c m c1 m1) (h2 : zFo b n1' n3' nb' c1 m1 c2 m2) (h4 : n1 ≤ n1') (h3 : n3 ≤ n3') (hb : nb ≤ nb') : zFo b n1 n3 nb c m c2 m2 := by
  obtain ⟨a1, a2, a3, a4, a5, a6, a7⟩ := h1
  obtain ⟨b1, b2, b3, b4, b5, b6, b7⟩ := h2
  exact ⟨zeq_trans a1 b1, fun x hx => (b2 x (by omega)).trans (a2 x hx), fun x hx => (b3 x (by omega)).trans (a3 x hx), fun x hx => (b4 x (by omega)).trans (a4 x hx), zeq_trans a5 b5, zFM_trans a6 b6, b7.trans a7⟩
set_option maxHeartbeats 400000 in
theorem zFo_x {b n1 n3 nb : Nat} {c m c' m' : zS} (hb : zBk b) (h : zFx2 b n3 nb c m c' m') : zFo b n1 n3 nb c m c' m' := by
  have hbb := zb_lt hb
  obtain ⟨a1, a2, a3, a4, a5, a6⟩ := h
  exact ⟨zeq_mono a1 (fun k hk => by simp [hk]) (fun a ha => by simp only [List.mem_cons, List.not_mem_nil, or_false] at ha ⊢; omega), fun x _ => by rw [a1.2.1 (b + 4) (by simp only [List.mem_cons, List.not_mem_nil, or_false]; omega)], a2, a3, zeq_mono a4 (fun k hk => List.mem_cons_of_mem _ hk) (by decide), a5, a6 0 (by decide) (by decide)⟩
def zEN (T : Nat → Nat) (n b L i n0 s0 n1 n3 nb nl : Nat) (lc : List (Int32 × Int32)) (c m : zS) : Prop := zPC T n b L i c ∧ i ≤ L ∧ zPM T n i m ∧ zPN b n3 nb c m ∧ (nb ≤ (zw T n i).2.2.1 ∧ nl ≤ (zw T n i).2.2.1) ∧ zIC b lc c ∧ zIM lc m ∧ m.1 3324 = nI lc.length ∧ (lc.length ≤ i ∧ 2 * n1 ≤ i) ∧ zOP b n0 s0 n1 n1 nb nl c m
def zOw (b n1 F : Nat) (c : zS) (el : List ((Int32 × Int32) × Nat)) (x : Nat) : Prop := ∃ so mk : Nat, so ≤ 3 ∧ mk ≤ 4 ∧ c.2.1 (b + 4) (n1 * 8 + 0) = nI so ∧ c.2.1 (b + 4) (n1 * 8 + 2) = nI mk ∧ c.2.1 (b + 4) (n1 * 8 + 3) = nI F ∧ c.2.1 (b + 4) (n1 * 8 + 4) = nI el.length ∧ el.length ≤ 60 ∧ (so = 1 ∨ so = 2 → ∃ r : Nat, r < 32 ∧ c.2.1 (b + 4) (n1 * 8 + 1) = nI r) ∧ (so = 1 ∨ so = 3 → el = []) ∧ (so = 0 ∨ so = 2 → ∃ fl, zXp fl (el.map Prod.fst)) ∧ (so = 1 → 5 ≤ x) ∧ (so = 3 → ∃ l : Nat, c.2.1 (b + 4) (n1 * 8 + 6) = nI l ∧ l ≤ 3000 ∧ 2 * l + 4 ≤ x) ∧ (so = 0 ∨ so = 2 → 2 + (if mk = 0 then 0 else 11) + (if so = 2 then 5 else 0) ≤ x)
def zOA (T : Nat → Nat) (n b L i n0 s0 n1 n3 nb nl : Nat) (lc : List (Int32 × Int32)) (c m : zS) (oc : Option (Option Unit × zS)) (om : Option (Int32 × zS)) : Prop := ∃ (i' n3' nb' nl' x : Nat) (el : List ((Int32 × Int32) × Nat)) (c' m' : zS), i < i' ∧ oc = some (some (), c') ∧ om = some (1, m') ∧ (zw T n i').1 ≠ 24 ∧ zEN T n b L i' n0 s0 (n1 + 1) n3' nb' nl' (lc ++ el.map Prod.fst) c' m' ∧ n3 ≤ n3' ∧ nb ≤ nb' ∧ zFo b n1 n3 nb c m c' m' ∧ zOw b n1 lc.length c' el x ∧ (∀ q, q ∈ el → zItA b n3' c' q.1 q.2) ∧ (el.map Prod.snd).sum + x + 5 * (zw T n i).2.2.1 ≤ 5 * (zw T n i').2.2.1 + 2
def zOB (b n1 n3 nb : Nat) (c m : zS) (oc : Option (Option Unit × zS)) (om : Option (Int32 × zS)) : Prop := ∃ (c' m' : zS) (fn fp : Nat), oc = some (none, c') ∧ om = some (0, m') ∧ zFF fn fp c' m' ∧ zFo b n1 n3 nb c m c' m'
def zOC (T : Nat → Nat) (n b L n1 n3 nb : Nat) (c m : zS) (oc : Option (Option Unit × zS)) (om : Option (Int32 × zS)) : Prop := ∃ (i' : Nat) (c' m' : zS), oc = some (none, c') ∧ om = some (1, m') ∧ i' ≤ L ∧ (zw T n i').1 = 24 ∧ c'.1 309 = (zw T n i').2.1 ∧ c'.1 310 = nI (zw T n i').2.2.1 ∧ zPM T n i' m' ∧ zFo b n1 n3 nb c m c' m'
set_option maxHeartbeats 400000 in
theorem zreg_lt {T : Nat → Nat} {k L : Nat} (h : ¬ zreg T k L = (-1)) : ∃ r : Nat, r < 32 ∧ zreg T k L = nI r := by
  have hfam : ∀ c m, ¬ zfam c m = (-1) → ∃ r : Nat, r < 32 ∧ zfam c m = nI r := by
    intro c m hh
    cases m with
    | none => exact absurd rfl hh
    | some m =>
      unfold zfam at hh ⊢
      simp only at hh ⊢
      repeat' split at hh
      all_goals first
        | exact absurd rfl hh
        | skip
      all_goals (repeat' split)
      all_goals first
        | contradiction
        | exact ⟨_, by omega, rfl⟩
  unfold zreg at h ⊢
  by_cases c1 : L < 2 ∨ 4 < L
  · rw [if_pos c1] at h; exact absurd rfl h
  rw [if_neg c1] at h ⊢
  by_cases c2 : L = 2 ∧ T k = 102 ∧ T (k + 1) = 112
  · rw [if_pos c2]; exact ⟨8, by omega, rfl⟩
  rw [if_neg c2] at h ⊢
  by_cases c3 : L = 2 ∧ T k = 103 ∧ T (k + 1) = 112
  · rw [if_pos c3]; exact ⟨3, by omega, rfl⟩
  rw [if_neg c3] at h ⊢
  by_cases c4 : L = 2 ∧ T k = 114 ∧ T (k + 1) = 97
  · rw [if_pos c4]; exact ⟨1, by omega, rfl⟩
  rw [if_neg c4] at h ⊢
  by_cases c5 : L = 2 ∧ T k = 115 ∧ T (k + 1) = 112
  · rw [if_pos c5]; exact ⟨2, by omega, rfl⟩
  rw [if_neg c5] at h ⊢
  by_cases c6 : L = 2 ∧ T k = 116 ∧ T (k + 1) = 112
  · rw [if_pos c6]; exact ⟨4, by omega, rfl⟩
  rw [if_neg c6] at h ⊢
  by_cases c7 : L = 4 ∧ T k = 122 ∧ T (k + 1) = 101 ∧ T (k + 2) = 114 ∧ T (k + 3) = 111
  · rw [if_pos c7]; exact ⟨0, by omega, rfl⟩
  rw [if_neg c7] at h ⊢
  exact hfam _ _ h
