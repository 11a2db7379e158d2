def zST (T : Nat → Nat) (n b L i n3 nb : Nat) (lc : List (Int32 × Int32)) (F k : Nat) (c m : zS) : Prop := zPC T n b L i c ∧ i ≤ L ∧ zPM T n i m ∧ zPN b n3 nb c m ∧ nb ≤ (zw T n i).2.2.1 ∧ zIC b lc c ∧ zIM lc m ∧ (c.1 307 = nI F ∧ c.1 308 = nI k ∧ m.1 3324 = nI (F + k) ∧ m.1 3325 = nI k ∧ k ≤ 60) ∧ lc.length ≤ i ∧ F ≤ i
set_option maxHeartbeats 1000000 in
theorem p_expr {N n b L i n3 nb F : Nat} {T : Nat → Nat} {lc : List (Int32 × Int32)} {c m : zS} (hx : zCx T n L N) (h : zST T n b L i n3 nb lc F 0 c m) (h24 : (zw T n i).1 ≠ 24) : (∃ (i' n3' nb' fl : Nat) (el : List ((Int32 × Int32) × Nat)) (c' m' : zS), i < i' ∧ fX3_readSides N 1 1 c = some (some (), c') ∧ fX10_expression N m = some (1, m') ∧ zST T n b L i' n3' nb' (lc ++ el.map Prod.fst) F el.length c' m' ∧ (zw T n i').1 ≠ 24 ∧ n3 ≤ n3' ∧ nb ≤ nb' ∧ zFx2 b n3 nb c m c' m' ∧ zXp fl (el.map Prod.fst) ∧ (∀ q, q ∈ el → zItA b n3' c' q.1 q.2) ∧ (el.map Prod.snd).sum + 5 * (zw T n i).2.2.1 ≤ 5 * (zw T n i').2.2.1 ∧ el.length ≤ i' - i) ∨ (∃ (c' m' : zS) (fn fp : Nat), fX3_readSides N 1 1 c = some (none, c') ∧ fX10_expression N m = some (0, m') ∧ zFF fn fp c' m' ∧ zFx2 b n3 nb c m c' m') := by
  obtain ⟨h1, hi, h2, h3, h4, h5, h6, ⟨f1, f2, f3, f4, f5⟩, l1, l2⟩ := h
  obtain ⟨x1, x2, x3, x4, x5, x6⟩ := id hx
  obtain ⟨m0, hm0⟩ : ∃ m0, m0 = zsc (zsc (zsc m 3323 0) 3327 0) 3326 1 := ⟨_, rfl⟩
  have z0 : zeq [3323, 3326, 3327] [] m m0 := by rw [hm0]; exact zeq_trans (zeq_c (by decide)) (zeq_trans (zeq_c (by decide)) (zeq_c (by decide)))
  have fr0 : zFx2 b n3 nb c m c m0 := zFx2_m z0 (by decide) (by simp)
  have E0 : zEXP T n b L i n3 nb lc lc F 0 1 0 [] c m0 := by
    refine ⟨h1, hi, zPM_keep h2 z0 (by decide) (by simp), zPN_keep h3 rfl (by rw [z0.2.1 36 List.not_mem_nil]) rfl rfl rfl (z0.2.1 40 List.not_mem_nil) (z0.2.1 41 List.not_mem_nil), h4, h5, zIM_keep h6 (by rw [z0.2.1 36 List.not_mem_nil]) (z0.2.1 39 List.not_mem_nil), ⟨?_, trivial⟩, ⟨f1, f2, (z0.1 3324 (by decide)).trans f3, (z0.1 3325 (by decide)).trans f4, f5⟩, ?_, ?_, ?_, l1, l2, Nat.zero_le _, by omega⟩
    · rw [hm0]; exact (zsc_ne (by decide)).trans ((zsc_ne (by decide)).trans zsc_at)
    · rw [hm0]; exact zsc_at
    · rw [hm0]; exact (zsc_ne (by decide)).trans zsc_at
    · show lc.length + 0 ≤ i
      omega
  have hexp : fX10_expression N m = zbl (zXL N N 1 m0) (fun x => some x) (fun s51 => zbn (fX10_reduce N 0 s51) (fun _ s53 => some ((1 : Int32), s53))) := by
    unfold fX10_expression
    rw [← hm0]
    rfl
  rcases (RR hx 400).2 1 1 i n3 nb lc F 0 0 [] c m0 E0 h24 (fun x r e => by cases e) (by omega) (by omega) (by omega) (by omega) with S | K
  · left
    obtain ⟨i', n3', nb', k', fl, el, PP, lm, c', m1, s1, s2, s3, s4, s5, s6, s7, s8, s9, s10, ⟨s11, s11b⟩, s12, s13, s14, s15, s16⟩ := S
    obtain ⟨e1, ei, e2, e3, e4, e5, e6, e7, ⟨ef1, ef2, ef3, ef4, ef5⟩, e9, e10, el1, el2, el3, el4, el5⟩ := s5
    have hW1 := cx_w hx ei
    have hlt1 := zw_lt hW1
    have hno : ¬ (12 ≤ (zw T n i').1 ∧ (zw T n i').1 ≤ 21) := fun z => by have := (zlvl_op hlt1).mp z; omega
    have hend : ∀ M, zXL N (M + 2) 0 m1 = some (.inr m1) := by
      intro M
      have hlast : fX10_expression_L19 N (M + 1) (nI 0) 0 m1 = some (.inr m1) := by
        show fX10_expression_L19S N (fX10_expression_L19 N M) (nI 0) 0 m1 = _
        unfold fX10_expression_L19S
        rw [if_pos rfl]
      have h15 : ¬ m1.1 3315 = 6 := by
        rw [e2.2.1.1]
        have h9 : ∀ kd, kd < 24 → ¬ nI (zMs kd) = 6 := by decide +kernel
        exact h9 _ (by omega)
      show fX10_expression_L19S N (fX10_expression_L19 N (M + 1)) (nI 0) 1 m1 = _
      unfold fX10_expression_L19S
      rw [if_neg (show ¬ (1 : Int32) = 0 by decide), if_pos (show nI 0 = 0 from rfl), q_oper e2 hlt1, zbn_s, if_neg hno, if_pos (show nI 0 ≤ 0 by decide)]
      by_cases c10 : (zw T n i').1 = 10
      · rw [q_sign_t (kx := 10) (x := 41) e2 rfl (by omega) c10, zbn_s, if_neg (show ¬ (1 : Int32) = 0 by decide), e10, if_pos (show nI 0 ≤ 0 by decide), if_neg (show ¬ (0 : Int32) < nI 0 by decide), if_neg h15]
        exact hlast
      · rw [q_sign_f (kx := 10) (x := 41) e2 hlt1 rfl (by omega) c10, zbn_s, if_pos rfl, e10, if_neg (show ¬ (0 : Int32) < nI 0 by decide), if_neg h15]
        exact hlast
    have hPn : PP ++ [] = PP := List.append_nil _
    have hll2 : (lc ++ el.map Prod.fst).length = lm.length + PP.length := by rw [s4, List.length_append, List.length_map]
    rw [hPn] at el1
    obtain ⟨m2, r1, r2, r3, r4, r5, r6⟩ := q_reduce (N := N) (by_ := 0) (x := 0) (P := PP) (rest := []) rfl (by omega) (by omega) e7 (fun u hu => ⟨(s7 u hu).1, (s7 u hu).2.1, Nat.zero_le _⟩) (fun x r e => by cases e) (by rw [hPn]; omega) e6 (by omega)
    rw [← s4] at r3
    refine ⟨i', n3', nb', fl, el, c', m2, s1, s2, ?_, ⟨e1, ei, zPM_keep e2 r4 (by decide) (by decide), zPN_keep e3 rfl (r6 3 (by decide)) rfl rfl rfl (r4.2.1 40 (by decide)) (r4.2.1 41 (by decide)), e4, e5, r3, ⟨ef1, ?_, ?_, ?_, by omega⟩, el2, el3⟩, s6, s9, s10, ?_, s13, s14, s15, s16⟩
    · have h9 := s3 (N - (i' - i))
      rw [show N - (i' - i) + (i' - i) = N by omega] at h9
      have h8 := hend (N - (i' - i) - 2)
      rw [show N - (i' - i) - 2 + 2 = N - (i' - i) by omega] at h8
      rw [hexp, h9, h8, zbl_r, r1, zbn_s]
    · rw [ef2, s11b, Nat.zero_add]
    · rw [r4.1 3324 (by decide), ef3, s11b, Nat.zero_add]
    · rw [r4.1 3325 (by decide), ef4, s11b, Nat.zero_add]
    · exact zFx2_trans fr0 (zFx2_trans s12 ⟨zeq_refl _ _ _, fun _ _ => rfl, fun _ _ => rfl, zeq_mono r4 (by decide) (by decide), r5, fun j hj _ => r6 j hj⟩ s9 s10) (Nat.le_refl _) (Nat.le_refl _)
  · right
    obtain ⟨c', m', fn, fp, j, z1, z2, z3, z4, z5⟩ := K
    refine ⟨c', m', fn, fp, z1, ?_, z4, zFx2_trans fr0 z5 (Nat.le_refl _) (Nat.le_refl _)⟩
    have h9 := z3 (N - j)
    rw [show N - j + j = N by omega] at h9
    rw [hexp, h9]
    rfl
def zOP (b n0 s0 n1 s1 nb nl : Nat) (c m : zS) : Prop := (s0 ≤ 400 ∧ c.1 (100 * (b + 1) + 3) = nI s0 ∧ m.2.1 36 0 = nI s0 ∧ ∀ k j, k < n0 → j < 6 → c.2.1 (b + 2) (k * 6 + j) = m.2.1 37 (2400 * 0 + 6 * k + j)) ∧ (s1 ≤ 800 ∧ c.1 (100 * (b + 3) + 3) = nI s1 ∧ m.2.1 36 1 = nI s1 ∧ ∀ k j, k < n1 → j < 7 → c.2.1 (b + 4) (k * 8 + j) = m.2.1 38 (5600 * 0 + 7 * k + j)) ∧ (nl ≤ 3000 ∧ m.1 3312 = nI nl ∧ ∀ k, k < n1 → ∃ p q l : Nat, p + l ≤ nb ∧ q + l ≤ nl ∧ c.2.1 (b + 4) (k * 8 + 7) = nI p ∧ c.2.1 (b + 4) (k * 8 + 6) = nI l ∧ (0 < l → m.2.1 49 (800 * 0 + k) = nI q) ∧ ∀ x, x < l → c.2.1 (b + 9) (p + x) = m.2.1 42 (3000 * 0 + q + x))
set_option maxHeartbeats 1000000 in
theorem zOP_fx {b n0 s0 n1 s1 nb nl n3 nb' : Nat} {c m c' m' : zS} (hb : zBk b) (h : zOP b n0 s0 n1 s1 nb nl c m) (hf : zFx2 b n3 nb' c m c' m') (hnb : nb ≤ nb') : zOP b n0 s0 n1 s1 nb nl c' m' := by
  have hbb := zb_lt hb
  obtain ⟨g1, -, g3, g4, -, g6⟩ := hf
  have ca : ∀ a, a ≠ b + 6 → a ≠ b + 8 → a ≠ b + 9 → c'.2.1 a = c.2.1 a := fun a q1 q2 q3 => g1.2.1 a (by simp only [List.mem_cons, List.not_mem_nil, or_false]; omega)
  have ck : ∀ k, k = 100 * (b + 1) + 3 ∨ k = 100 * (b + 3) + 3 → c'.1 k = c.1 k := fun k hk => g1.1 k (by unfold zKX; simp only [List.mem_cons, List.not_mem_nil, or_false]; omega)
  obtain ⟨⟨a1, a2, a3, a4⟩, ⟨b1, b2, b3, b4⟩, ⟨c1, c2, c3⟩⟩ := h
  refine ⟨⟨a1, (ck _ (Or.inl rfl)).trans a2, (g6 0 (by decide) (by decide)).trans a3, fun k j hk hj => ?_⟩, ⟨b1, (ck _ (Or.inr rfl)).trans b2, (g6 1 (by decide) (by decide)).trans b3, fun k j hk hj => ?_⟩, ⟨c1, (g4.1 3312 (by decide)).trans c2, fun k hk => ?_⟩⟩
  · rw [ca _ (by omega) (by omega) (by omega), g4.2.1 37 (by decide)]; exact a4 k j hk hj
  · rw [ca _ (by omega) (by omega) (by omega), g4.2.1 38 (by decide)]; exact b4 k j hk hj
  · obtain ⟨p, q, l, d1, d2, d3, d4, d5, d6⟩ := c3 k hk
    refine ⟨p, q, l, d1, d2, ?_, ?_, ?_, fun x hx => ?_⟩
    · rw [ca _ (by omega) (by omega) (by omega)]; exact d3
    · rw [ca _ (by omega) (by omega) (by omega)]; exact d4
    · rw [g4.2.1 49 (by decide)]; exact d5
    · rw [g3 _ (by omega), g4.2.1 42 (by decide)]; exact d6 x hx
