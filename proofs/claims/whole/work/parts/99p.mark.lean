theorem s_k1 : ∀ a, a < 23 → (nI (zbl_ (1000 + a + 300))) >>> ((0 : Int32) &&& 31) = nI (zbl_ (1000 + a + 300)) ∧ zbl_ (1000 + a + 300) ≤ 30 := by decide +kernel
theorem s_k2 : ∀ a, a < 23 → ∀ i, i < zbl_ (1000 + a + 300) → (((zbv (1000 + a + 300) i) &&& 255).toUInt32 % 65536).toInt32 = zbv (1000 + a + 300) i := by decide +kernel
theorem zsk_b {a : Nat} (h : zsk a = true) : zbk (a + 300) = true := by
  unfold zsk at h
  unfold zbk
  simp only [Bool.and_eq_true, decide_eq_true_eq] at h ⊢
  omega
set_option maxHeartbeats 400000 in
theorem s_len {N a : Nat} {s : zS} (h : zsk a = true) : fJ0_length_8abf5 N a s = some (nI (zbl_ (a + 300)), s) := by
  obtain ⟨h1, h2⟩ := zsk_i h
  have h3 := (s_k1 (a - 1000) h1).1
  rw [← h2] at h3
  unfold fJ0_length_8abf5 fJ0_coder_7d493
  rw [if_pos h, if_pos (zsk_b h), if_pos h, if_pos h, if_pos (show narrow .byte (.int 0) = .int 0 from rfl), zbn_s, h3]
set_option maxHeartbeats 400000 in
theorem s_chr {N a i : Nat} {s : zS} (h : zsk a = true) (hi : i < zbl_ (a + 300)) : fJ0_charAt_5068e N a (nI i) s = some (zbv (a + 300) i, s) := by
  obtain ⟨h1, h2⟩ := zsk_i h
  have h3 := (s_k1 (a - 1000) h1).2
  have h4 := s_k2 (a - 1000) h1 i
  rw [← h2] at h3 h4
  have h5 := h4 hi
  have h6 : narrow .char (.int (zbv (a + 300) i)) = .int (zbv (a + 300) i) := by
    have h9 := pk_nc (zbv (a + 300) i &&& 255)
    rw [h5] at h9
    exact h9
  have e1 : fJ0_checkIndex_df160 N (nI i) (nI (zbl_ (a + 300))) s = some ((), s) := by
    unfold fJ0_checkIndex_df160 fJ3_checkIndex_8e157
    rw [if_neg (nI_pos (by omega)), if_pos (nI_lt hi (by omega)), zbn_s]
  unfold fJ0_charAt_5068e fJ0_isLatin1_aae02 fJ1_charAt_3b067
  rw [if_pos h, if_pos h, zbn_s, if_neg (show ¬ (1 : Int32) = 0 by decide), if_pos h, if_pos (zsk_b h), e1, zbn_s, if_pos (zsk_b h), if_pos (zga_n hi (by omega)), nI_clamp (by omega), h5, if_pos h6, zbn_s, if_pos h6]
def zsp (T : Nat → Nat) (p l a : Nat) : Prop := l = zbl_ (a + 300) ∧ ∀ j, j < zbl_ (a + 300) → nI (T (p + j)) = zbv (a + 300) j
set_option maxHeartbeats 400000 in
theorem k_kind {T : Nat → Nat} {N n b L i j : Nat} {c : zS} (h : zPC T n b L i c) (hj : j ≤ L) (hL : L ≤ n) : fX8_kindOf N (nI j) c = some (nI (zw T n j).1, c) ∧ fX8_placeOf N (nI j) c = some (nI (zw T n j).2.2.1, c) ∧ fX8_valueOf N (nI j) c = some ((zw T n j).2.1, c) := by
  refine ⟨?_, ?_, ?_⟩
  · unfold fX8_kindOf; rw [(zcell_w h j hj hL).1, zbn_s]
  · unfold fX8_placeOf; rw [(zcell_w h j hj hL).2.1, zbn_s]
  · unfold fX8_valueOf; rw [(zcell_w h j hj hL).2.2, zbn_s]
set_option maxHeartbeats 400000 in
theorem l_spell {T : Nat → Nat} {N n b L i a : Nat} {c : zS} (h : zPC T n b L i c) (hi : i ≤ L) (hL : L ≤ n) (ha : zsk a = true) (hn : (zw T n i).2.2.1 + zbl_ (a + 300) ≤ n) : ∀ d j M, j + d = zbl_ (a + 300) → d < M → (∀ x, x < j → nI (T ((zw T n i).2.2.1 + x)) = zbv (a + 300) x) → (fX8_spells_L25 N (nI i) a M (nI j) c = some (.inr c) ∧ ∀ x, x < zbl_ (a + 300) → nI (T ((zw T n i).2.2.1 + x)) = zbv (a + 300) x) ∨ (fX8_spells_L25 N (nI i) a M (nI j) c = some (.inl (0, c)) ∧ ¬ ∀ x, x < zbl_ (a + 300) → nI (T ((zw T n i).2.2.1 + x)) = zbv (a + 300) x) := by
  have hz := (s_k1 (a - 1000) (zsk_i ha).1).2
  rw [← (zsk_i ha).2] at hz
  have hTx := h.2.2.2.1
  intro d
  induction d with
  | zero =>
    intro j M hj hM hx
    obtain ⟨M, rfl⟩ : ∃ q, M = q + 1 := ⟨M - 1, by omega⟩
    left
    refine ⟨?_, fun x hx' => hx x (by omega)⟩
    show fX8_spells_L25S N (nI i) a (fX8_spells_L25 N (nI i) a M) (nI j) c = _
    unfold fX8_spells_L25S
    rw [if_pos ha, s_len ha, zbn_s, if_pos (nI_le (by omega) (by omega))]
  | succ d ih =>
    intro j M hj hM hx
    obtain ⟨M, rfl⟩ : ∃ q, M = q + 1 := ⟨M - 1, by omega⟩
    have hbt : bI (zB T n ((zw T n i).2.2.1 + j)) = nI (T ((zw T n i).2.2.1 + j)) := by
      have h9 := (hTx.2.2 ((zw T n i).2.2.1 + j) (by omega)).1
      rw [zB_in (by omega)]
      unfold bI
      rw [if_pos h9]
    have e : fX8_spells_L25 N (nI i) a (M + 1) (nI j) c = if nI (T ((zw T n i).2.2.1 + j)) = zbv (a + 300) j then fX8_spells_L25 N (nI i) a M (nI (j + 1)) c else some (.inl (0, c)) := by
      show fX8_spells_L25S N (nI i) a (fX8_spells_L25 N (nI i) a M) (nI j) c = _
      unfold fX8_spells_L25S
      have hn2 := hTx.2.1
      rw [if_pos ha, s_len ha, zbn_s, if_neg (nI_ge (by omega) (by omega)), (k_kind h hi hL).2.1, zbn_s, nI_add, e8_at hTx _ (by omega), zbn_s, if_pos ha, s_chr ha (by omega), zbn_s, hbt, nI_1]
    rw [e]
    by_cases q : nI (T ((zw T n i).2.2.1 + j)) = zbv (a + 300) j
    · rw [if_pos q]
      exact ih (j + 1) M (by omega) (by omega) (fun x hx' => by
        by_cases e9 : x = j
        · rw [e9]; exact q
        · exact hx x (by omega))
    · rw [if_neg q]
      right
      exact ⟨rfl, fun w => q (w j (by omega))⟩
set_option maxHeartbeats 400000 in
theorem q_spell {T : Nat → Nat} {N n b L i a : Nat} {c : zS} (hx : zCx T n L N) (h : zPC T n b L i c) (hi : i ≤ L) (ha : zsk a = true) : ∃ fl : Int32, fX8_spells N (nI i) a c = some (fl, c) ∧ ((fl = 1 ∧ (zw T n i).1 = 1 ∧ zsp T (zw T n i).2.2.1 ((zw T n i).2.2.2 - (zw T n i).2.2.1) a) ∨ (fl = 0 ∧ ¬ ((zw T n i).1 = 1 ∧ zsp T (zw T n i).2.2.1 ((zw T n i).2.2.2 - (zw T n i).2.2.1) a))) := by
  obtain ⟨x1, x2, x3, x4, x5, x6⟩ := id hx
  have hW := cx_w hx hi
  have hlt := zw_lt hW
  have hz := (s_k1 (a - 1000) (zsk_i ha).1).2
  rw [← (zsk_i ha).2] at hz
  have hk := k_kind (N := N) h hi x4
  unfold fX8_spells
  rw [hk.1, zbn_s]
  by_cases c1 : (zw T n i).1 = 1
  · rw [if_pos (show nI (zw T n i).1 = 1 by rw [c1]; rfl), hk.2.2, zbn_s, if_pos ha, s_len ha, zbn_s]
    obtain ⟨w1, w2, w3, w4, w5⟩ := zW_nm hW (Or.inl c1)
    rw [w5]
    by_cases c2 : (zw T n i).2.2.2 - (zw T n i).2.2.1 = zbl_ (a + 300)
    · rw [if_pos (by rw [c2])]
      rcases l_spell (N := N) h hi x4 ha (by omega) (zbl_ (a + 300)) 0 N (by omega) (by omega) (fun x hx => absurd hx (by omega)) with ⟨e1, e2⟩ | ⟨e1, e2⟩
      · rw [show (0 : Int32) = nI 0 from rfl, e1, zbl_r]
        exact ⟨1, rfl, Or.inl ⟨rfl, c1, c2, e2⟩⟩
      · rw [show (0 : Int32) = nI 0 from rfl, e1, zbl_l]
        exact ⟨0, rfl, Or.inr ⟨rfl, fun w => e2 w.2.2⟩⟩
    · rw [if_neg (fun z => c2 ((nI_eq (by omega) (by omega)).mp z))]
      exact ⟨0, rfl, Or.inr ⟨rfl, fun w => c2 w.2.1⟩⟩
  · rw [if_neg (show ¬ nI (zw T n i).1 = (1 : Int32) from fun z => c1 ((nI_eq (b := 1) (by omega) (by decide)).mp z))]
    exact ⟨0, rfl, Or.inr ⟨rfl, fun w => c1 w.1⟩⟩
def zmkn (T : Nat → Nat) (p l : Nat) : Nat := if l = 2 ∧ T p = 104 ∧ T (p + 1) = 105 then 1 else if l = 2 ∧ T p = 108 ∧ T (p + 1) = 111 then 2 else if l = 8 ∧ T p = 112 ∧ T (p + 1) = 99 ∧ T (p + 2) = 114 ∧ T (p + 3) = 101 ∧ T (p + 4) = 108 ∧ T (p + 5) = 95 ∧ T (p + 6) = 104 ∧ T (p + 7) = 105 then 3 else if l = 8 ∧ T p = 112 ∧ T (p + 1) = 99 ∧ T (p + 2) = 114 ∧ T (p + 3) = 101 ∧ T (p + 4) = 108 ∧ T (p + 5) = 95 ∧ T (p + 6) = 108 ∧ T (p + 7) = 111 then 4 else 0
set_option maxHeartbeats 400000 in
theorem zsp_2 {T : Nat → Nat} {p l a x y : Nat} (hT : ∀ j, j < l → T (p + j) < 256) (hl : zbl_ (a + 300) = 2) (hx : zbv (a + 300) 0 = nI x) (hy : zbv (a + 300) 1 = nI y) (hx2 : x < 256) (hy2 : y < 256) : zsp T p l a ↔ l = 2 ∧ T p = x ∧ T (p + 1) = y := by
  unfold zsp
  rw [hl]
  constructor
  · intro ⟨h1, h2⟩
    have t0 := hT 0 (by omega)
    have t1 := hT 1 (by omega)
    have e0 := h2 0 (by omega)
    have e1 := h2 1 (by omega)
    rw [Nat.add_zero] at t0
    rw [hx, Nat.add_zero] at e0
    rw [hy] at e1
    exact ⟨h1, (nI_eq (by omega) (by omega)).mp e0, (nI_eq (by omega) (by omega)).mp e1⟩
  · intro ⟨h1, h2, h3⟩
    refine ⟨h1, fun j hj => ?_⟩
    have hj : j = 0 ∨ j = 1 := by omega
    rcases hj with rfl | rfl
    · rw [hx, Nat.add_zero, h2]
    · rw [hy, h3]
set_option maxHeartbeats 400000 in
theorem zsp_8 {T : Nat → Nat} {p l a x0 x1 x2 x3 x4 x5 x6 x7 : Nat} (hT : ∀ j, j < l → T (p + j) < 256) (hl : zbl_ (a + 300) = 8) (h0 : zbv (a + 300) 0 = nI x0) (h1 : zbv (a + 300) 1 = nI x1) (h2 : zbv (a + 300) 2 = nI x2) (h3 : zbv (a + 300) 3 = nI x3) (h4 : zbv (a + 300) 4 = nI x4) (h5 : zbv (a + 300) 5 = nI x5) (h6 : zbv (a + 300) 6 = nI x6) (h7 : zbv (a + 300) 7 = nI x7) (hx : x0 < 256 ∧ x1 < 256 ∧ x2 < 256 ∧ x3 < 256 ∧ x4 < 256 ∧ x5 < 256 ∧ x6 < 256 ∧ x7 < 256) : zsp T p l a ↔ l = 8 ∧ T p = x0 ∧ T (p + 1) = x1 ∧ T (p + 2) = x2 ∧ T (p + 3) = x3 ∧ T (p + 4) = x4 ∧ T (p + 5) = x5 ∧ T (p + 6) = x6 ∧ T (p + 7) = x7 := by
  obtain ⟨k0, k1, k2, k3, k4, k5, k6, k7⟩ := hx
  unfold zsp
  rw [hl]
  constructor
  · intro ⟨g1, g2⟩
    have gg : ∀ j x, j < 8 → x < 256 → zbv (a + 300) j = nI x → T (p + j) = x := fun j x hj hx e => (nI_eq (by have := hT j (by omega); omega) (by omega)).mp ((g2 j hj).trans e)
    exact ⟨g1, gg 0 x0 (by omega) k0 h0, gg 1 x1 (by omega) k1 h1, gg 2 x2 (by omega) k2 h2, gg 3 x3 (by omega) k3 h3, gg 4 x4 (by omega) k4 h4, gg 5 x5 (by omega) k5 h5, gg 6 x6 (by omega) k6 h6, gg 7 x7 (by omega) k7 h7⟩
  · intro ⟨g1, q0, q1, q2, q3, q4, q5, q6, q7⟩
    refine ⟨g1, fun j hj => ?_⟩
    have hj : j = 0 ∨ j = 1 ∨ j = 2 ∨ j = 3 ∨ j = 4 ∨ j = 5 ∨ j = 6 ∨ j = 7 := by omega
    rcases hj with rfl | rfl | rfl | rfl | rfl | rfl | rfl | rfl
    · rw [h0, Nat.add_zero, q0]
    · rw [h1, q1]
    · rw [h2, q2]
    · rw [h3, q3]
    · rw [h4, q4]
    · rw [h5, q5]
    · rw [h6, q6]
    · rw [h7, q7]
set_option maxHeartbeats 400000 in
theorem q_markC {T : Nat → Nat} {N n b L i : Nat} {c : zS} (hx : zCx T n L N) (h : zPC T n b L i c) (hi : i ≤ L) : fX2_numberOf N (nI i) c = some (nI (if (zw T n i).1 = 1 then zmkn T (zw T n i).2.2.1 ((zw T n i).2.2.2 - (zw T n i).2.2.1) else 0), c) := by
  obtain ⟨x1, x2, x3, x4, x5, x6⟩ := id hx
  have hW := cx_w hx hi
  obtain ⟨p, hp⟩ : ∃ p, p = (zw T n i).2.2.1 := ⟨_, rfl⟩
  obtain ⟨l, hl⟩ : ∃ l, l = (zw T n i).2.2.2 - (zw T n i).2.2.1 := ⟨_, rfl⟩
  have hstep : ∀ (M k : Nat), 1 ≤ k → k ≤ 4 → ∃ fl : Int32, fX2_numberOf_L2 N (nI i) (M + 1) (nI k) c = (if fl = 0 then fX2_numberOf_L2 N (nI i) M (nI (k + 1)) c else some (.inl (nI k, c))) ∧ ((fl = 1 ∧ (zw T n i).1 = 1 ∧ zsp T p l (1006 + k)) ∨ (fl = 0 ∧ ¬ ((zw T n i).1 = 1 ∧ zsp T p l (1006 + k)))) := by
    intro M k h1 h4
    obtain ⟨fl, e1, e2⟩ := q_spell (a := 1006 + k) hx h hi (by unfold zsk; simp only [Bool.and_eq_true, decide_eq_true_eq]; omega)
    rw [← hl, ← hp] at e2
    refine ⟨fl, ?_, e2⟩
    have hnm : fX2_nameOf N (nI k) c = some (1006 + k, c) := by
      unfold fX2_nameOf
      have hk : k = 1 ∨ k = 2 ∨ k = 3 ∨ k = 4 := by omega
      rcases hk with rfl | rfl | rfl | rfl <;> rfl
    show fX2_numberOf_L2S N (nI i) (fX2_numberOf_L2 N (nI i) M) (nI k) c = _
    unfold fX2_numberOf_L2S
    rw [if_neg (show ¬ (4 : Int32) < nI k from nI_nlt (a := 4) h4 (by decide)), hnm, zbn_s, e1, zbn_s, nI_1]
  have hend : ∀ M, fX2_numberOf_L2 N (nI i) (M + 1) (nI 5) c = some (.inr c) := fun M => by
    show fX2_numberOf_L2S N (nI i) (fX2_numberOf_L2 N (nI i) M) (nI 5) c = _
    unfold fX2_numberOf_L2S
    rw [if_pos (by decide)]
  have hall : ∃ mk : Nat, fX2_numberOf N (nI i) c = some (nI mk, c) ∧ ((mk = 0 ∧ ∀ q, 1 ≤ q → q ≤ 4 → ¬ ((zw T n i).1 = 1 ∧ zsp T p l (1006 + q))) ∨ (1 ≤ mk ∧ mk ≤ 4 ∧ (zw T n i).1 = 1 ∧ zsp T p l (1006 + mk))) := by
    unfold fX2_numberOf
    obtain ⟨M, hM⟩ : ∃ M, N = M + 5 := ⟨N - 5, by omega⟩
    obtain ⟨f1, a1, b1⟩ := hstep (M + 4) 1 (by omega) (by omega)
    rw [show fX2_numberOf_L2 N (nI i) N 1 c = fX2_numberOf_L2 N (nI i) (M + 4 + 1) (nI 1) c by rw [show M + 4 + 1 = N by omega]; rfl, a1]
    rcases b1 with ⟨rfl, b1⟩ | ⟨rfl, b1⟩
    · exact ⟨1, rfl, Or.inr ⟨by omega, by omega, b1⟩⟩
    rw [if_pos rfl]
    obtain ⟨f2, a2, b2⟩ := hstep (M + 3) 2 (by omega) (by omega)
    rw [show M + 4 = M + 3 + 1 by omega, a2]
    rcases b2 with ⟨rfl, b2⟩ | ⟨rfl, b2⟩
    · exact ⟨2, rfl, Or.inr ⟨by omega, by omega, b2⟩⟩
    rw [if_pos rfl]
    obtain ⟨f3, a3, b3⟩ := hstep (M + 2) 3 (by omega) (by omega)
    rw [show M + 3 = M + 2 + 1 by omega, a3]
    rcases b3 with ⟨rfl, b3⟩ | ⟨rfl, b3⟩
    · exact ⟨3, rfl, Or.inr ⟨by omega, by omega, b3⟩⟩
    rw [if_pos rfl]
    obtain ⟨f4, a4, b4⟩ := hstep (M + 1) 4 (by omega) (by omega)
    rw [show M + 2 = M + 1 + 1 by omega, a4]
    rcases b4 with ⟨rfl, b4⟩ | ⟨rfl, b4⟩
    · exact ⟨4, rfl, Or.inr ⟨by omega, by omega, b4⟩⟩
    rw [if_pos rfl, hend]
    refine ⟨0, rfl, Or.inl ⟨rfl, fun q h1 h4 => ?_⟩⟩
    have hq : q = 1 ∨ q = 2 ∨ q = 3 ∨ q = 4 := by omega
    rcases hq with rfl | rfl | rfl | rfl
    · exact b1
    · exact b2
    · exact b3
    · exact b4
  obtain ⟨mk, e1, e2⟩ := hall
  rw [e1, ← hl, ← hp]
  by_cases c1 : (zw T n i).1 = 1
  · rw [if_pos c1]
    obtain ⟨w1, w2, w3, w4, w5⟩ := zW_nm hW (Or.inl c1)
    have hT : ∀ j, j < l → T (p + j) < 256 := fun j hj => x1 _ (by omega)
    have s1 := zsp_2 (T := T) (p := p) (l := l) (a := 1006 + 1) (x := 104) (y := 105) hT (by decide) (by decide) (by decide) (by decide) (by decide)
    have s2 := zsp_2 (T := T) (p := p) (l := l) (a := 1006 + 2) (x := 108) (y := 111) hT (by decide) (by decide) (by decide) (by decide) (by decide)
    have s3 := zsp_8 (T := T) (p := p) (l := l) (a := 1006 + 3) (x0 := 112) (x1 := 99) (x2 := 114) (x3 := 101) (x4 := 108) (x5 := 95) (x6 := 104) (x7 := 105) hT (by decide) (by decide) (by decide) (by decide) (by decide) (by decide) (by decide) (by decide) (by decide) (by decide)
    have s4 := zsp_8 (T := T) (p := p) (l := l) (a := 1006 + 4) (x0 := 112) (x1 := 99) (x2 := 114) (x3 := 101) (x4 := 108) (x5 := 95) (x6 := 108) (x7 := 111) hT (by decide) (by decide) (by decide) (by decide) (by decide) (by decide) (by decide) (by decide) (by decide) (by decide)
    have hmk : mk = zmkn T p l := by
      unfold zmkn
      rcases e2 with ⟨rfl, e2⟩ | ⟨h1, h4, -, e2⟩
      · rw [if_neg (fun z => e2 1 (by omega) (by omega) ⟨c1, s1.mpr z⟩), if_neg (fun z => e2 2 (by omega) (by omega) ⟨c1, s2.mpr z⟩), if_neg (fun z => e2 3 (by omega) (by omega) ⟨c1, s3.mpr z⟩), if_neg (fun z => e2 4 (by omega) (by omega) ⟨c1, s4.mpr z⟩)]
      · have hk : mk = 1 ∨ mk = 2 ∨ mk = 3 ∨ mk = 4 := by omega
        rcases hk with rfl | rfl | rfl | rfl
        · rw [if_pos (s1.mp e2)]
        · have z := s2.mp e2
          rw [if_neg (by omega), if_pos z]
        · have z := s3.mp e2
          rw [if_neg (by omega), if_neg (by omega), if_pos z]
        · have z := s4.mp e2
          rw [if_neg (by omega), if_neg (by omega), if_neg (by omega), if_pos z]
    rw [hmk]
  · rw [if_neg c1]
    rcases e2 with ⟨rfl, -⟩ | ⟨-, -, z, -⟩
    · rfl
    · exact absurd z c1
set_option maxHeartbeats 1000000 in
theorem q_markM {N n p e : Nat} {T : Nat → Nat} {m : zS} (h : zTx 35 3303 T n m) (h1 : m.1 3315 = nI 1) (hp : m.1 3317 = nI p) (he : m.1 3318 = nI e) (hen : e ≤ n) (hpe : p < e) (hnm : ∀ j, p ≤ j → j < e → znm (T j) = true) : fX10_mark N m = some (nI (zmkn T p (e - p)), m) := by
  have hT : ∀ j, p ≤ j → j < e → 36 ≤ T j := fun j h2 h3 => by
    rcases znm_p (T j) (h.2.2 j (by omega)).1 with z | z
    · rw [hnm j h2 h3] at z; cases z
    · exact z
  have hn2 := h.2.1
  have G : ∀ j, p + j < e → zG T p e j = T (p + j) := fun j hj => if_pos hj
  have G0 : ∀ j, ¬ p + j < e → zG T p e j = 0 := fun j hj => if_neg hj
  have B : ∀ (j : Nat) (x : Int32), j < 100 → x = nI j → fX10_byteOf N x m = some (nI (zG T p e j), m) := fun j x hj hx => e10_byte (N := N) j hx h hp he hen (by omega) hj
  have E : ∀ (j k : Nat) (x : Int32), k < 256 → x = nI k → (nI (zG T p e j) = x ↔ zG T p e j = k) := fun j k x hk hx => by
    rw [hx]
    refine nI_eq ?_ (by omega)
    unfold zG
    split
    · have := (h.2.2 (p + j) (by omega)).1; omega
    · omega
  have g0 := G 0 (by omega)
  rw [Nat.add_zero] at g0
  unfold fX10_mark
  rw [h1, if_pos (show nI 1 = (1 : Int32) from rfl), e10_is (N := N) (x := 104) (y := 105) (z := 0) (w := 0) 104 105 0 0 rfl rfl rfl rfl (by omega) (by omega) (by omega) (by omega) h hp he hen (by omega), zbn_s]
  by_cases c1 : e - p = 2 ∧ T p = 104 ∧ T (p + 1) = 105
  · have : zG T p e 0 = 104 ∧ zG T p e 1 = 105 ∧ zG T p e 2 = 0 ∧ zG T p e 3 = 0 ∧ (0 = 0 ∨ zG T p e 4 = 0) := by
      refine ⟨by omega, ?_, G0 2 (by omega), G0 3 (by omega), Or.inl rfl⟩
      rw [G 1 (by omega)]; omega
    rw [decide_eq_true this, if_neg (by decide)]
    unfold zmkn
    rw [if_pos c1]
    rfl
  have n1 : ¬ (zG T p e 0 = 104 ∧ zG T p e 1 = 105 ∧ zG T p e 2 = 0 ∧ zG T p e 3 = 0 ∧ (0 = 0 ∨ zG T p e 4 = 0)) := by
    intro ⟨z0, z1, z2, z3, _⟩
    apply c1
    have q1 : p + 1 < e := by
      apply Classical.byContradiction
      intro q
      rw [G0 1 q] at z1
      omega
    have q2 : ¬ p + 2 < e := by
      intro q
      have h9 := hT (p + 2) (by omega) q
      rw [G 2 q] at z2
      omega
    rw [G 1 q1] at z1
    omega
  rw [decide_eq_false n1, if_pos (show zb1 false = 0 from rfl), e10_is (N := N) (x := 108) (y := 111) (z := 0) (w := 0) 108 111 0 0 rfl rfl rfl rfl (by omega) (by omega) (by omega) (by omega) h hp he hen (by omega), zbn_s]
  by_cases c2 : e - p = 2 ∧ T p = 108 ∧ T (p + 1) = 111
  · have : zG T p e 0 = 108 ∧ zG T p e 1 = 111 ∧ zG T p e 2 = 0 ∧ zG T p e 3 = 0 ∧ (0 = 0 ∨ zG T p e 4 = 0) := by
      refine ⟨by omega, ?_, G0 2 (by omega), G0 3 (by omega), Or.inl rfl⟩
      rw [G 1 (by omega)]; omega
    rw [decide_eq_true this, if_neg (by decide)]
    unfold zmkn
    rw [if_neg c1, if_pos c2]
    rfl
  have n2 : ¬ (zG T p e 0 = 108 ∧ zG T p e 1 = 111 ∧ zG T p e 2 = 0 ∧ zG T p e 3 = 0 ∧ (0 = 0 ∨ zG T p e 4 = 0)) := by
    intro ⟨z0, z1, z2, z3, _⟩
    apply c2
    have q1 : p + 1 < e := by
      apply Classical.byContradiction
      intro q
      rw [G0 1 q] at z1
      omega
    have q2 : ¬ p + 2 < e := by
      intro q
      have h9 := hT (p + 2) (by omega) q
      rw [G 2 q] at z2
      omega
    rw [G 1 q1] at z1
    omega
  rw [decide_eq_false n2, if_pos (show zb1 false = 0 from rfl)]
  have hz0 : fX10_mark_J118 N m = some (0, m) := by
    unfold fX10_mark_J118 fX10_mark_J119 fX10_mark_J148
    rw [if_pos rfl, if_pos rfl]
  have Z : ∀ j, j < 8 → e - p = 8 → zG T p e j = T (p + j) := fun j hj hl => G j (by omega)
  have zz : ¬ (e - p = 8 ∧ T p = 112 ∧ T (p + 1) = 99 ∧ T (p + 2) = 114 ∧ T (p + 3) = 101 ∧ T (p + 4) = 108 ∧ T (p + 5) = 95) → some ((0 : Int32), m) = some (nI (zmkn T p (e - p)), m) := by
    intro hh
    unfold zmkn
    rw [if_neg c1, if_neg c2, if_neg (fun z => hh ⟨z.1, z.2.1, z.2.2.1, z.2.2.2.1, z.2.2.2.2.1, z.2.2.2.2.2.1, z.2.2.2.2.2.2.1⟩), if_neg (fun z => hh ⟨z.1, z.2.1, z.2.2.1, z.2.2.2.1, z.2.2.2.2.1, z.2.2.2.2.2.1, z.2.2.2.2.2.2.1⟩)]
    rfl
  rw [B 0 0 (by omega) rfl, zbn_s]
  by_cases d0 : zG T p e 0 = 112
  case neg =>
    rw [if_neg (fun z => d0 ((E 0 112 112 (by omega) rfl).mp z)), hz0]
    exact zz (fun z => d0 (by rw [Z 0 (by omega) z.1]; omega))
  rw [if_pos ((E 0 112 112 (by omega) rfl).mpr d0), B 1 1 (by omega) rfl, zbn_s]
  by_cases d1 : zG T p e 1 = 99
  case neg =>
    rw [if_neg (fun z => d1 ((E 1 99 99 (by omega) rfl).mp z)), hz0]
    exact zz (fun z => d1 (by rw [Z 1 (by omega) z.1]; omega))
  rw [if_pos ((E 1 99 99 (by omega) rfl).mpr d1), B 2 2 (by omega) rfl, zbn_s]
  by_cases d2 : zG T p e 2 = 114
  case neg =>
    rw [if_neg (fun z => d2 ((E 2 114 114 (by omega) rfl).mp z)), hz0]
    exact zz (fun z => d2 (by rw [Z 2 (by omega) z.1]; omega))
  rw [if_pos ((E 2 114 114 (by omega) rfl).mpr d2), B 3 3 (by omega) rfl, zbn_s]
  by_cases d3 : zG T p e 3 = 101
  case neg =>
    rw [if_neg (fun z => d3 ((E 3 101 101 (by omega) rfl).mp z)), hz0]
    exact zz (fun z => d3 (by rw [Z 3 (by omega) z.1]; omega))
  rw [if_pos ((E 3 101 101 (by omega) rfl).mpr d3), B 4 4 (by omega) rfl, zbn_s]
  by_cases d4 : zG T p e 4 = 108
  case neg =>
    rw [if_neg (fun z => d4 ((E 4 108 108 (by omega) rfl).mp z)), hz0]
    exact zz (fun z => d4 (by rw [Z 4 (by omega) z.1]; omega))
  rw [if_pos ((E 4 108 108 (by omega) rfl).mpr d4), B 5 5 (by omega) rfl, zbn_s]
  by_cases d5 : zG T p e 5 = 95
  case neg =>
    rw [if_neg (fun z => d5 ((E 5 95 95 (by omega) rfl).mp z)), hz0]
    exact zz (fun z => d5 (by rw [Z 5 (by omega) z.1]; omega))
  rw [if_pos ((E 5 95 95 (by omega) rfl).mpr d5), he, hp, pk_sub (by omega)]
  by_cases d8 : e - p = 8
  case neg =>
    rw [if_neg (show ¬ nI (e - p) = (8 : Int32) from fun z => d8 ((nI_eq (b := 8) (by omega) (by decide)).mp z)), hz0]
    exact zz (fun z => d8 z.1)
  rw [if_pos (show nI (e - p) = (8 : Int32) by rw [d8]; rfl)]
  rw [Z 0 (by omega) d8, Nat.add_zero] at d0
  rw [Z 1 (by omega) d8] at d1
  rw [Z 2 (by omega) d8] at d2
  rw [Z 3 (by omega) d8] at d3
  rw [Z 4 (by omega) d8] at d4
  rw [Z 5 (by omega) d8] at d5
  have g6 := Z 6 (by omega) d8
  have g7 := Z 7 (by omega) d8
  have h148 : ¬ (T (p + 6) = 104 ∧ T (p + 7) = 105) → fX10_mark_J148 N 1 m = some (nI (zmkn T p (e - p)), m) := by
    intro hh
    unfold fX10_mark_J148 zmkn
    rw [if_neg (show ¬ (1 : Int32) = 0 by decide), B 6 6 (by omega) rfl, zbn_s, if_neg c1, if_neg c2, if_neg (show ¬ (e - p = 8 ∧ T p = 112 ∧ T (p + 1) = 99 ∧ T (p + 2) = 114 ∧ T (p + 3) = 101 ∧ T (p + 4) = 108 ∧ T (p + 5) = 95 ∧ T (p + 6) = 104 ∧ T (p + 7) = 105) from fun z => hh ⟨z.2.2.2.2.2.2.2.1, z.2.2.2.2.2.2.2.2⟩)]
    by_cases k6 : T (p + 6) = 108
    · rw [if_pos ((E 6 108 108 (by omega) rfl).mpr (g6.trans k6)), B 7 7 (by omega) rfl, zbn_s]
      by_cases k7 : T (p + 7) = 111
      · rw [if_pos ((E 7 111 111 (by omega) rfl).mpr (g7.trans k7)), if_pos ⟨d8, d0, d1, d2, d3, d4, d5, k6, k7⟩]
        rfl
      · rw [if_neg (fun z => k7 (g7.symm.trans ((E 7 111 111 (by omega) rfl).mp z))), if_neg (fun z => k7 z.2.2.2.2.2.2.2.2)]
        rfl
    · rw [if_neg (fun z => k6 (g6.symm.trans ((E 6 108 108 (by omega) rfl).mp z))), if_neg (fun z => k6 z.2.2.2.2.2.2.2.1)]
      rfl
  unfold fX10_mark_J119
  rw [if_neg (show ¬ (1 : Int32) = 0 by decide), B 6 6 (by omega) rfl, zbn_s]
  by_cases k6 : T (p + 6) = 104
  · rw [if_pos ((E 6 104 104 (by omega) rfl).mpr (g6.trans k6)), B 7 7 (by omega) rfl, zbn_s]
    by_cases k7 : T (p + 7) = 105
    · rw [if_pos ((E 7 105 105 (by omega) rfl).mpr (g7.trans k7))]
      unfold zmkn
      rw [if_neg c1, if_neg c2, if_pos ⟨d8, d0, d1, d2, d3, d4, d5, k6, k7⟩]
      rfl
    · rw [if_neg (fun z => k7 (g7.symm.trans ((E 7 105 105 (by omega) rfl).mp z)))]
      exact h148 (fun z => k7 z.2)
  · rw [if_neg (fun z => k6 (g6.symm.trans ((E 6 104 104 (by omega) rfl).mp z)))]
    exact h148 (fun z => k6 z.1)
set_option maxHeartbeats 400000 in
theorem zmkn_le (T : Nat → Nat) (p l : Nat) : zmkn T p l ≤ 4 := by
  unfold zmkn
  repeat' split
  all_goals omega
set_option maxHeartbeats 400000 in
theorem zmkn_reg {T : Nat → Nat} {p l : Nat} (h : ¬ zreg T p l = (-1)) : zmkn T p l = 0 := by
  have h8 : ¬ l = 8 := fun e => h (by unfold zreg; rw [if_pos (by omega)])
  have h2 : ∀ x y, l = 2 → T p = x → T (p + 1) = y → (x = 104 ∧ y = 105 ∨ x = 108 ∧ y = 111) → zreg T p l = (-1) := by
    intro x y e1 e2 e3 e4
    unfold zreg
    rw [if_neg (by omega), if_neg (by omega), if_neg (by omega), if_neg (by omega), if_neg (by omega), if_neg (by omega), if_neg (by omega), e1, e2]
    have : zmem T (p + 1) (2 - 1) = none := by
      unfold zmem
      rw [if_pos rfl, e3]
      rcases e4 with ⟨-, rfl⟩ | ⟨-, rfl⟩ <;> rfl
    rw [this]
    rfl
  unfold zmkn
  rw [if_neg (fun z => h (h2 _ _ z.1 z.2.1 z.2.2 (by omega))), if_neg (fun z => h (h2 _ _ z.1 z.2.1 z.2.2 (by omega))), if_neg (fun z => h8 z.1), if_neg (fun z => h8 z.1)]
