def zPN (b n3 nb : Nat) (c m : zS) : Prop := n3 ≤ 150 ∧ c.1 (100 * (b + 7) + 3) = nI n3 ∧ m.2.1 36 3 = nI n3 ∧ c.1 (100 * b + 5) = nI nb ∧ ∀ k, k < n3 → ∃ p l : Nat, 1 ≤ l ∧ l ≤ 16 ∧ p + l ≤ nb ∧ c.2.1 (b + 8) (k * 2 + 0) = nI p ∧ c.2.1 (b + 8) (k * 2 + 1) = nI l ∧ m.2.1 41 (150 * 0 + k) = nI l ∧ ∀ i, i < l → c.2.1 (b + 9) (p + i) = m.2.1 40 (2400 * 0 + 16 * k + i)
set_option maxHeartbeats 400000 in
theorem q_addBytes {N b p nb L : Nat} {c0 : zS} (hb : zBk b) (v4 : Int32) (hp : p + L ≤ 3000) (hnb : nb + L ≤ 3000) (hN : L < N) (h0 : c0.1 (100 * b + 5) = nI nb) : zp (fX0_addName_L37 N b 5 (nI p) (nI L) N v4 (nI p) c0) (fun q => ∃ t, q = .inr (v4, t) ∧ zeq [100 * b + 5] [b + 9] c0 t ∧ t.1 (100 * b + 5) = nI (nb + L) ∧ (∀ x, x < nb → t.2.1 (b + 9) x = c0.2.1 (b + 9) x) ∧ ∀ i, i < L → t.2.1 (b + 9) (nb + i) = c0.2.1 5 (p + i)) := by
  have hbb := zb_lt hb
  have n5 : (5 : Nat) ≠ b + 9 := by omega
  refine zlp2 (S := fX0_addName_L37S N b 5 (nI p) (nI L)) (fun a1 a2 t => a1 = v4 ∧ ∃ i, i ≤ L ∧ a2 = nI (p + i) ∧ zeq [100 * b + 5] [b + 9] c0 t ∧ t.1 (100 * b + 5) = nI (nb + i) ∧ (∀ x, x < nb → t.2.1 (b + 9) x = c0.2.1 (b + 9) x) ∧ ∀ j, j < i → t.2.1 (b + 9) (nb + j) = c0.2.1 5 (p + j)) (fun _ a2 _ => p + L - a2.toNatClampNeg) _ ?_ N v4 (nI p) c0 ⟨rfl, 0, Nat.zero_le _, rfl, zeq_refl _ _ _, h0, fun _ _ => rfl, fun j hj => absurd hj (Nat.not_lt_zero _)⟩ (by rw [nI_clamp (by omega)]; omega)
  intro rec a1 a2 t hI hr
  obtain ⟨rfl, i, h1, rfl, h2, h3, h4, h5⟩ := hI
  rw [nI_clamp (by omega)] at hr
  unfold fX0_addName_L37S
  rw [nI_add]
  by_cases c : i < L
  · refine zp_neg (nI_ge (by omega) (by omega)) (zp_neg (nI_pos (by omega)) (zp_neg (nI_ge (show p + i < 3000 by omega) (by decide)) (zp_pos (zga_n (show p + i < 3000 by omega) (by decide)) ?_)))
    rw [nI_clamp (by omega), h2.2.1 5 (by simp)]
    have e : fX0_addByte N b (c0.2.1 5 (p + i)) t = some ((), zsc (zsr t (b + 9) (nI (nb + i)) (c0.2.1 5 (p + i))) (100 * b + 5) (nI (nb + i + 1))) := by
      unfold fX0_addByte
      rw [h3, (zlen_b hb).2.2.2.2, if_neg (nI_ge (show nb + i < 3000 by omega) (by decide)), if_pos (zga_n (show nb + i < 3000 by omega) (by decide)), nI_1]
    refine zp_bne e ?_
    rw [nI_1]
    refine hr _ _ _ ⟨rfl, i + 1, by omega, rfl, zeq_trans h2 (zeq_trans (zeq_r (List.mem_singleton.mpr rfl)) (zeq_c (List.mem_singleton.mpr rfl))), zsc_at, fun x hx => ?_, fun j hj => ?_⟩ (by rw [nI_clamp (by omega)]; omega)
    · show (zsr t (b + 9) (nI (nb + i)) _).2.1 (b + 9) x = _
      rw [zsr_n (by omega) (by omega)]
      exact h4 x hx
    · show (zsr t (b + 9) (nI (nb + i)) _).2.1 (b + 9) (nb + j) = _
      by_cases ej : j = i
      · subst ej
        rw [zsr_a (by omega)]
      · rw [zsr_n (by omega) (by omega)]
        exact h5 j (by omega)
  · have e : i = L := by omega
    subst e
    exact zp_pos (nI_le (Nat.le_refl _) (by omega)) (zp_some ⟨_, rfl, h2, h3, h4, h5⟩)
set_option maxHeartbeats 400000 in
theorem q_addName {N b p nb L n3 : Nat} {c : zS} (hb : zBk b) (hT : zTbl c) (h3 : c.1 (100 * (b + 7) + 3) = nI n3) (hn3 : n3 < 150) (h5 : c.1 (100 * b + 5) = nI nb) (hp : p + L ≤ 3000) (hnb : nb + L ≤ 3000) (hL : L ≤ 16) (hN : 20 ≤ N) : ∃ c', fX0_addName N b 5 (nI p) (nI L) c = some (nI n3, c') ∧ zeq [100 * (b + 7) + 3, 100 * b + 5] [b + 8, b + 9] c c' ∧ c'.1 (100 * (b + 7) + 3) = nI (n3 + 1) ∧ c'.1 (100 * b + 5) = nI (nb + L) ∧ (∀ x, x < n3 * 2 → c'.2.1 (b + 8) x = c.2.1 (b + 8) x) ∧ c'.2.1 (b + 8) (n3 * 2 + 0) = nI nb ∧ c'.2.1 (b + 8) (n3 * 2 + 1) = nI L ∧ (∀ x, x < nb → c'.2.1 (b + 9) x = c.2.1 (b + 9) x) ∧ ∀ i, i < L → c'.2.1 (b + 9) (nb + i) = c.2.1 5 (p + i) := by
  have hbb := zb_lt hb
  obtain ⟨-, -, -, w1, w2⟩ := hT.2.2 b hb
  obtain ⟨q, eq, g1, g2, g3, g4, g5⟩ := q_addRow (N := N) (a := b + 7) (w := 2) (n := n3) (m := 150) (L := 300) w1 w2 h3 (zlen_b hb).2.2.2.1 hn3 (by omega) (by omega) (by omega) (by omega) hN
  have eq' : fX6_addRow N (b + 7) c = some (q.1, q.2) := eq
  have f1 : q.2.1 (100 * (b + 7) + 1) = nI 2 := (g2.1 _ (by simp)).trans w1
  have f5 : q.2.1 (100 * b + 5) = nI nb := (g2.1 _ (by simp; omega)).trans h5
  have s0 := q_setCell (N := N) (a := b + 7) (w := 2) (n := n3 + 1) (k := n3) (j := 0) (L := 300) (s := q.2) (p2 := nI nb) f1 g3 (zlen_b hb).2.2.2.1 (by omega) (by omega) (by omega) (by omega) (by omega) (by omega)
  have s1 := q_setCell (N := N) (a := b + 7) (w := 2) (n := n3 + 1) (k := n3) (j := 1) (L := 300) (s := zsr q.2 (b + 7 + 1) (nI (n3 * 2 + 0)) (nI nb)) (p2 := nI L) f1 g3 (zlen_b hb).2.2.2.1 (by omega) (by omega) (by omega) (by omega) (by omega) (by omega)
  obtain ⟨c2, hc2⟩ : ∃ c2, c2 = zsr (zsr q.2 (b + 8) (nI (n3 * 2)) (nI nb)) (b + 8) (nI (n3 * 2 + 1)) (nI L) := ⟨_, rfl⟩
  have z2 : zeq [100 * (b + 7) + 3] [b + 8] c c2 := by
    rw [hc2]
    exact zeq_trans g2 (zeq_trans (zeq_r (List.mem_singleton.mpr rfl)) (zeq_r (List.mem_singleton.mpr rfl)))
  have c25 : c2.1 (100 * b + 5) = nI nb := by rw [hc2]; exact f5
  obtain ⟨r, er, t, rfl, t1, t2, t3, t4⟩ := q_addBytes (N := N) (b := b) (p := p) (nb := nb) (L := L) (c0 := c2) hb (nI n3) hp hnb (by omega) c25
  have a8 : t.2.1 (b + 8) = c2.2.1 (b + 8) := t1.2.1 _ (by simp)
  have c8 : ∀ x, c2.2.1 (b + 8) x = if x = n3 * 2 + 1 then nI L else if x = n3 * 2 then nI nb else q.2.2.1 (b + 8) x := by
    intro x
    rw [hc2]
    exact zsr2 (by omega)
  refine ⟨t, ?_, zeq_trans (zeq_mono z2 (by simp) (by simp)) (zeq_mono t1 (by simp) (by simp)), ?_, t2, fun x hx => ?_, ?_, ?_, fun x hx => ?_, fun i hi => ?_⟩
  · unfold fX0_addName
    rw [eq', zbn_s, g1, f5, show (0 : Int32) = nI 0 from rfl, s0, zbn_s, show (1 : Int32) = nI 1 from rfl, s1, zbn_s]
    have er' : fX0_addName_L37 N b 5 (nI p) (nI L) N (nI n3) (nI p) (zsr (zsr q.2 (b + 7 + 1) (nI (n3 * 2 + 0)) (nI nb)) (b + 7 + 1) (nI (n3 * 2 + 1)) (nI L)) = some (.inr (nI n3, t)) := by
      rw [hc2] at er
      exact er
    rw [er']
    rfl
  · rw [t1.1 _ (by simp; omega), hc2]
    exact g3
  · rw [a8, c8, if_neg (by omega), if_neg (by omega)]
    exact g4 x hx
  · rw [a8, c8, if_neg (by omega), if_pos (by omega)]
  · rw [a8, c8, if_pos rfl]
  · rw [t3 x hx, z2.2.1 _ (by simp)]
  · rw [t4 i hi, z2.2.1 5 (by simp)]
set_option maxHeartbeats 400000 in
theorem q_isName {N n p L k : Nat} {T : Nat → Nat} {m : zS} (h : zTx 35 3303 T n m) (hp : m.1 3317 = nI p) (he : m.1 3318 = nI (p + L)) (hen : p + L ≤ n) (hL : L ≤ 16) (hk : k < 150) (hN : 20 ≤ N) : ∃ fl : Int32, fX10_isName N (nI k) 0 m = some (fl, m) ∧ ((fl = 1 ∧ zNmN m 0 35 p L k) ∨ (fl = 0 ∧ ¬ zNmN m 0 35 p L k)) := by
  have hn := h.2.1
  have e0 : 150 * 0 + nI k = nI (150 * 0 + k) := by
    show nI 150 * nI 0 + nI k = _
    rw [pk_mul, nI_add]
  have eL : m.1 3318 - m.1 3317 = nI L := by
    rw [hp, he, pk_sub (by omega), Nat.add_sub_cancel_left]
  unfold fX10_isName
  rw [eL, e0, if_pos (zga_l (by rfl) (show 150 * 0 + k < 300 by omega) (by decide)), nI_clamp (by omega)]
  by_cases c : m.2.1 41 (150 * 0 + k) = nI L
  · rw [if_pos c]
    have hl : zp (fX10_isName_L28 N (nI k) 0 N (nI 0) m) (fun q => (q = .inr m ∧ ∀ i, i < L → m.2.1 40 (2400 * 0 + 16 * k + i) = m.2.1 35 (p + i)) ∨ (q = .inl (0, m) ∧ ¬ ∀ i, i < L → m.2.1 40 (2400 * 0 + 16 * k + i) = m.2.1 35 (p + i))) := by
      refine zfor1 (S := fX10_isName_L28S N (nI k) 0) 0 L (fun v t => t = m ∧ ∀ i, i < v → m.2.1 40 (2400 * 0 + 16 * k + i) = m.2.1 35 (p + i)) _ ?_ N m (by omega) (by omega) ⟨rfl, fun i hi => absurd hi (Nat.not_lt_zero _)⟩
      intro rec v t h1 h2 hI hr
      obtain ⟨rfl, hI⟩ := hI
      unfold fX10_isName_L28S
      rw [eL]
      by_cases cv : v < L
      · have e1 : 2400 * 0 + 16 * nI k + nI v = nI (2400 * 0 + 16 * k + v) := by
          show nI 2400 * nI 0 + nI 16 * nI k + nI v = _
          rw [pk_mul, pk_mul, nI_add, nI_add]
        rw [e1, hp, nI_add, nI_clamp (show 2400 * 0 + 16 * k + v < 2 ^ 31 by omega), nI_clamp (show p + v < 2 ^ 31 by omega)]
        refine zp_neg (nI_ge cv (by omega)) (zp_pos (zga_n (show 2400 * 0 + 16 * k + v < 4800 by omega) (by decide)) (zp_pos (zga_n (show p + v < 3000 by omega) (by decide)) (zp_if (fun q => ?_) (fun q => ?_))))
        · rw [nI_1]
          refine hr cv t ⟨rfl, fun i hi => ?_⟩
          by_cases e : i = v
          · subst e; exact q
          · exact hI i (by omega)
        · exact zp_some (Or.inr ⟨rfl, fun z => q (z v cv)⟩)
      · have e : v = L := by omega
        subst e
        exact zp_pos (nI_le (Nat.le_refl _) (by omega)) (zp_some (Or.inl ⟨rfl, hI⟩))
    obtain ⟨q, eq, hq⟩ := hl
    have eq' : fX10_isName_L28 N (nI k) 0 N 0 m = some q := eq
    rw [eq']
    rcases hq with ⟨rfl, hq⟩ | ⟨rfl, hq⟩
    · exact ⟨1, rfl, Or.inl ⟨rfl, c, hq⟩⟩
    · exact ⟨0, rfl, Or.inr ⟨rfl, fun z => hq z.2⟩⟩
  · rw [if_neg c]
    exact ⟨0, rfl, Or.inr ⟨rfl, fun z => c z.1⟩⟩
set_option maxHeartbeats 400000 in
theorem q_number {N n p L n3 : Nat} {T : Nat → Nat} {m : zS} (h : zTx 35 3303 T n m) (hp : m.1 3317 = nI p) (he : m.1 3318 = nI (p + L)) (hen : p + L ≤ n) (hL : L ≤ 16) (h3 : m.2.1 36 3 = nI n3) (hn3 : n3 ≤ 150) (hN : 200 ≤ N) : (∃ k, k < n3 ∧ zFst (zNmN m 0 35 p L) n3 (nI k) ∧ fX10_number N m = some (nI k, m)) ∨ (zFst (zNmN m 0 35 p L) n3 (-1) ∧ n3 = 150 ∧ fX10_number N m = some ((-1), m)) ∨ (zFst (zNmN m 0 35 p L) n3 (-1) ∧ n3 < 150 ∧ ∃ m', fX10_number N m = some (nI n3, m') ∧ zeq [] [36, 40, 41] m m' ∧ zFM m m' ∧ m'.2.1 36 3 = nI (n3 + 1) ∧ (∀ j, j ≠ 3 → m'.2.1 36 j = m.2.1 36 j) ∧ (∀ k, k < n3 → m'.2.1 41 (150 * 0 + k) = m.2.1 41 (150 * 0 + k)) ∧ m'.2.1 41 (150 * 0 + n3) = nI L ∧ (∀ k i, k < n3 → i < 16 → m'.2.1 40 (2400 * 0 + 16 * k + i) = m.2.1 40 (2400 * 0 + 16 * k + i)) ∧ ∀ i, i < L → m'.2.1 40 (2400 * 0 + 16 * n3 + i) = m.2.1 35 (p + i)) := by
  have hn := h.2.1
  have g3 : (3 : Int32).toNatClampNeg = 3 := by decide
  have z3 : zga 3 (zlen 36) = true := by decide +kernel
  have eL : m.1 3318 - m.1 3317 = nI L := by
    rw [hp, he, pk_sub (by omega), Nat.add_sub_cancel_left]
  have hl : zp (fX10_number_L2 N N (nI 0) m) (fun q => (∃ k, k < n3 ∧ q = .inl (nI k, m) ∧ zFst (zNmN m 0 35 p L) n3 (nI k)) ∨ (q = .inr m ∧ zFst (zNmN m 0 35 p L) n3 (-1))) := by
    refine zfor1 (S := fX10_number_L2S N) 0 n3 (fun v t => t = m ∧ ∀ j, j < v → ¬ zNmN m 0 35 p L j) _ ?_ N m (by omega) (by omega) ⟨rfl, fun i hi => absurd hi (Nat.not_lt_zero _)⟩
    intro rec v t h1 h2 hI hr
    obtain ⟨rfl, hI⟩ := hI
    unfold fX10_number_L2S
    rw [g3, h3]
    refine zp_pos z3 ?_
    by_cases cv : v < n3
    · refine zp_neg (nI_ge cv (by omega)) ?_
      obtain ⟨fl, q1, q2⟩ := q_isName (N := N) (k := v) h hp he hen hL (by omega) (by omega)
      refine zp_bne q1 ?_
      rcases q2 with ⟨rfl, q2⟩ | ⟨rfl, q2⟩
      · exact zp_neg (by decide) (zp_some (Or.inl ⟨v, cv, rfl, Or.inr ⟨v, cv, rfl, q2, hI⟩⟩))
      · refine zp_pos rfl ?_
        rw [nI_1]
        refine hr cv t ⟨rfl, fun j hj => ?_⟩
        by_cases e : j = v
        · subst e; exact q2
        · exact hI j (by omega)
    · have e : v = n3 := by omega
      subst e
      exact zp_pos (nI_le (Nat.le_refl _) (by omega)) (zp_some (Or.inr ⟨rfl, Or.inl ⟨rfl, hI⟩⟩))
  obtain ⟨q, eq, hq⟩ := hl
  have eq' : fX10_number_L2 N N 0 m = some q := eq
  unfold fX10_number
  rw [eq']
  rcases hq with ⟨k, hk, rfl, hq⟩ | ⟨rfl, hq⟩
  · exact Or.inl ⟨k, hk, hq, rfl⟩
  rw [zbl_r, g3, h3, if_pos z3]
  by_cases c150 : n3 = 150
  · rw [if_pos (show nI n3 = 150 by rw [c150]; rfl)]
    exact Or.inr (Or.inl ⟨hq, c150, rfl⟩)
  rw [if_neg (show ¬ nI n3 = (150 : Int32) from fun z => c150 ((nI_eq (b := 150) (by omega) (by decide)).mp z)), if_pos z3, if_pos (zga_l (by rfl) (show n3 < 300 by omega) (by decide)), eL]
  refine Or.inr (Or.inr ⟨hq, by omega, ?_⟩)
  obtain ⟨m1, hm1⟩ : ∃ m1, m1 = zsr m 41 (nI n3) (nI L) := ⟨_, rfl⟩
  rw [← hm1]
  have z1 : zeq [] [41] m m1 := by rw [hm1]; exact zeq_r (List.mem_singleton.mpr rfl)
  have hloop : zp (fX10_number_L67 N N (nI n3) (nI 0) m1) (fun q => ∃ t, q = .inr (nI n3, t) ∧ zeq [] [40] m1 t ∧ (∀ x, x < 16 * n3 ∨ 16 * n3 + 16 ≤ x → t.2.1 40 x = m.2.1 40 x) ∧ ∀ i, i < L → t.2.1 40 (16 * n3 + i) = m.2.1 35 (p + i)) := by
    refine zlp2 (S := fX10_number_L67S N) (fun a1 a2 t => a1 = nI n3 ∧ ∃ i, i ≤ L ∧ a2 = nI i ∧ zeq [] [40] m1 t ∧ (∀ x, x < 16 * n3 ∨ 16 * n3 + 16 ≤ x → t.2.1 40 x = m.2.1 40 x) ∧ ∀ j, j < i → t.2.1 40 (16 * n3 + j) = m.2.1 35 (p + j)) (fun _ a2 _ => L - a2.toNatClampNeg) _ ?_ N (nI n3) (nI 0) m1 ⟨rfl, 0, Nat.zero_le _, rfl, zeq_refl _ _ _, fun x _ => by rw [z1.2.1 40 (by decide)], fun j hj => absurd hj (Nat.not_lt_zero _)⟩ (by rw [nI_clamp (by omega)]; omega)
    intro rec a1 a2 t hI hr
    obtain ⟨rfl, i, h1, rfl, h2, h4, h5⟩ := hI
    rw [nI_clamp (by omega)] at hr
    unfold fX10_number_L67S
    have e17 : t.1 3317 = nI p := (h2.1 _ List.not_mem_nil).trans ((z1.1 _ List.not_mem_nil).trans hp)
    have e18 : t.1 3318 = nI (p + L) := (h2.1 _ List.not_mem_nil).trans ((z1.1 _ List.not_mem_nil).trans he)
    have e35 : t.2.1 35 = m.2.1 35 := (h2.2.1 35 (by decide)).trans (z1.2.1 35 (by decide))
    have eL' : t.1 3318 - t.1 3317 = nI L := by
      rw [e17, e18, pk_sub (by omega), Nat.add_sub_cancel_left]
    rw [eL']
    by_cases c : i < L
    · have ea : 16 * nI n3 + nI i = nI (16 * n3 + i) := by
        show nI 16 * nI n3 + nI i = _
        rw [pk_mul, nI_add]
      rw [e17, nI_add, ea, nI_clamp (show p + i < 2 ^ 31 by omega), e35]
      refine zp_neg (nI_ge c (by omega)) (zp_pos (zga_n (show p + i < 3000 by omega) (by decide)) (zp_pos (zga_n (show 16 * n3 + i < 4800 by omega) (by decide)) ?_))
      rw [nI_1]
      refine hr _ _ _ ⟨rfl, i + 1, by omega, rfl, zeq_trans h2 (zeq_r (List.mem_singleton.mpr rfl)), fun x hx => ?_, fun j hj => ?_⟩ (by rw [nI_clamp (by omega)]; omega)
      · rw [zsr_n (by omega) (by omega)]
        exact h4 x hx
      · by_cases ej : j = i
        · subst ej
          rw [zsr_a (by omega)]
        · rw [zsr_n (by omega) (by omega)]
          exact h5 j (by omega)
    · have e : i = L := by omega
      subst e
      exact zp_pos (nI_le (Nat.le_refl _) (by omega)) (zp_some ⟨_, rfl, h2, h4, h5⟩)
  obtain ⟨q2, eq2, t, rfl, t1, t2, t3⟩ := hloop
  have eq2' : fX10_number_L67 N N (nI n3) 0 m1 = some (.inr (nI n3, t)) := eq2
  have t36 : t.2.1 36 = m.2.1 36 := (t1.2.1 36 (by decide)).trans (z1.2.1 36 (by decide))
  have t41 : t.2.1 41 = m1.2.1 41 := t1.2.1 41 (by decide)
  rw [eq2', zbl_r]
  refine ⟨zsr t 36 3 (nI (n3 + 1)), ?_, zeq_trans (zeq_mono z1 (fun _ h => absurd h List.not_mem_nil) (by decide)) (zeq_trans (zeq_mono t1 (fun _ h => absurd h List.not_mem_nil) (by decide)) (zeq_r (by decide))), ?_, ?_, fun j hj => ?_, fun k hk => ?_, ?_, fun k i hk hi => ?_, fun i hi => ?_⟩
  · show (if zga 3 (zlen 36) = true then if zga 3 (zlen 36) = true then some (nI n3, zsr t 36 3 (t.2.1 36 (3 : Int32).toNatClampNeg + 1)) else none else none) = _
    rw [if_pos z3, if_pos z3, g3, t36, h3, nI_1]
  · have f1 : zFM m m1 := by
      rw [hm1]
      exact zFM_r (by decide) (by omega) (fun h => absurd h (by decide)) (fun h => absurd h (by decide)) (fun h => absurd h (by decide)) (fun h => absurd h (by decide)) (fun h => absurd h (by decide)) (fun _ => by omega) (fun h => absurd h (by decide)) (fun h => absurd h (by decide))
    have f2 : zFM m1 t := by
      have e : ∀ a, a ≠ 40 → t.2.1 a = m1.2.1 a := fun a h1 => t1.2.1 a (by simp [h1])
      refine ⟨zeq_mono t1 (fun _ h => absurd h List.not_mem_nil) (by decide), fun k => ?_⟩
      rw [e 36 (by decide), e 37 (by decide), e 38 (by decide), e 39 (by decide), e 41 (by decide), e 42 (by decide), e 49 (by decide)]
      refine ⟨fun _ => rfl, fun _ => rfl, fun _ => rfl, fun _ => rfl, fun hk => ?_, fun _ => rfl, fun _ => rfl, fun _ => rfl⟩
      rw [t2 k (Or.inr (by omega)), z1.2.1 40 (by decide)]
    exact zFM_trans f1 (zFM_trans f2 (zFM_r (i := 3) (by decide) (by omega) (fun _ => by omega) (fun h => absurd h (by decide)) (fun h => absurd h (by decide)) (fun h => absurd h (by decide)) (fun h => absurd h (by decide)) (fun h => absurd h (by decide)) (fun h => absurd h (by decide)) (fun h => absurd h (by decide))))
  · rw [zsr_same, g3, pk_us]
  · rw [zsr_same, g3, pk_un hj, t36]
  · rw [zsr_o (show (41 : Nat) ≠ 36 by decide), t41, hm1, zsr_n (by omega) (by omega)]
  · rw [zsr_o (show (41 : Nat) ≠ 36 by decide), t41, hm1, show 150 * 0 + n3 = n3 by omega, zsr_a (by omega)]
  · rw [zsr_o (show (40 : Nat) ≠ 36 by decide), t2 _ (Or.inl (by omega))]
  · rw [zsr_o (show (40 : Nat) ≠ 36 by decide), show 2400 * 0 + 16 * n3 + i = 16 * n3 + i by omega, t3 i hi]
