set_option maxHeartbeats 400000 in
theorem zW_nm {T : Nat → Nat} {n k : Nat} {w : Nat × Int32 × Nat × Nat} (h : zWk T n k w) (hk : w.1 = 1 ∨ w.1 = 2) : k ≤ w.2.2.1 ∧ w.2.2.1 < w.2.2.2 ∧ w.2.2.2 ≤ n ∧ w.2.2.2 - w.2.2.1 ≤ 16 ∧ w.2.1 = nI (w.2.2.2 - w.2.2.1) := by
  rcases h with ⟨g1, -⟩ | ⟨g1, -⟩ | ⟨g1, g2, g3, g4⟩
  · omega
  · omega
  · have g5 := g4.resolve_right (by
      rintro (⟨q, -⟩ | ⟨q, -⟩ | ⟨q, -⟩ | ⟨q, -⟩ | ⟨q, -⟩ | ⟨q, -⟩) <;> omega)
    exact ⟨g1, g2, g3, g5.2.1, g5.2.2.1⟩
set_option maxHeartbeats 400000 in
theorem p_name {N n b L i n3 nb : Nat} {T : Nat → Nat} {c m : zS} (hc : zPC T n b L i c) (hm : zPM T n i m) (hL : L ≤ n) (hi : i ≤ L) (hW : zWk T n (zps T n i) (zw T n i)) (hk : (zw T n i).1 = 1 ∨ (zw T n i).1 = 2) (hN3 : zPN b n3 nb c m) (hnb : nb ≤ 2900) (hN : 200 ≤ N) : (∃ k n3' nb' c' m', fX3_nameNumber N c = some (some (nI k), c') ∧ fX10_number N m = some (nI k, m') ∧ k < n3' ∧ n3 ≤ n3' ∧ nb ≤ nb' ∧ nb' ≤ nb + ((zw T n i).2.2.2 - (zw T n i).2.2.1) ∧ zPN b n3' nb' c' m' ∧ c'.2.1 (b + 8) (k * 2 + 1) = nI ((zw T n i).2.2.2 - (zw T n i).2.2.1) ∧ zeq [100 * (b + 7) + 3, 100 * b + 5] [b + 8, b + 9] c c' ∧ (∀ x, x < n3 * 2 → c'.2.1 (b + 8) x = c.2.1 (b + 8) x) ∧ (∀ x, x < nb → c'.2.1 (b + 9) x = c.2.1 (b + 9) x) ∧ zeq [] [36, 40, 41] m m' ∧ zFM m m' ∧ ∀ j, j ≠ 3 → m'.2.1 36 j = m.2.1 36 j) ∨ (∃ c', fX3_nameNumber N c = some (none, c') ∧ fX10_number N m = some ((-1), m) ∧ zeq [309, 310] [] c c' ∧ c'.1 309 = nI 8 ∧ c'.1 310 = nI (zw T n i).2.2.1) := by
  have hc0 := hc
  obtain ⟨hb, g1, g2, g3, g4, g5, g6, g7, g8⟩ := hc
  have hn := g3.2.1
  have hbb := zb_lt hb
  obtain ⟨w1, w2, w3, w4, w5⟩ := zW_nm hW hk
  obtain ⟨p, hp⟩ : ∃ p, p = (zw T n i).2.2.1 := ⟨_, rfl⟩
  obtain ⟨l, hl⟩ : ∃ l, l = (zw T n i).2.2.2 - (zw T n i).2.2.1 := ⟨_, rfl⟩
  rw [← hp] at g8
  have hval : fX8_valueOf N (nI i) c = some (nI l, c) := by
    unfold fX8_valueOf
    rw [(zcell_w hc0 i hi hL).2.2, w5, ← hl]
    rfl
  obtain ⟨n3a, n3b, n3c, n3d, n3e⟩ := hN3
  obtain ⟨q, eq, q1, q2⟩ := q_findName (N := N) (p0 := 5) (fr := p) (len := l) (nb := nb) hb c (g2.2.2 b hb).2.2.2.1 n3b n3a (by omega) (fun k hk => by
    obtain ⟨p, l, a1, a2, a3, a4, a5, -⟩ := n3e k hk
    exact ⟨p, l, a1, a2, a3, a4, a5⟩) (show p + l ≤ 3000 by omega) (by decide) hN
  have eq' : fX0_findName N b 5 (nI p) (nI l) c = some (q.1, q.2) := eq
  rw [q1] at eq'
  have hsk : zMs (zw T n i).1 = 1 := by
    rcases hk with hk | hk <;> rw [hk] <;> rfl
  obtain ⟨m1, m2, m3⟩ := hm
  have hto : m.1 3318 = nI (p + l) := (m2.2.2.1 (by omega)).trans (by rw [if_neg (by omega)]; exact congrArg nI (by omega))
  have hiff : ∀ k, k < n3 → (zNmM c b 5 p l k ↔ zNmN m 0 35 p l k) := by
    intro k hk
    obtain ⟨p2, l2, f1, f2, f3, f4, f5, f6, f7⟩ := n3e k hk
    unfold zNmM zNmN
    rw [f4, f5, f6, nI_clamp (by omega)]
    have ht : ∀ x, x < l → c.2.1 5 (p + x) = m.2.1 35 (p + x) := fun x hx => (g3.2.2 (p + x) (by omega)).2.trans (m1.2.2 (p + x) (by omega)).2.symm
    refine ⟨fun h => ⟨h.1, fun x hx => ?_⟩, fun h => ⟨h.1, fun x hx => ?_⟩⟩
    · have hl2 : l2 = l := (nI_eq (by omega) (by omega)).mp h.1
      rw [← f7 x (by omega), h.2 x hx, ht x hx]
    · have hl2 : l2 = l := (nI_eq (by omega) (by omega)).mp h.1
      rw [f7 x (by omega), h.2 x hx, ht x hx]
  have hcls : fX3_nameNumber N c = (if q.1 = (-1) then if zBk b then zbn (fX6_isFull N (b + 7) c) (fun x9 s10 => if x9 = 0 then if zBk (s10.2.2.1 302) then zbn (fX0_addName N (s10.2.2.1 302) 5 (s10.1 305) (nI l) s10) (fun x13 s14 => some (some x13, s14)) else none else zbt (fX3_refuse N 8 s10) (fun sx => some (none, sx)) (fun x16 s17 => if zBk (s17.2.2.1 302) then zbn (fX0_addName N (s17.2.2.1 302) 5 (s17.1 305) (nI l) s17) (fun x20 s21 => some (some x20, s21)) else none)) else none else some (some q.1, c)) := by
    unfold fX3_nameNumber
    rw [g6, hval, zbn_s, g1, if_pos hb, g8, eq', zbn_s, g1]
  have full : fX6_isFull N (b + 7) c = if n3 < 150 then some (0, c) else some (1, c) := by
    unfold fX6_isFull
    rw [n3b, (g2.2.2 b hb).2.2.2.2]
    by_cases c9 : n3 < 150
    · rw [if_pos (nI_lt c9 (by decide)), if_pos c9]
    · rw [if_neg (nI_nlt (by omega) (by omega)), if_neg c9]
  rw [← hl, ← hp, hcls]
  rcases q_number (N := N) (p := p) (L := l) m1 (by rw [m2.2.1, ← hp]) hto (by omega) (by omega) n3c n3a hN with ⟨k, k1, k2, k3⟩ | ⟨k2, k1, k3⟩ | ⟨k2, k1, m', k3, k4, k5, k6, k7, k8, k9, k10, k11⟩
  · have ex : q.1 = nI k := zFst_unique hiff q2 k2
    have hne : ∀ k, k < 150 → ¬ nI k = (-1) := by decide +kernel
    rw [ex, if_neg (hne k (by omega))]
    have hMk : zNmM c b 5 p l k := by
      rcases q2 with ⟨z, -⟩ | ⟨k', z1, z2, z3, -⟩
      · exact absurd (ex.symm.trans z) (hne k (by omega))
      · have : k = k' := (nI_eq (by omega) (by omega)).mp (ex.symm.trans z2)
        rw [this]; exact z3
    exact Or.inl ⟨k, n3, nb, c, m, rfl, k3, k1, Nat.le_refl _, Nat.le_refl _, by omega, ⟨n3a, n3b, n3c, n3d, n3e⟩, hMk.1, zeq_refl _ _ _, fun _ _ => rfl, fun _ _ => rfl, zeq_refl _ _ _, zFM_refl _, fun _ _ => rfl⟩
  · have ex : q.1 = (-1) := zFst_unique hiff q2 k2
    rw [ex, if_pos rfl, if_pos hb, full, if_neg (by omega), zbn_s]
    refine Or.inr ⟨zsc (zsc c 309 8) 310 (c.1 305), rfl, k3, zeq_trans (zeq_c (by decide)) (zeq_c (by decide)), (zsc_ne (by decide)).trans zsc_at, zsc_at.trans g8⟩
  · have ex : q.1 = (-1) := zFst_unique hiff q2 k2
    obtain ⟨c', d1, d2, d3, d4, d5, d6, d7, d8, d9⟩ := q_addName (N := N) (p := p) (L := l) hb g2 n3b k1 n3d (by omega) (by omega) (by omega) (by omega)
    rw [ex, if_pos rfl, if_pos hb, full, if_pos k1, zbn_s, if_pos rfl, g1, if_pos hb, g8, d1, zbn_s]
    refine Or.inl ⟨n3, n3 + 1, nb + l, c', m', rfl, k3, by omega, by omega, by omega, by omega, ⟨by omega, d3, k6, d4, fun k hk => ?_⟩, d7, d2, d5, d8, k4, k5, k7⟩
    by_cases e : k = n3
    · subst e
      refine ⟨nb, l, by omega, by omega, Nat.le_refl _, d6, d7, k9, fun x hx => ?_⟩
      rw [d9 x hx, k11 x hx]
      exact (g3.2.2 (p + x) (by omega)).2.trans (m1.2.2 (p + x) (by omega)).2.symm
    · obtain ⟨p2, l2, f1, f2, f3, f4, f5, f6, f7⟩ := n3e k (by omega)
      refine ⟨p2, l2, f1, f2, by omega, ?_, ?_, ?_, fun x hx => ?_⟩
      · rw [d5 _ (by omega)]; exact f4
      · rw [d5 _ (by omega)]; exact f5
      · rw [k8 k (by omega)]; exact f6
      · rw [d8 _ (by omega), k10 k x (by omega) (by omega)]; exact f7 x hx
