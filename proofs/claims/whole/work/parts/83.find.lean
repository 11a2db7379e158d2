def zNmM (s : zS) (b p0 fr len k : Nat) : Prop := s.2.1 (b + 8) (k * 2 + 1) = nI len ∧ ∀ i, i < len → s.2.1 (b + 9) ((s.2.1 (b + 8) (k * 2 + 0)).toNatClampNeg + i) = s.2.1 p0 (fr + i)
def zFst (M : Nat → Prop) (n : Nat) (x : Int32) : Prop := (x = (-1) ∧ ∀ k, k < n → ¬ M k) ∨ ∃ k, k < n ∧ x = nI k ∧ M k ∧ ∀ j, j < k → ¬ M j
theorem zFst_unique {M M' : Nat → Prop} {n : Nat} {x y : Int32} (hM : ∀ k, k < n → (M k ↔ M' k)) (hx : zFst M n x) (hy : zFst M' n y) : x = y := by
  rcases hx with ⟨rfl, h1⟩ | ⟨k, hk, rfl, h1, h2⟩
  · rcases hy with ⟨rfl, -⟩ | ⟨j, hj, rfl, g1, g2⟩
    · rfl
    · exact absurd ((hM j hj).mpr g1) (h1 j hj)
  · rcases hy with ⟨rfl, g1⟩ | ⟨j, hj, rfl, g1, g2⟩
    · exact absurd ((hM k hk).mp h1) (g1 k hk)
    · rcases Nat.lt_trichotomy k j with h | h | h
      · exact absurd ((hM k hk).mp h1) (g2 k h)
      · rw [h]
      · exact absurd ((hM j hj).mpr g1) (h2 j h)
theorem q_find97 {N b p0 fr len p : Nat} (hb : zBk b) (v4 : Int32) (s : zS) (hp : p + len ≤ 3000) (hf : fr + len ≤ zlen p0) (hz : zlen p0 < 2 ^ 30) (hN : len < N) : zp (fX0_findName_L97 N b p0 (nI fr) (nI len) N v4 (nI p) 1 0 s) (fun q => ∃ fl, q = .inr (v4, fl, s) ∧ ((fl = 1 ∧ ∀ i, i < len → s.2.1 (b + 9) (p + i) = s.2.1 p0 (fr + i)) ∨ (fl = 0 ∧ ¬ ∀ i, i < len → s.2.1 (b + 9) (p + i) = s.2.1 p0 (fr + i)))) := by
  refine zlp4 (S := fX0_findName_L97S N b p0 (nI fr) (nI len)) (fun a1 a2 a3 a4 t => a1 = v4 ∧ a2 = nI p ∧ t = s ∧ ∃ i : Nat, i ≤ len ∧ a4 = nI i ∧ ((a3 = 1 ∧ ∀ k, k < i → s.2.1 (b + 9) (p + k) = s.2.1 p0 (fr + k)) ∨ (a3 = 0 ∧ ¬ ∀ i, i < len → s.2.1 (b + 9) (p + i) = s.2.1 p0 (fr + i)))) (fun _ _ _ a4 _ => len - a4.toNatClampNeg) _ ?_ N v4 (nI p) 1 0 s ⟨rfl, rfl, rfl, 0, Nat.zero_le _, rfl, Or.inl ⟨rfl, fun k hk => absurd hk (Nat.not_lt_zero _)⟩⟩ (by
    show len - (nI 0).toNatClampNeg < N
    rw [nI_clamp (by decide)]
    exact hN)
  intro rec a1 a2 a3 a4 t hI hr
  obtain ⟨rfl, rfl, rfl, i, hi, rfl, hd⟩ := hI
  unfold fX0_findName_L97S
  rw [nI_clamp (show i < 2 ^ 31 by omega)] at hr
  by_cases c : i < len
  · refine zp_neg (nI_ge c (by omega)) ?_
    rcases hd with ⟨rfl, hd⟩ | ⟨rfl, hd⟩
    · refine zp_neg (by decide) ?_
      rw [nI_add, nI_add, nI_clamp (show p + i < 2 ^ 31 by omega), nI_clamp (show fr + i < 2 ^ 31 by omega), (zlen_b hb).2.2.2.2]
      refine zp_pos (zga_n (show p + i < 3000 by omega) (by decide)) (zp_pos (zga_n (show fr + i < zlen p0 by omega) (by omega)) (zp_if (fun e => ?_) (fun e => ?_)))
      · rw [nI_1]
        refine hr a1 (nI p) 1 (nI (i + 1)) t ⟨rfl, rfl, rfl, i + 1, by omega, rfl, Or.inl ⟨rfl, fun k hk => ?_⟩⟩ (by rw [nI_clamp (by omega)]; omega)
        by_cases ek : k = i
        · subst ek; exact e
        · exact hd k (by omega)
      · rw [nI_1]
        exact hr a1 (nI p) 0 (nI (i + 1)) t ⟨rfl, rfl, rfl, i + 1, by omega, rfl, Or.inr ⟨rfl, fun h => e (h i c)⟩⟩ (by rw [nI_clamp (by omega)]; omega)
    · exact zp_pos rfl (zp_some ⟨0, rfl, Or.inr ⟨rfl, hd⟩⟩)
  · have e : i = len := by omega
    subst e
    refine zp_pos (nI_le (Nat.le_refl _) (by omega)) (zp_some ?_)
    rcases hd with ⟨rfl, hd⟩ | ⟨rfl, hd⟩
    · exact ⟨1, rfl, Or.inl ⟨rfl, hd⟩⟩
    · exact ⟨0, rfl, Or.inr ⟨rfl, hd⟩⟩
theorem q_find97n {N b p0 : Nat} {p1 p2 v4 v5 : Int32} (s : zS) (hN : 0 < N) : fX0_findName_L97 N b p0 p1 p2 N v4 v5 0 0 s = some (.inr (v4, 0, s)) := by
  obtain ⟨M, rfl⟩ : ∃ M, N = M + 1 := ⟨N - 1, by omega⟩
  show fX0_findName_L97S (M + 1) b p0 p1 p2 (fX0_findName_L97 (M + 1) b p0 p1 p2 M) v4 v5 0 0 s = _
  unfold fX0_findName_L97S
  by_cases c : p2 ≤ 0
  · rw [if_pos c]
  · rw [if_neg c, if_pos rfl]
theorem q_findName {N b p0 fr len n3 nb : Nat} (hb : zBk b) (s : zS) (hw : s.1 (100 * (b + 7) + 1) = nI 2) (hc : s.1 (100 * (b + 7) + 3) = nI n3) (h3 : n3 ≤ 150) (hnb : nb ≤ 3000) (hx : ∀ k, k < n3 → ∃ p l : Nat, 1 ≤ l ∧ l ≤ 16 ∧ p + l ≤ nb ∧ s.2.1 (b + 8) (k * 2 + 0) = nI p ∧ s.2.1 (b + 8) (k * 2 + 1) = nI l) (hf : fr + len ≤ zlen p0) (hz : zlen p0 < 2 ^ 30) (hN : 200 ≤ N) : zp (fX0_findName N b p0 (nI fr) (nI len) s) (fun q => q.2 = s ∧ zFst (zNmM s b p0 fr len) n3 q.1) := by
  unfold fX0_findName
  refine zp_neg (nI_pos (by omega)) ?_
  by_cases h0 : len < 1
  · have e0 : len = 0 := by omega
    subst e0
    refine zp_pos (by decide) (zp_some ⟨rfl, Or.inl ⟨rfl, fun k hk hM => ?_⟩⟩)
    obtain ⟨p, l, g1, g2, g3, g4, g5⟩ := hx k hk
    have h2 := hM.1
    rw [g5, nI_eq (by omega) (by omega)] at h2
    omega
  refine zp_neg (show ¬ nI len < nI 1 from nI_nlt (by omega) (by omega)) ?_
  rw [nI_add]
  refine zp_pos (nI_le hf (by omega)) ?_
  refine zp_bl ?_
  refine zfor1 (S := fX0_findName_L22S N b p0 (nI fr) (nI len)) 0 n3 (fun k t => t = s ∧ ∀ j, j < k → ¬ zNmM s b p0 fr len j) _ ?_ N s (by omega) (by omega) ⟨rfl, fun j hj => absurd hj (Nat.not_lt_zero _)⟩
  intro rec k t h1 h2 hI hr
  obtain ⟨rfl, hI⟩ := hI
  unfold fX0_findName_L22S
  rw [hc]
  by_cases c : k < n3
  · refine zp_neg (nI_ge c (by omega)) ?_
    obtain ⟨p, l, g1, g2, g3, g4, g5⟩ := hx k c
    have e0 : fX6_cell N (b + 7) (nI k) 0 0 t = some (nI p, t) := by
      rw [show (0 : Int32) = nI 0 from rfl, q_cell_in 2 n3 k 0 300 hw hc (zlen_b hb).2.2.2.1 c (by omega) (by omega) (by decide) (by omega) (by decide)]
      exact congrArg (fun z => some (z, t)) g4
    have e1 : fX6_cell N (b + 7) (nI k) 1 0 t = some (nI l, t) := by
      rw [show (1 : Int32) = nI 1 from rfl, q_cell_in 2 n3 k 1 300 hw hc (zlen_b hb).2.2.2.1 c (by omega) (by omega) (by decide) (by omega) (by decide)]
      exact congrArg (fun z => some (z, t)) g5
    refine zp_bne e0 (zp_bne e1 ?_)
    have hclp : (t.2.1 (b + 8) (k * 2 + 0)).toNatClampNeg = p := by rw [g4, nI_clamp (by omega)]
    have hno : fX0_findName_J91 N b p0 (nI fr) (nI len) rec (nI k) (nI p) t = rec (nI (k + 1)) t := by
      unfold fX0_findName_J91 fX0_findName_J92
      rw [q_find97n t (by omega), zbl_r]
      exact (if_pos rfl).trans (by rw [nI_1])
    have hgo : ¬ zNmM t b p0 fr len k → ∀ j, j < k + 1 → ¬ zNmM t b p0 fr len j := fun hM j hj => by
      by_cases e : j = k
      · subst e; exact hM
      · exact hI j (by omega)
    rw [nI_add, pk_sub (by omega), Nat.add_sub_cancel_left]
    refine zp_if (fun e => ?_) (fun e => by rw [hno]; exact hr c t ⟨rfl, hgo (fun hM => e (g5.symm.trans hM.1))⟩)
    rw [nI_eq (by omega) (by omega)] at e
    subst e
    refine zp_neg (nI_pos (by omega)) (zp_neg (by rw [(zlen_b hb).2.2.2.2]; exact nI_nlt (by omega) (by decide)) ?_)
    unfold fX0_findName_J92
    refine zp_bl (zp_mono (q_find97 hb (nI k) t (by omega) hf hz (by omega)) (fun q hq => ?_))
    obtain ⟨fl, rfl, ⟨rfl, hd⟩ | ⟨rfl, hd⟩⟩ := hq
    · refine zp_neg (by decide) (zp_some (zp_some ⟨rfl, Or.inr ⟨k, c, rfl, ⟨g5, fun i hi => ?_⟩, hI⟩⟩))
      rw [hclp]
      exact hd i hi
    · refine zp_pos rfl ?_
      rw [nI_1]
      refine hr c t ⟨rfl, hgo (fun hM => hd (fun i hi => ?_))⟩
      have h9 := hM.2 i hi
      rw [hclp] at h9
      exact h9
  · have e : k = n3 := by omega
    subst e
    exact zp_pos (nI_le (Nat.le_refl _) (by omega)) (zp_some (zp_some ⟨rfl, Or.inl ⟨rfl, hI⟩⟩))
theorem q_and8l (x y : BitVec 64) (h : ∀ i, i < 8 → x.getLsbD i = y.getLsbD i) : x.setWidth 32 &&& 255#32 = (y &&& 255#64).setWidth 32 := by
  apply BitVec.eq_of_getLsbD_eq
  intro i hi
  rw [BitVec.getLsbD_and, BitVec.getLsbD_setWidth, BitVec.getLsbD_setWidth, BitVec.getLsbD_and]
  by_cases c : i < 8
  · have hz : ∀ i, i < 8 → (255#32).getLsbD i = true ∧ (255#64).getLsbD i = true := by decide
    rw [h i c, (hz i c).1, (hz i c).2, Bool.and_true, Bool.and_true]
  · have hz : ∀ i, i < 32 → ¬ i < 8 → (255#32).getLsbD i = false ∧ (255#64).getLsbD i = false := by decide
    rw [(hz i hi c).1, (hz i hi c).2, Bool.and_false, Bool.and_false, Bool.and_false]
def zbyt8 (x : Int64) (i : Nat) : Int32 := ((((x.toUInt64 >>> ((56 - (8 * (nI i &&& 7))).toInt64.toUInt64 &&& Int64.toUInt64 63)).toInt64).toInt32) &&& 255)
theorem q_shl : ∀ i, i < 16 → (((56 - (8 * (nI i &&& 7))).toInt64.toUInt64 &&& Int64.toUInt64 63).toBitVec % 64).toNat = 56 - 8 * (i % 8) ∧ (((56 - (8 * (nI i - nI i / 8 * 8))).toInt64 &&& 63).toBitVec.smod 64).toNat = 56 - 8 * (i % 8) := by decide +kernel
theorem q_byt8 (x : Int64) (i : Nat) (hi : i < 16) : (((x >>> ((56 - (8 * (nI i - nI i / 8 * 8))).toInt64 &&& 63)) &&& 255).toInt32) = zbyt8 x i := by
  obtain ⟨h1, h2⟩ := q_shl i hi
  unfold zbyt8
  apply Int32.toBitVec_inj.mp
  rw [Int32.toBitVec_and]
  have e : (x.toUInt64 >>> ((56 - (8 * (nI i &&& 7))).toInt64.toUInt64 &&& Int64.toUInt64 63)).toInt64.toBitVec = x.toBitVec >>> (56 - 8 * (i % 8)) := by
    rw [← h1]
    exact UInt64.toBitVec_shiftRight _ _
  have e2 : (x >>> ((56 - (8 * (nI i - nI i / 8 * 8))).toInt64 &&& 63)).toBitVec = x.toBitVec.sshiftRight (56 - 8 * (i % 8)) := by
    rw [← h2]
    rfl
  have e3 : (x.toUInt64 >>> ((56 - (8 * (nI i &&& 7))).toInt64.toUInt64 &&& Int64.toUInt64 63)).toInt64.toInt32.toBitVec = (x.toBitVec >>> (56 - 8 * (i % 8))).setWidth 32 := by
    rw [Int64.toBitVec_toInt32, e]
    exact BitVec.signExtend_eq_setWidth_of_le _ (by decide)
  have e4 : ((x >>> ((56 - (8 * (nI i - nI i / 8 * 8))).toInt64 &&& 63)) &&& 255).toInt32.toBitVec = (x.toBitVec.sshiftRight (56 - 8 * (i % 8)) &&& 255#64).setWidth 32 := by
    rw [Int64.toBitVec_toInt32, Int64.toBitVec_and, e2]
    exact BitVec.signExtend_eq_setWidth_of_le _ (by decide)
  rw [e3, e4]
  refine (q_and8l _ _ (fun k hk => ?_)).symm
  rw [BitVec.getLsbD_ushiftRight, BitVec.getLsbD_sshiftRight, if_pos (by omega), decide_eq_false (by omega)]
  rfl
theorem q_findC {N : Nat} (hN : 30 ≤ N) (p0 p1 : Int64) (s : zS) : ∃ (l : Nat) (g : Nat → Int32), l ≤ 16 ∧ zp (fX9_find_L6 N p0 p1 N 0 0 s) (fun q => ∃ t, q = .inr (nI l, t) ∧ zeq [] [2] s t ∧ ∀ k, k < l → t.2.1 2 k = g k) ∧ ∀ u, zp (fX10_find_L11 N p0 p1 N 0 0 u) (fun q => ∃ t, q = .inr (nI l, t) ∧ zeq [] [47] u t ∧ ∀ k, k < l → t.2.1 47 k = g k) := by
  have key : ∀ d i, i + d = 16 → ∀ l, l ≤ i → ∀ (g : Nat → Int32), ∃ (l' : Nat) (g' : Nat → Int32), l' ≤ 16 ∧ (∀ n, d < n → ∀ t, (∀ k, k < l → t.2.1 2 k = g k) → zp (fX9_find_L6 N p0 p1 n (nI l) (nI i) t) (fun q => ∃ u, q = .inr (nI l', u) ∧ zeq [] [2] t u ∧ ∀ k, k < l' → u.2.1 2 k = g' k)) ∧ (∀ n, d < n → ∀ t, (∀ k, k < l → t.2.1 47 k = g k) → zp (fX10_find_L11 N p0 p1 n (nI l) (nI i) t) (fun q => ∃ u, q = .inr (nI l', u) ∧ zeq [] [47] t u ∧ ∀ k, k < l' → u.2.1 47 k = g' k)) := by
    intro d
    induction d with
    | zero =>
      intro i hi l hl g
      have e : i = 16 := by omega
      subst e
      refine ⟨l, g, by omega, fun n hn t ht => ?_, fun n hn t ht => ?_⟩
      · obtain ⟨m, rfl⟩ : ∃ m, n = m + 1 := ⟨n - 1, by omega⟩
        show zp (fX9_find_L6S N p0 p1 _ (nI l) (nI 16) t) _
        unfold fX9_find_L6S
        exact zp_pos (by decide) (zp_some ⟨t, rfl, zeq_refl _ _ _, ht⟩)
      · obtain ⟨m, rfl⟩ : ∃ m, n = m + 1 := ⟨n - 1, by omega⟩
        show zp (fX10_find_L11S N p0 p1 _ (nI l) (nI 16) t) _
        unfold fX10_find_L11S
        exact zp_pos (by decide) (zp_some ⟨t, rfl, zeq_refl _ _ _, ht⟩)
    | succ d ih =>
      intro i hi l hl g
      obtain ⟨y, hy⟩ : ∃ y, y = if i < 8 then zbyt8 p0 i else zbyt8 p1 i := ⟨_, rfl⟩
      have cC : ∀ (m : Nat) (t : zS), fX9_find_L6 N p0 p1 (m + 1) (nI l) (nI i) t = if y = 0 then fX9_find_L6 N p0 p1 m (nI l) (nI (i + 1)) t else fX9_find_L6 N p0 p1 m (nI (l + 1)) (nI (i + 1)) (zsr t 2 (nI l) y) := by
        intro m t
        show fX9_find_L6S N p0 p1 (fX9_find_L6 N p0 p1 m) (nI l) (nI i) t = _
        unfold fX9_find_L6S
        rw [if_neg (show ¬ (16 : Int32) ≤ nI i from nI_ge (b := 16) (by omega) (by decide))]
        have hJ : ∀ x : Int64, fX9_find_J25 N p0 p1 (fX9_find_L6 N p0 p1 m) (nI l) (nI i) x t = if zbyt8 x i = 0 then fX9_find_L6 N p0 p1 m (nI l) (nI (i + 1)) t else fX9_find_L6 N p0 p1 m (nI (l + 1)) (nI (i + 1)) (zsr t 2 (nI l) (zbyt8 x i)) := by
          intro x
          unfold fX9_find_J25
          rw [nI_1, nI_1, if_neg (show ¬ (16 : Int32) ≤ nI l from nI_ge (b := 16) (by omega) (by decide)), if_pos (zga_l (by rfl) (show l < 16 by omega) (by decide))]
          rfl
        by_cases c : i < 8
        · rw [if_neg (show ¬ (8 : Int32) ≤ nI i from nI_ge (b := 8) c (by decide)), hJ, hy, if_pos c]
        · rw [if_pos (show (8 : Int32) ≤ nI i from nI_le (a := 8) (by omega) (by omega)), hJ, hy, if_neg c]
      have cM : ∀ (m : Nat) (t : zS), fX10_find_L11 N p0 p1 (m + 1) (nI l) (nI i) t = if y = 0 then fX10_find_L11 N p0 p1 m (nI l) (nI (i + 1)) t else fX10_find_L11 N p0 p1 m (nI (l + 1)) (nI (i + 1)) (zsr t 47 (nI l) y) := by
        intro m t
        show fX10_find_L11S N p0 p1 (fX10_find_L11 N p0 p1 m) (nI l) (nI i) t = _
        unfold fX10_find_L11S
        rw [if_neg (show ¬ (16 : Int32) ≤ nI i from nI_ge (b := 16) (by omega) (by decide))]
        have hJ : ∀ x : Int64, fX10_find_J30 N p0 p1 (fX10_find_L11 N p0 p1 m) (nI l) (nI i) x t = if zbyt8 x i = 0 then fX10_find_L11 N p0 p1 m (nI l) (nI (i + 1)) t else fX10_find_L11 N p0 p1 m (nI (l + 1)) (nI (i + 1)) (zsr t 47 (nI l) (zbyt8 x i)) := by
          intro x
          unfold fX10_find_J30
          rw [nI_1, nI_1, if_pos (zga_l (by rfl) (show l < 2001 by omega) (by decide)), q_byt8 x i (by omega)]
        by_cases c : i < 8
        · rw [if_neg (show ¬ (8 : Int32) ≤ nI i from nI_ge (b := 8) c (by decide)), hJ, hy, if_pos c]
        · rw [if_pos (show (8 : Int32) ≤ nI i from nI_le (a := 8) (by omega) (by omega)), hJ, hy, if_neg c]
      by_cases c : y = 0
      · obtain ⟨l', g', h1, h2, h3⟩ := ih (i + 1) (by omega) l (by omega) g
        refine ⟨l', g', h1, fun n hn t ht => ?_, fun n hn t ht => ?_⟩
        · obtain ⟨m, rfl⟩ : ∃ m, n = m + 1 := ⟨n - 1, by omega⟩
          rw [cC, if_pos c]
          exact h2 m (by omega) t ht
        · obtain ⟨m, rfl⟩ : ∃ m, n = m + 1 := ⟨n - 1, by omega⟩
          rw [cM, if_pos c]
          exact h3 m (by omega) t ht
      · obtain ⟨l', g', h1, h2, h3⟩ := ih (i + 1) (by omega) (l + 1) (by omega) (upd g l y)
        have hh : ∀ (a : Nat) (t : zS), (∀ k, k < l → t.2.1 a k = g k) → ∀ k, k < l + 1 → (zsr t a (nI l) y).2.1 a k = upd g l y k := by
          intro a t ht k hk
          rw [zsr_same, nI_clamp (by omega)]
          by_cases e : k = l
          · subst e; rw [pk_us, pk_us]
          · rw [pk_un e, pk_un e]; exact ht k (by omega)
        refine ⟨l', g', h1, fun n hn t ht => ?_, fun n hn t ht => ?_⟩
        · obtain ⟨m, rfl⟩ : ∃ m, n = m + 1 := ⟨n - 1, by omega⟩
          rw [cC, if_neg c]
          refine zp_mono (h2 m (by omega) _ (hh 2 t ht)) (fun q hq => ?_)
          obtain ⟨u, e1, e2, e3⟩ := hq
          exact ⟨u, e1, zeq_trans (zeq_r (List.mem_singleton.mpr rfl)) e2, e3⟩
        · obtain ⟨m, rfl⟩ : ∃ m, n = m + 1 := ⟨n - 1, by omega⟩
          rw [cM, if_neg c]
          refine zp_mono (h3 m (by omega) _ (hh 47 t ht)) (fun q hq => ?_)
          obtain ⟨u, e1, e2, e3⟩ := hq
          exact ⟨u, e1, zeq_trans (zeq_r (List.mem_singleton.mpr rfl)) e2, e3⟩
  obtain ⟨l, g, h1, h2, h3⟩ := key 16 0 rfl 0 (Nat.le_refl _) (fun _ => 0)
  exact ⟨l, g, h1, h2 N (by omega) s (fun k hk => absurd hk (Nat.not_lt_zero _)), fun u => h3 N (by omega) u (fun k hk => absurd hk (Nat.not_lt_zero _))⟩
def zNmN (s : zS) (h a fr len k : Nat) : Prop := s.2.1 41 (150 * h + k) = nI len ∧ ∀ i, i < len → s.2.1 40 (2400 * h + 16 * k + i) = s.2.1 a (fr + i)
theorem q_find116 {N l k : Nat} (p0 p1 : Int64) (s : zS) (hk : k < 150) (hl : l ≤ 16) (hN : l < N) : zp (fX10_find_L116 N p0 p1 N (nI l) (nI k) 1 0 s) (fun q => ∃ fl, q = .inr (nI l, nI k, fl, s) ∧ ((fl = 1 ∧ ∀ i, i < l → s.2.1 40 (2400 * 1 + 16 * k + i) = s.2.1 47 (0 + i)) ∨ (fl = 0 ∧ ¬ ∀ i, i < l → s.2.1 40 (2400 * 1 + 16 * k + i) = s.2.1 47 (0 + i)))) := by
  refine zlp4 (S := fX10_find_L116S N p0 p1) (fun a1 a2 a3 a4 t => a1 = nI l ∧ a2 = nI k ∧ t = s ∧ ∃ i : Nat, i ≤ l ∧ a4 = nI i ∧ ((a3 = 1 ∧ ∀ j, j < i → s.2.1 40 (2400 * 1 + 16 * k + j) = s.2.1 47 (0 + j)) ∨ (a3 = 0 ∧ ¬ ∀ i, i < l → s.2.1 40 (2400 * 1 + 16 * k + i) = s.2.1 47 (0 + i)))) (fun _ _ _ a4 _ => l - a4.toNatClampNeg) _ ?_ N (nI l) (nI k) 1 0 s ⟨rfl, rfl, rfl, 0, Nat.zero_le _, rfl, Or.inl ⟨rfl, fun k hk => absurd hk (Nat.not_lt_zero _)⟩⟩ (by
    show l - (nI 0).toNatClampNeg < N
    rw [nI_clamp (by decide)]
    exact hN)
  intro rec a1 a2 a3 a4 t hI hr
  obtain ⟨rfl, rfl, rfl, i, hi, rfl, hd⟩ := hI
  unfold fX10_find_L116S
  rw [nI_clamp (show i < 2 ^ 31 by omega)] at hr
  by_cases c : i < l
  · refine zp_neg (nI_ge c (by omega)) ?_
    rcases hd with ⟨rfl, hd⟩ | ⟨rfl, hd⟩
    · refine zp_neg (by decide) ?_
      have e : 2400 + 16 * nI k + nI i = nI (2400 + 16 * k + i) := by
        show nI 2400 + nI 16 * nI k + nI i = _
        rw [pk_mul, nI_add, nI_add]
      rw [e, nI_clamp (show 2400 + 16 * k + i < 2 ^ 31 by omega), nI_clamp (show i < 2 ^ 31 by omega)]
      refine zp_pos (zga_n (show 2400 + 16 * k + i < 4800 by omega) (by decide)) (zp_pos (zga_n (show i < 2001 by omega) (by decide)) (zp_if (fun e => ?_) (fun e => ?_)))
      · rw [nI_1]
        refine hr (nI l) (nI k) 1 (nI (i + 1)) t ⟨rfl, rfl, rfl, i + 1, by omega, rfl, Or.inl ⟨rfl, fun j hj => ?_⟩⟩ (by rw [nI_clamp (by omega)]; omega)
        by_cases ek : j = i
        · subst ek; rw [Nat.zero_add]; exact e
        · exact hd j (by omega)
      · rw [nI_1]
        exact hr (nI l) (nI k) 0 (nI (i + 1)) t ⟨rfl, rfl, rfl, i + 1, by omega, rfl, Or.inr ⟨rfl, fun h => e (by have h9 := h i c; rw [Nat.zero_add] at h9; exact h9)⟩⟩ (by rw [nI_clamp (by omega)]; omega)
    · exact zp_pos rfl (zp_some ⟨0, rfl, Or.inr ⟨rfl, hd⟩⟩)
  · have e : i = l := by omega
    subst e
    refine zp_pos (nI_le (Nat.le_refl _) (by omega)) (zp_some ?_)
    rcases hd with ⟨rfl, hd⟩ | ⟨rfl, hd⟩
    · exact ⟨1, rfl, Or.inl ⟨rfl, hd⟩⟩
    · exact ⟨0, rfl, Or.inr ⟨rfl, hd⟩⟩
theorem q_find116n {N : Nat} (p0 p1 : Int64) {v5 v6 : Int32} (s : zS) (hN : 0 < N) : fX10_find_L116 N p0 p1 N v5 v6 0 0 s = some (.inr (v5, v6, 0, s)) := by
  obtain ⟨M, rfl⟩ : ∃ M, N = M + 1 := ⟨N - 1, by omega⟩
  show fX10_find_L116S (M + 1) p0 p1 (fX10_find_L116 (M + 1) p0 p1 M) v5 v6 0 0 s = _
  unfold fX10_find_L116S
  by_cases c : v5 ≤ 0
  · rw [if_pos c]
  · rw [if_neg c, if_pos rfl]
theorem q_findM {N l n3 : Nat} (p0 p1 : Int64) (s : zS) (hc : s.2.1 36 7 = nI n3) (h3 : n3 ≤ 150) (hx : ∀ k, k < n3 → ∃ l : Nat, 1 ≤ l ∧ l ≤ 16 ∧ s.2.1 41 (150 * 1 + k) = nI l) (hl : l ≤ 16) (hN : 200 ≤ N) : zp (zbl (fX10_find_L78 N p0 p1 N (nI l) 0 s) (fun x => some x) (fun s22 => some ((-1 : Int32), s22))) (fun q => q.2 = s ∧ zFst (zNmN s 1 47 0 l) n3 q.1) := by
  refine zp_bl ?_
  refine zlp2 (S := fX10_find_L78S N p0 p1) (fun a1 a2 t => a1 = nI l ∧ t = s ∧ ∃ k, k ≤ n3 ∧ a2 = nI k ∧ ∀ j, j < k → ¬ zNmN s 1 47 0 l j) (fun _ a2 _ => n3 - a2.toNatClampNeg) _ ?_ N (nI l) 0 s ⟨rfl, rfl, 0, Nat.zero_le _, rfl, fun j hj => absurd hj (Nat.not_lt_zero _)⟩ (by
    show n3 - (nI 0).toNatClampNeg < N
    rw [nI_clamp (by decide)]
    omega)
  intro rec a1 a2 t hI hr
  obtain ⟨rfl, rfl, k, h2, rfl, hI⟩ := hI
  rw [nI_clamp (show k < 2 ^ 31 by omega)] at hr
  unfold fX10_find_L78S
  have g5 : (7 : Int32).toNatClampNeg = 7 := by decide +kernel
  rw [g5, hc]
  refine zp_pos (by decide +kernel) ?_
  by_cases c : k < n3
  · refine zp_neg (nI_ge c (by omega)) ?_
    obtain ⟨l0, g1, g2, g3⟩ := hx k c
    have e : 150 + nI k = nI (150 + k) := nI_add 150 k
    have g3' : t.2.1 41 (150 + k) = nI l0 := g3
    rw [e, nI_clamp (show 150 + k < 2 ^ 31 by omega), g3']
    refine zp_pos (zga_n (show 150 + k < 300 by omega) (by decide)) ?_
    have hgo : ¬ zNmN t 1 47 0 l k → ∀ j, j < k + 1 → ¬ zNmN t 1 47 0 l j := fun hM j hj => by
      by_cases e : j = k
      · subst e; exact hM
      · exact hI j (by omega)
    refine zp_if (fun e => ?_) (fun e => ?_)
    · rw [nI_eq (by omega) (by omega)] at e
      subst e
      unfold fX10_find_J111
      refine zp_bl (zp_mono (q_find116 p0 p1 t (by omega) hl (by omega)) (fun q hq => ?_))
      obtain ⟨fl, rfl, ⟨rfl, hd⟩ | ⟨rfl, hd⟩⟩ := hq
      · exact zp_neg (by decide) (zp_some (zp_some ⟨rfl, Or.inr ⟨k, c, rfl, ⟨g3, hd⟩, hI⟩⟩))
      · refine zp_pos rfl ?_
        rw [nI_1]
        exact hr _ (nI (k + 1)) t ⟨rfl, rfl, k + 1, by omega, rfl, hgo (fun hM => hd hM.2)⟩ (by rw [nI_clamp (by omega)]; omega)
    · unfold fX10_find_J111
      rw [q_find116n p0 p1 t (by omega), zbl_r]
      refine zp_pos rfl ?_
      rw [nI_1]
      exact hr (nI l) (nI (k + 1)) t ⟨rfl, rfl, k + 1, by omega, rfl, hgo (fun hM => e (g3.symm.trans hM.1))⟩ (by rw [nI_clamp (by omega)]; omega)
  · have e : k = n3 := by omega
    subst e
    exact zp_pos (nI_le (Nat.le_refl _) (by omega)) (zp_some (zp_some ⟨rfl, Or.inl ⟨rfl, hI⟩⟩))
theorem c_find {N n0 n1 n2 n3 nb nl : Nat} {s : zS} (hN : 200 ≤ N) (hb : zBk (s.2.2.1 301)) (hT : zTbl s) (hR : zBR (s.2.2.1 301) 1 n0 n1 n2 n3 nb nl s s) (p0 p1 : Int64) : ∃ x t u, fX9_find N p0 p1 s = some (x, t) ∧ fX10_find N p0 p1 t = some (x, u) ∧ zeq [3300] [2, 47] s u := by
  obtain ⟨b, hbe⟩ : ∃ b, s.2.2.1 301 = b := ⟨_, rfl⟩
  rw [hbe] at hb hR
  obtain ⟨-, -, -, ⟨hn, hc, hm0, hx⟩, hnb, -⟩ := hR
  have w := (hT.2.2 b hb).2.2.2.1
  obtain ⟨l, g, hl, hC, hM⟩ := q_findC (N := N) (by omega) p0 p1 s
  obtain ⟨q1, e1, t, rfl, ht1, ht2⟩ := hC
  obtain ⟨q2, e2, u, rfl, hu1, hu2⟩ := hM (zsc t 3300 0)
  have a2 : ¬ b + 8 = 2 ∧ ¬ b + 9 = 2 ∧ b < 20 := by rcases hb with rfl | rfl <;> decide
  have k8 : t.2.1 (b + 8) = s.2.1 (b + 8) := ht1.2.1 _ (by simp)
  have k9 : t.2.1 (b + 9) = s.2.1 (b + 9) := ht1.2.1 _ (by simp)
  have kc : ∀ k, t.1 k = s.1 k := fun k => ht1.1 k (by simp)
  have ke : t.2.2.1 301 = b := by rw [ht1.2.2]; exact hbe
  have hx' : ∀ k, k < n3 → ∃ p l : Nat, 1 ≤ l ∧ l ≤ 16 ∧ p + l ≤ nb ∧ t.2.1 (b + 8) (k * 2 + 0) = nI p ∧ t.2.1 (b + 8) (k * 2 + 1) = nI l := fun k hk => by
    obtain ⟨p, l, h1, h2, h3, h4, h5, -⟩ := hx k hk
    exact ⟨p, l, h1, h2, h3, by rw [k8]; exact h4, by rw [k8]; exact h5⟩
  obtain ⟨q3, e3, h31, h32⟩ := q_findName (N := N) (p0 := 2) (fr := 0) (len := l) hb t ((kc _).trans w) ((kc _).trans hc) hn hnb hx' (show 0 + l ≤ 16 by omega) (by decide) hN
  have u0 : ∀ a, a ≠ 47 → u.2.1 a = t.2.1 a := fun a ha => hu1.2.1 a (by simp [ha])
  have t0 : ∀ a, a ≠ 2 → t.2.1 a = s.2.1 a := fun a ha => ht1.2.1 a (by simp [ha])
  have hxM : ∀ k, k < n3 → ∃ l : Nat, 1 ≤ l ∧ l ≤ 16 ∧ u.2.1 41 (150 * 1 + k) = nI l := fun k hk => by
    obtain ⟨p, l, h1, h2, h3, h4, h5, h6, -⟩ := hx k hk
    exact ⟨l, h1, h2, by rw [u0 41 (by decide), t0 41 (by decide)]; exact h6⟩
  obtain ⟨q4, e4, h41, h42⟩ := q_findM (N := N) p0 p1 u (by rw [u0 36 (by decide), t0 36 (by decide)]; exact hm0) hn hxM hl hN
  refine ⟨q3.1, t, u, ?_, ?_, ?_⟩
  · unfold fX9_find
    rw [e1]
    show (if zBk (t.2.2.1 301) then zbn (fX0_findName N (t.2.2.1 301) 2 0 (nI l) t) _ else none) = _
    rw [ke, if_pos hb, show (0 : Int32) = nI 0 from rfl, e3]
    show some (q3.1, q3.2) = _
    rw [h31]
  · unfold fX10_find
    rw [e2]
    show zbl (fX10_find_L78 N p0 p1 N (nI l) 0 u) _ _ = _
    rw [e4]
    have e5 : q3.1 = q4.1 := by
      refine zFst_unique (fun k hk => ?_) h32 h42
      obtain ⟨p, l2, f1, f2, f3, f4, f5, f6, f7⟩ := hx k hk
      unfold zNmM zNmN
      rw [u0 41 (by decide), t0 41 (by decide), u0 40 (by decide), t0 40 (by decide), k8, k9, f4, f5, f6, nI_clamp (by omega)]
      refine ⟨fun h => ⟨h.1, fun i hi => ?_⟩, fun h => ⟨h.1, fun i hi => ?_⟩⟩
      · have hl2 : l2 = l := (nI_eq (by omega) (by omega)).mp h.1
        rw [← f7 i (by omega), h.2 i hi, Nat.zero_add, ht2 i hi, hu2 i hi]
      · have hl2 : l2 = l := (nI_eq (by omega) (by omega)).mp h.1
        rw [f7 i (by omega), h.2 i hi, Nat.zero_add, ht2 i hi, hu2 i hi]
    rw [e5, ← h41]
  · exact zeq_trans (zeq_mono ht1 (fun k h => absurd h List.not_mem_nil) (fun k h => by simp at h; simp [h])) (zeq_trans (zeq_c (List.mem_singleton.mpr rfl)) (zeq_mono hu1 (fun k h => absurd h List.not_mem_nil) (fun k h => by simp at h; simp [h])))
