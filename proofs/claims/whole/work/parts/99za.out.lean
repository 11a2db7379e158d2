def zOU (l : List Int32) (c : zS) : Prop := c.1 3001 = nI l.length ∧ ∀ i, i < l.length → c.2.1 31 i = l.getD i 0
def zOV (l : List Int32) (m : zS) : Prop := m.1 3329 = nI l.length ∧ ∀ i, i < l.length → m.2.1 44 i = l.getD i 0
def zCo (o : Option (Unit × zS)) (c : zS) (l w : List Int32) : Prop := ∃ c', o = some ((), c') ∧ zOU (l ++ w) c' ∧ zeq [3001] [31] c c'
def zMo (o : Option (Unit × zS)) (m : zS) (l w : List Int32) : Prop := ∃ m', o = some ((), m') ∧ zOV (l ++ w) m' ∧ zeq [3329] [44] m m'
set_option maxHeartbeats 400000 in
theorem c_byte {N : Nat} {x : Int32} {c : zS} {l : List Int32} (h : zOU l c) (hl : l.length < 6000) : zCo (fX7_putByte N x c) c l [x] := by
  obtain ⟨h1, h2⟩ := h
  refine ⟨zsc (zsr c 31 (nI l.length) x) 3001 (nI (l.length + 1)), ?_, ⟨?_, fun i hi => ?_⟩, zeq_trans (zeq_r (by simp)) (zeq_c (by simp))⟩
  · unfold fX7_putByte
    rw [h1, if_neg (show ¬ nI (zlen 31) ≤ nI l.length from nI_ge hl (by decide)), if_pos (zga_l (by rfl) hl (by decide)), nI_1]
  · rw [zsc_at, List.length_append, List.length_singleton]
  · rw [List.length_append, List.length_singleton] at hi
    show (zsr c 31 (nI l.length) x).2.1 31 i = _
    rw [zsr_g (by omega)]
    by_cases e : i = l.length
    · rw [if_pos e, e, gD_r (Nat.le_refl _), Nat.sub_self]; rfl
    · rw [if_neg e, gD_l (by omega)]; exact h2 i (by omega)
set_option maxHeartbeats 400000 in
theorem m_byte {N : Nat} {x : Int32} {m : zS} {l : List Int32} (h : zOV l m) (hl : l.length < 6000) : zMo (fX10_say N x m) m l [x] := by
  obtain ⟨h1, h2⟩ := h
  refine ⟨zsc (zsr m 44 (nI l.length) x) 3329 (nI (l.length + 1)), ?_, ⟨?_, fun i hi => ?_⟩, zeq_trans (zeq_r (by simp)) (zeq_c (by simp))⟩
  · unfold fX10_say
    rw [h1, if_pos (zga_l (by rfl) (show l.length < 24000 by omega) (by decide)), nI_1]
  · rw [zsc_at, List.length_append, List.length_singleton]
  · rw [List.length_append, List.length_singleton] at hi
    show (zsr m 44 (nI l.length) x).2.1 44 i = _
    rw [zsr_g (by omega)]
    by_cases e : i = l.length
    · rw [if_pos e, e, gD_r (Nat.le_refl _), Nat.sub_self]; rfl
    · rw [if_neg e, gD_l (by omega)]; exact h2 i (by omega)
theorem zCo_seq {o : Option (Unit × zS)} {k : Unit → zS → Option (Unit × zS)} {c : zS} {l w w' : List Int32} (h : zCo o c l w) (hk : ∀ c', zOU (l ++ w) c' → zeq [3001] [31] c c' → zCo (k () c') c' (l ++ w) w') : zCo (zbn o k) c l (w ++ w') := by
  obtain ⟨c1, e1, h1, z1⟩ := h
  obtain ⟨c2, e2, h2, z2⟩ := hk c1 h1 z1
  refine ⟨c2, by rw [e1, zbn_s, e2], ?_, zeq_trans z1 z2⟩
  rw [← List.append_assoc]
  exact h2
theorem zMo_seq {o : Option (Unit × zS)} {k : Unit → zS → Option (Unit × zS)} {c : zS} {l w w' : List Int32} (h : zMo o c l w) (hk : ∀ c', zOV (l ++ w) c' → zeq [3329] [44] c c' → zMo (k () c') c' (l ++ w) w') : zMo (zbn o k) c l (w ++ w') := by
  obtain ⟨c1, e1, h1, z1⟩ := h
  obtain ⟨c2, e2, h2, z2⟩ := hk c1 h1 z1
  refine ⟨c2, by rw [e1, zbn_s, e2], ?_, zeq_trans z1 z2⟩
  rw [← List.append_assoc]
  exact h2
theorem zCo_ret {o : Option (Unit × zS)} {c : zS} {l w : List Int32} (h : zCo o c l w) : zCo (zbn o (fun _ s => some ((), s))) c l w := by
  obtain ⟨c1, e1, h1, z1⟩ := h
  exact ⟨c1, by rw [e1, zbn_s], h1, z1⟩
theorem zMo_ret {o : Option (Unit × zS)} {c : zS} {l w : List Int32} (h : zMo o c l w) : zMo (zbn o (fun _ s => some ((), s))) c l w := by
  obtain ⟨c1, e1, h1, z1⟩ := h
  exact ⟨c1, by rw [e1, zbn_s], h1, z1⟩
theorem zCo_nil {c : zS} {l : List Int32} (h : zOU l c) : zCo (some ((), c)) c l [] := ⟨c, rfl, by rw [List.append_nil]; exact h, zeq_refl _ _ _⟩
theorem zMo_nil {c : zS} {l : List Int32} (h : zOV l c) : zMo (some ((), c)) c l [] := ⟨c, rfl, by rw [List.append_nil]; exact h, zeq_refl _ _ _⟩
theorem tk_s {l : List Int32} {j : Nat} (h : j < l.length) : l.take (j + 1) = l.take j ++ [l.getD j 0] := by
  rw [List.take_succ, List.getD_eq_getElem?_getD, List.getElem?_eq_getElem h]
  rfl
def zbs (a : Nat) : List Int32 := zsb.getD (a - 1000) []
theorem zbs_k : ∀ a, a < 23 → zbl_ (1000 + a + 300) = (zbs (1000 + a)).length := by decide +kernel
theorem zbs_l {a : Nat} (h : zsk a = true) : zbl_ (a + 300) = (zbs a).length := by
  obtain ⟨h1, h2⟩ := zsk_i h
  have h3 := zbs_k (a - 1000) h1
  rw [← h2] at h3
  exact h3
theorem zbs_v (a j : Nat) : zbv (a + 300) j = (zbs a).getD j 0 := by
  unfold zbv zbs
  rw [show a + 300 - 1300 = a - 1000 by omega]
set_option maxHeartbeats 400000 in
theorem l_text {N a : Nat} (ha : zsk a = true) {l : List Int32} (hl : l.length + (zbs a).length ≤ 6000) : ∀ d j M c, j + d = (zbs a).length → d < M → zOU (l ++ (zbs a).take j) c → ∃ c', fX7_putText_L2 N a M (nI j) c = some (.inr c') ∧ zOU (l ++ zbs a) c' ∧ zeq [3001] [31] c c' := by
  intro d
  induction d with
  | zero =>
    intro j M c hj hM h
    obtain ⟨M, rfl⟩ : ∃ q, M = q + 1 := ⟨M - 1, by omega⟩
    refine ⟨c, ?_, ?_, zeq_refl _ _ _⟩
    · show fX7_putText_L2S N a (fX7_putText_L2 N a M) (nI j) c = _
      unfold fX7_putText_L2S
      rw [if_pos ha, s_len ha, zbn_s, zbs_l ha, if_pos (nI_le (by omega) (by omega))]
    · rw [List.take_of_length_le (by omega)] at h
      exact h
  | succ d ih =>
    intro j M c hj hM h
    obtain ⟨M, rfl⟩ : ∃ q, M = q + 1 := ⟨M - 1, by omega⟩
    have hlen : (l ++ (zbs a).take j).length = l.length + j := by rw [List.length_append, List.length_take, Nat.min_eq_left (by omega)]
    obtain ⟨c1, e1, h1, z1⟩ := c_byte (N := N) (x := (zbs a).getD j 0) h (by omega)
    rw [List.append_assoc, ← tk_s (by omega)] at h1
    obtain ⟨c2, e2, h2, z2⟩ := ih (j + 1) M c1 (by omega) (by omega) h1
    refine ⟨c2, ?_, h2, zeq_trans z1 z2⟩
    show fX7_putText_L2S N a (fX7_putText_L2 N a M) (nI j) c = _
    unfold fX7_putText_L2S
    rw [if_pos ha, s_len ha, zbn_s, zbs_l ha, if_neg (nI_ge (by omega) (by omega)), if_pos ha, s_chr ha (by rw [zbs_l ha]; omega), zbn_s, zbs_v, e1, zbn_s, nI_1, e2]
theorem c_text {N a : Nat} {c : zS} {l : List Int32} (ha : zsk a = true) (h : zOU l c) (hl : l.length + (zbs a).length ≤ 6000) (hN : 100 ≤ N) : zCo (fX7_putText N a c) c l (zbs a) := by
  have h30 : (zbs a).length ≤ 30 := by
    have h9 := (s_k1 (a - 1000) (zsk_i ha).1).2
    rw [← (zsk_i ha).2, zbs_l ha] at h9
    exact h9
  obtain ⟨c', e1, h1, z1⟩ := l_text (N := N) ha hl (zbs a).length 0 N c (by omega) (by omega) (by rw [List.take_zero, List.append_nil]; exact h)
  refine ⟨c', ?_, h1, z1⟩
  unfold fX7_putText
  rw [show (0 : Int32) = nI 0 from rfl, e1, zbl_r]
/-- a number's digits, from the one of 10 ^ k down -/
def zdt (v : Nat) : Nat → List Int32
  | 0 => [nI (48 + v % 10)]
  | k + 1 => nI (48 + v / 10 ^ (k + 1) % 10) :: zdt v k
theorem zdt_l (v : Nat) : ∀ k, (zdt v k).length = k + 1
  | 0 => rfl
  | k + 1 => by
    show (zdt v k).length + 1 = k + 1 + 1
    rw [zdt_l v k]
theorem ten_le {k : Nat} (h : k ≤ 10) : 10 ^ k ≤ 10000000000 ∧ 0 < 10 ^ k := by
  refine ⟨?_, Nat.pow_pos (by omega)⟩
  exact Nat.le_trans (Nat.pow_le_pow_right (by omega) h) (by decide)
set_option maxHeartbeats 400000 in
theorem dig_x {v k : Nat} (hv : v < 2 ^ 32) (hk : k ≤ 9) : (48 : Int32) + (((lN v / lN (10 ^ k)) - (lN v / lN (10 ^ k)) / 10 * 10).toInt32) = nI (48 + v / 10 ^ k % 10) ∧ ¬ lg_cmp (lN (10 ^ k)) 0 ≤ 0 ∧ ¬ lN (10 ^ k) = 0 := by
  have ht := ten_le (show k ≤ 10 by omega)
  have e1 : lN v / lN (10 ^ k) = lN (v / 10 ^ k) := pk_lDiv (by omega) ht.2 (by omega)
  have hq : v / 10 ^ k ≤ v := Nat.div_le_self _ _
  have e2 : lN (v / 10 ^ k) - lN (v / 10 ^ k) / 10 * 10 = lN (v / 10 ^ k % 10) := pk_lRem (b := 10) (by omega) (by omega) (by omega)
  refine ⟨?_, ?_, ?_⟩
  · rw [e1, e2, lN_i]
    exact nI_add 48 _
  · rw [lg_cmp_le]
    intro z
    have := (pk_lLE (b := 0) (by omega) (by omega)).mp z
    omega
  · intro z
    have := (pk_lEQ (b := 0) (by omega) (by omega)).mp z
    omega
theorem ten_div (k : Nat) (hk : k ≤ 9) : lN (10 ^ (k + 1)) / 10 = lN (10 ^ k) := by
  have ht := ten_le (show k + 1 ≤ 10 by omega)
  have e : lN (10 ^ (k + 1)) / 10 = lN (10 ^ (k + 1) / 10) := pk_lDiv (b := 10) (by omega) (by omega) (by omega)
  rw [e, Nat.pow_succ, Nat.mul_div_cancel _ (by omega)]
set_option maxHeartbeats 400000 in
theorem l_digC {N v : Nat} {p0 : Int32} (hv : v < 2 ^ 32) : ∀ k M c l, k ≤ 9 → k + 1 < M → zOU l c → l.length + (k + 1) ≤ 6000 → ∃ c', fX7_putNumber_L45 N p0 M (lN v) (lN (10 ^ k)) c = some (.inr c') ∧ zOU (l ++ zdt v k) c' ∧ zeq [3001] [31] c c' := by
  have hend : ∀ M c, fX7_putNumber_L45 N p0 (M + 1) (lN v) 0 c = some (.inr c) := fun M c => by
    show fX7_putNumber_L45S N p0 (fX7_putNumber_L45 N p0 M) (lN v) 0 c = _
    unfold fX7_putNumber_L45S
    rw [if_pos (by decide)]
  intro k
  induction k with
  | zero =>
    intro M c l hk hM h hl
    obtain ⟨M, rfl⟩ : ∃ q, M = q + 1 + 1 := ⟨M - 2, by omega⟩
    obtain ⟨d1, d2, d3⟩ := dig_x hv hk
    obtain ⟨c1, e1, h1, z1⟩ := c_byte (N := N) (x := nI (48 + v / 10 ^ 0 % 10)) h (by omega)
    refine ⟨c1, ?_, ?_, z1⟩
    · show fX7_putNumber_L45S N p0 (fX7_putNumber_L45 N p0 (M + 1)) (lN v) (lN (10 ^ 0)) c = _
      unfold fX7_putNumber_L45S
      rw [if_neg d2, if_pos d3, d1, e1, zbn_s, show lN (10 ^ 0) / 10 = 0 by decide, hend]
    · rw [Nat.pow_zero, Nat.div_one] at h1
      exact h1
  | succ k ih =>
    intro M c l hk hM h hl
    obtain ⟨M, rfl⟩ : ∃ q, M = q + 1 := ⟨M - 1, by omega⟩
    obtain ⟨d1, d2, d3⟩ := dig_x hv hk
    obtain ⟨c1, e1, h1, z1⟩ := c_byte (N := N) (x := nI (48 + v / 10 ^ (k + 1) % 10)) h (by omega)
    obtain ⟨c2, e2, h2, z2⟩ := ih M c1 (l ++ [nI (48 + v / 10 ^ (k + 1) % 10)]) (by omega) (by omega) h1 (by rw [List.length_append, List.length_singleton]; omega)
    refine ⟨c2, ?_, ?_, zeq_trans z1 z2⟩
    · show fX7_putNumber_L45S N p0 (fX7_putNumber_L45 N p0 M) (lN v) (lN (10 ^ (k + 1))) c = _
      unfold fX7_putNumber_L45S
      rw [if_neg d2, if_pos d3, d1, e1, zbn_s, ten_div k (by omega), e2]
    · rw [List.append_assoc] at h2
      exact h2
set_option maxHeartbeats 400000 in
theorem l_digM {N v : Nat} (hv : v < 2 ^ 32) : ∀ k M c l, k ≤ 9 → k + 1 < M → zOV l c → l.length + (k + 1) ≤ 6000 → ∃ c', fX10_sayNumber_L21 N (lN v) M (lN (10 ^ k)) c = some (.inr c') ∧ zOV (l ++ zdt v k) c' ∧ zeq [3329] [44] c c' := by
  have hend : ∀ M c, fX10_sayNumber_L21 N (lN v) (M + 1) 0 c = some (.inr c) := fun M c => by
    show fX10_sayNumber_L21S N (lN v) (fX10_sayNumber_L21 N (lN v) M) 0 c = _
    unfold fX10_sayNumber_L21S
    rw [if_pos (by decide)]
  intro k
  induction k with
  | zero =>
    intro M c l hk hM h hl
    obtain ⟨M, rfl⟩ : ∃ q, M = q + 1 + 1 := ⟨M - 2, by omega⟩
    obtain ⟨d1, d2, d3⟩ := dig_x hv hk
    obtain ⟨c1, e1, h1, z1⟩ := m_byte (N := N) (x := nI (48 + v / 10 ^ 0 % 10)) h (by omega)
    refine ⟨c1, ?_, ?_, z1⟩
    · show fX10_sayNumber_L21S N (lN v) (fX10_sayNumber_L21 N (lN v) (M + 1)) (lN (10 ^ 0)) c = _
      unfold fX10_sayNumber_L21S
      rw [if_neg d2, if_pos d3, d1, e1, zbn_s, show lN (10 ^ 0) / 10 = 0 by decide, hend]
    · rw [Nat.pow_zero, Nat.div_one] at h1
      exact h1
  | succ k ih =>
    intro M c l hk hM h hl
    obtain ⟨M, rfl⟩ : ∃ q, M = q + 1 := ⟨M - 1, by omega⟩
    obtain ⟨d1, d2, d3⟩ := dig_x hv hk
    obtain ⟨c1, e1, h1, z1⟩ := m_byte (N := N) (x := nI (48 + v / 10 ^ (k + 1) % 10)) h (by omega)
    obtain ⟨c2, e2, h2, z2⟩ := ih M c1 (l ++ [nI (48 + v / 10 ^ (k + 1) % 10)]) (by omega) (by omega) h1 (by rw [List.length_append, List.length_singleton]; omega)
    refine ⟨c2, ?_, ?_, zeq_trans z1 z2⟩
    · show fX10_sayNumber_L21S N (lN v) (fX10_sayNumber_L21 N (lN v) M) (lN (10 ^ (k + 1))) c = _
      unfold fX10_sayNumber_L21S
      rw [if_neg d2, if_pos d3, d1, e1, zbn_s, ten_div k (by omega), e2]
    · rw [List.append_assoc] at h2
      exact h2
set_option maxHeartbeats 400000 in
theorem l_unitC {N v k : Nat} {p0 : Int32} {c : zS} (hv : v < 2 ^ 32) (hk : k ≤ 9) (h1 : v < 10 ^ (k + 1)) (h2 : ∀ j, j < k → ¬ v < 10 ^ (j + 1)) : ∀ d i M, i + d = k → d < M → fX7_putNumber_L13 N p0 M (lN v) (lN (10 ^ i)) (nI (i + 1)) c = some (.inr (lN v, lN (10 ^ k), c)) := by
  have hm : ∀ i, lN (10 ^ i) * 10 = lN (10 ^ (i + 1)) := fun i => by rw [Nat.pow_succ]; exact lN_mul _ 10
  intro d
  induction d with
  | zero =>
    intro i M hi hM
    obtain ⟨M, rfl⟩ : ∃ q, M = q + 1 := ⟨M - 1, by omega⟩
    have e : i = k := by omega
    subst e
    show fX7_putNumber_L13S N p0 (fX7_putNumber_L13 N p0 M) (lN v) (lN (10 ^ i)) (nI (i + 1)) c = _
    unfold fX7_putNumber_L13S
    by_cases c9 : i = 9
    · rw [if_pos (show (10 : Int32) ≤ nI (i + 1) by rw [c9]; decide)]
    · have ht := ten_le (show i + 1 ≤ 10 by omega)
      rw [if_neg (show ¬ (10 : Int32) ≤ nI (i + 1) from nI_ge (b := 10) (by omega) (by decide)), hm, if_pos ((lg_cmp_gt _ _).mpr ((pk_lLT (by omega) (by omega)).mpr h1))]
  | succ d ih =>
    intro i M hi hM
    obtain ⟨M, rfl⟩ : ∃ q, M = q + 1 := ⟨M - 1, by omega⟩
    have ht := ten_le (show i + 1 ≤ 10 by omega)
    have hlt := h2 i (by omega)
    show fX7_putNumber_L13S N p0 (fX7_putNumber_L13 N p0 M) (lN v) (lN (10 ^ i)) (nI (i + 1)) c = _
    unfold fX7_putNumber_L13S
    rw [if_neg (show ¬ (10 : Int32) ≤ nI (i + 1) from nI_ge (b := 10) (by omega) (by decide)), hm, if_neg (fun z => hlt ((pk_lLT (by omega) (by omega)).mp ((lg_cmp_gt _ _).mp z))), nI_1]
    exact ih (i + 1) M (by omega) (by omega)
set_option maxHeartbeats 400000 in
theorem l_unitM {N v k : Nat} {c : zS} (hv : v < 2 ^ 32) (hk : k ≤ 9) (h1 : v < 10 ^ (k + 1)) (h2 : ∀ j, j < k → ¬ v < 10 ^ (j + 1)) : ∀ d i M, i + d = k → d < M → fX10_sayNumber_L2 N (lN v) M (lN (10 ^ i)) c = some (.inr (lN (10 ^ k), c)) := by
  have hm : ∀ i, 10 * lN (10 ^ i) = lN (10 ^ (i + 1)) := fun i => by rw [Nat.pow_succ, Nat.mul_comm]; exact lN_mul 10 _
  have hst : ∀ i, i ≤ 9 → ¬ lN (10 ^ i) = 0 ∧ (lg_cmp (lN v / lN (10 ^ i)) 9 ≤ 0 ↔ v < 10 ^ (i + 1)) := by
    intro i hi
    have ht := ten_le (show i ≤ 10 by omega)
    refine ⟨fun z => ?_, ?_⟩
    · have := (pk_lEQ (b := 0) (by omega) (by omega)).mp z
      omega
    have e1 : lN v / lN (10 ^ i) = lN (v / 10 ^ i) := pk_lDiv (by omega) ht.2 (by omega)
    have hq : v / 10 ^ i ≤ v := Nat.div_le_self _ _
    rw [e1, lg_cmp_le]
    constructor
    · intro z
      have h9 := (pk_lLE (b := 9) (by omega) (by omega)).mp z
      have h8 : v / 10 ^ i < 10 := by omega
      have h7 := (Nat.div_lt_iff_lt_mul ht.2).mp h8
      rw [Nat.pow_succ, Nat.mul_comm]
      exact h7
    · intro z
      have h7 : v / 10 ^ i < 10 := (Nat.div_lt_iff_lt_mul ht.2).mpr (by rw [Nat.mul_comm, ← Nat.pow_succ]; exact z)
      exact (pk_lLE (b := 9) (by omega) (by omega)).mpr (by omega)
  intro d
  induction d with
  | zero =>
    intro i M hi hM
    obtain ⟨M, rfl⟩ : ∃ q, M = q + 1 := ⟨M - 1, by omega⟩
    have e : i = k := by omega
    subst e
    show fX10_sayNumber_L2S N (lN v) (fX10_sayNumber_L2 N (lN v) M) (lN (10 ^ i)) c = _
    unfold fX10_sayNumber_L2S
    rw [if_pos (hst i hk).1, if_pos ((hst i hk).2.mpr h1)]
  | succ d ih =>
    intro i M hi hM
    obtain ⟨M, rfl⟩ : ∃ q, M = q + 1 := ⟨M - 1, by omega⟩
    show fX10_sayNumber_L2S N (lN v) (fX10_sayNumber_L2 N (lN v) M) (lN (10 ^ i)) c = _
    unfold fX10_sayNumber_L2S
    rw [if_pos (hst i (by omega)).1, if_neg (fun z => h2 i (by omega) ((hst i (by omega)).2.mp z)), hm]
    exact ih (i + 1) M (by omega) (by omega)
theorem num_k {v : Nat} (hv : v < 2 ^ 32) : ∃ k, k ≤ 9 ∧ v < 10 ^ (k + 1) ∧ (∀ j, j < k → ¬ v < 10 ^ (j + 1)) ∧ (v < 10 → k = 0) := by
  obtain ⟨k, h1, h2⟩ := pk_least (fun k => v < 10 ^ (k + 1)) ⟨9, by show v < 10 ^ 10; omega⟩
  refine ⟨k, ?_, h1, h2, fun h => ?_⟩
  · apply Classical.byContradiction
    intro z
    exact h2 9 (by omega) (by show v < 10 ^ 10; omega)
  · apply Classical.byContradiction
    intro z
    exact h2 0 (by omega) (by show v < 10 ^ 1; omega)
/-- a number's text -/
theorem n_text {v : Nat} (hv : v < 2 ^ 32) : ∃ w : List Int32, w.length ≤ 10 ∧ (v < 10 → w.length = 1) ∧ (v < 100 → w.length ≤ 2) ∧ (v < 10 → w = [nI (48 + v)]) ∧ (∀ (N : Nat) (x : Int32) (c : zS) (l : List Int32), 100 ≤ N → x.toInt64 &&& 4294967295 = lN v → zOU l c → l.length + w.length ≤ 6000 → zCo (fX7_putNumber N x c) c l w) ∧ (∀ (N : Nat) (m : zS) (l : List Int32), 100 ≤ N → zOV l m → l.length + w.length ≤ 6000 → zMo (fX10_sayNumber N (lN v) m) m l w) := by
  obtain ⟨k, h1, h2, h3, h4⟩ := num_k hv
  refine ⟨zdt v k, ?_, fun h => ?_, fun h => ?_, fun h => ?_, ?_, ?_⟩
  · rw [zdt_l]; omega
  · rw [zdt_l, h4 h]
  · rw [zdt_l]
    have : k ≤ 1 := by
      apply Classical.byContradiction
      intro z
      exact h3 1 (by omega) (by show v < 10 ^ 2; omega)
    omega
  · rw [h4 h]
    show [nI (48 + v % 10)] = _
    rw [Nat.mod_eq_of_lt h]
  · intro N x c l hN hx h hl
    rw [zdt_l] at hl
    obtain ⟨c', e1, e2, e3⟩ := l_digC (N := N) (p0 := x) hv k N c l h1 (by omega) h (by omega)
    refine ⟨c', ?_, e2, e3⟩
    have h9 := l_unitC (N := N) (p0 := x) (c := c) hv h1 h2 h3 k 0 N (by omega) (by omega)
    unfold fX7_putNumber
    rw [hx, show (1 : Int64) = lN (10 ^ 0) from rfl, show (1 : Int32) = nI (0 + 1) from rfl, h9, zbl_r]
    show zbl (fX7_putNumber_L45 N x N (lN v) (lN (10 ^ k)) c) (fun x => some x) (fun s16 => some ((), s16)) = _
    rw [e1, zbl_r]
  · intro N m l hN h hl
    rw [zdt_l] at hl
    obtain ⟨c', e1, e2, e3⟩ := l_digM (N := N) hv k N m l h1 (by omega) h (by omega)
    refine ⟨c', ?_, e2, e3⟩
    have h9 := l_unitM (N := N) (c := m) hv h1 h2 h3 k 0 N (by omega) (by omega)
    unfold fX10_sayNumber
    rw [show (1 : Int64) = lN (10 ^ 0) from rfl, h9, zbl_r]
    show zbl (fX10_sayNumber_L21 N (lN v) N (lN (10 ^ k)) m) (fun x => some x) (fun s16 => some ((), s16)) = _
    rw [e1, zbl_r]
theorem n_val (x : Int32) : ∃ v : Nat, v < 2 ^ 32 ∧ x.toInt64 &&& 4294967295 = lN v := by
  refine ⟨x.toInt64.toBitVec.toNat % 2 ^ 32, Nat.mod_lt _ (by decide), ?_⟩
  apply Int64.toBitVec_inj.mp
  apply BitVec.eq_of_toNat_eq
  rw [Int64.toBitVec_and, BitVec.toNat_and, show (4294967295 : Int64).toBitVec.toNat = 2 ^ 32 - 1 by decide, Nat.and_two_pow_sub_one_eq_mod]
  show _ = (BitVec.ofNat 64 _).toNat
  rw [BitVec.toNat_ofNat]
  exact (Nat.mod_eq_of_lt (Nat.lt_of_lt_of_le (Nat.mod_lt _ (by decide)) (by decide))).symm
theorem n_valI {r : Nat} (h : r < 2 ^ 31) : (nI r).toInt64 &&& 4294967295 = lN r := by
  rw [nI_l h]
  apply Int64.toBitVec_inj.mp
  apply BitVec.eq_of_toNat_eq
  rw [Int64.toBitVec_and, BitVec.toNat_and, show (4294967295 : Int64).toBitVec.toNat = 2 ^ 32 - 1 by decide, Nat.and_two_pow_sub_one_eq_mod]
  show (BitVec.ofNat 64 r).toNat % 2 ^ 32 = (BitVec.ofNat 64 r).toNat
  rw [BitVec.toNat_ofNat, Nat.mod_eq_of_lt (show r < 2 ^ 64 by omega), Nat.mod_eq_of_lt (by omega)]
