def zYC (s c : zS) : Prop := zeq [3001, 3003, 3004] [31, 32] s c
def zYM (s m : zS) : Prop := ∀ a, a ∈ [36, 37, 38, 39, 40, 41, 42, 49] → m.2.1 a = s.2.1 a
theorem zYC_s {s c c' : zS} (h : zYC s c) (hz : zeq [3001] [31] c c') : zYC s c' := zeq_trans h (zeq_mono hz (by decide) (by decide))
theorem zYM_s {s m m' : zS} (h : zYM s m) (hz : zeq [3329] [44] m m') : zYM s m' := fun a ha => (hz.2.1 a (by
  simp only [List.mem_cons, List.not_mem_nil, or_false] at ha ⊢
  omega)).trans (h a ha)
def zBx (B n0 n1 n2 n3 nb nl : Nat) (s : zS) : Prop := zBk B ∧ zTbl s ∧ zBR B 1 n0 n1 n2 n3 nb nl s s
theorem xk {B n0 n1 n2 n3 nb nl : Nat} {s c : zS} (hx : zBx B n0 n1 n2 n3 nb nl s) (hc : zYC s c) : ∀ k, k < 3000 → c.1 k = s.1 k := fun k hk => hc.1 k (by simp only [List.mem_cons, List.not_mem_nil, or_false]; omega)
theorem xa {B n0 n1 n2 n3 nb nl : Nat} {s c : zS} (hx : zBx B n0 n1 n2 n3 nb nl s) (hc : zYC s c) : ∀ a, a < 31 → c.2.1 a = s.2.1 a := fun a ha => hc.2.1 a (by simp only [List.mem_cons, List.not_mem_nil, or_false]; omega)
set_option maxHeartbeats 400000 in
theorem x_cell {B n0 n1 n2 n3 nb nl N : Nat} {s c : zS} (hx : zBx B n0 n1 n2 n3 nb nl s) (hc : zYC s c) (d : Int32) : (∀ k j (y : Int32), k < n0 → j < 6 → y = nI j → fX6_cell N (B + 1) (nI k) y d c = some (s.2.1 (B + 2) (k * 6 + j), c)) ∧ (∀ k j (y : Int32), k < n1 → j < 8 → y = nI j → fX6_cell N (B + 3) (nI k) y d c = some (s.2.1 (B + 4) (k * 8 + j), c)) ∧ (∀ k j (y : Int32), k < n2 → j < 2 → y = nI j → fX6_cell N (B + 5) (nI k) y d c = some (s.2.1 (B + 6) (k * 2 + j), c)) ∧ (∀ k j (y : Int32), k < n3 → j < 2 → y = nI j → fX6_cell N (B + 7) (nI k) y d c = some (s.2.1 (B + 8) (k * 2 + j), c)) := by
  obtain ⟨hb, hT, ⟨a1, a2, -, -⟩, ⟨b1, b2, -, -⟩, ⟨c1, c2, -, -⟩, ⟨d1, d2, -, -⟩, -⟩ := id hx
  have hbb := zb_lt hb
  obtain ⟨⟨t1, -⟩, ⟨t2, -⟩, ⟨t3, -⟩, ⟨t4, -⟩⟩ := hT.2.2 B hb
  have K := xk hx hc
  have A := xa hx hc
  refine ⟨fun k j y hk hj hy => ?_, fun k j y hk hj hy => ?_, fun k j y hk hj hy => ?_, fun k j y hk hj hy => ?_⟩
  · rw [hy, q_cell_in (a := B + 1) 6 n0 k j 2400 ((K _ (by omega)).trans t1) ((K _ (by omega)).trans a2) (zlen_b hb).1 hk hj (by omega) (by omega) (by omega) (by omega), A _ (by omega)]
  · rw [hy, q_cell_in (a := B + 3) 8 n1 k j 6400 ((K _ (by omega)).trans t2) ((K _ (by omega)).trans b2) (zlen_b hb).2.1 hk hj (by omega) (by omega) (by omega) (by omega), A _ (by omega)]
  · rw [hy, q_cell_in (a := B + 5) 2 n2 k j 4000 ((K _ (by omega)).trans t3) ((K _ (by omega)).trans c2) (zlen_b hb).2.2.1 hk hj (by omega) (by omega) (by omega) (by omega), A _ (by omega)]
  · rw [hy, q_cell_in (a := B + 7) 2 n3 k j 300 ((K _ (by omega)).trans t4) ((K _ (by omega)).trans d2) (zlen_b hb).2.2.2.1 hk hj (by omega) (by omega) (by omega) (by omega), A _ (by omega)]
def zrg (g : Nat → Int32) : Nat → List Int32
  | 0 => []
  | k + 1 => zrg g k ++ [g k]
theorem zrg_l (g : Nat → Int32) : ∀ k, (zrg g k).length = k
  | 0 => rfl
  | k + 1 => by
    show (zrg g k ++ [g k]).length = k + 1
    rw [List.length_append, zrg_l g k]
    rfl
set_option maxHeartbeats 400000 in
theorem l_nameC {N B p len : Nat} {p1 : Int32} {g : Nat → Int32} {l : List Int32} (hb : zBk B) (hp : p + len ≤ 3000) (hl : l.length + len ≤ 6000) : ∀ d j M c, j + d = len → d < M → (∀ i, i < len → c.2.1 (B + 9) (p + i) = g i) → zOU (l ++ zrg g j) c → ∃ c', fX7_putName_L28 N B p1 M (nI (p + len)) (nI (p + j)) c = some (.inr c') ∧ zOU (l ++ zrg g len) c' ∧ zeq [3001] [31] c c' := by
  have hbb := zb_lt hb
  intro d
  induction d with
  | zero =>
    intro j M c hj hM hg h
    obtain ⟨M, rfl⟩ : ∃ q, M = q + 1 := ⟨M - 1, by omega⟩
    have e : j = len := by omega
    subst e
    refine ⟨c, ?_, h, zeq_refl _ _ _⟩
    show fX7_putName_L28S N B p1 (fX7_putName_L28 N B p1 M) (nI (p + j)) (nI (p + j)) c = _
    unfold fX7_putName_L28S
    rw [if_neg (nI_pos (by omega)), if_pos (nI_le (Nat.le_refl _) (by omega))]
  | succ d ih =>
    intro j M c hj hM hg h
    obtain ⟨M, rfl⟩ : ∃ q, M = q + 1 := ⟨M - 1, by omega⟩
    obtain ⟨c1, e1, h1, z1⟩ := c_byte (N := N) (x := g j) h (by rw [List.length_append, zrg_l]; omega)
    rw [List.append_assoc] at h1
    obtain ⟨c2, e2, h2, z2⟩ := ih (j + 1) M c1 (by omega) (by omega) (fun i hi => by rw [z1.2.1 _ (by simp; omega)]; exact hg i hi) h1
    refine ⟨c2, ?_, h2, zeq_trans z1 z2⟩
    show fX7_putName_L28S N B p1 (fX7_putName_L28 N B p1 M) (nI (p + len)) (nI (p + j)) c = _
    unfold fX7_putName_L28S
    rw [if_neg (nI_pos (by omega)), if_neg (nI_ge (by omega) (by omega)), (zlen_b hb).2.2.2.2, if_neg (nI_ge (show p + j < 3000 by omega) (by decide)), if_pos (zga_n (show p + j < 3000 by omega) (by decide)), nI_clamp (by omega), hg j (by omega), e1, zbn_s, nI_1]
    exact e2
set_option maxHeartbeats 400000 in
theorem l_nameM {N k len : Nat} {g : Nat → Int32} {l : List Int32} (hk : k < 150) (hlen : len ≤ 16) (hl : l.length + len ≤ 6000) : ∀ d j M c, j + d = len → d < M → c.2.1 41 (150 + k) = nI len → (∀ i, i < len → c.2.1 40 (2400 + 16 * k + i) = g i) → zOV (l ++ zrg g j) c → ∃ c', fX10_sayName_L2 N (nI k) M (nI j) c = some (.inr c') ∧ zOV (l ++ zrg g len) c' ∧ zeq [3329] [44] c c' := by
  have e1 : (150 : Int32) + nI k = nI (150 + k) := nI_add 150 k
  have e2 : (2400 : Int32) + 16 * nI k = nI (2400 + 16 * k) := by rw [show (16 : Int32) * nI k = nI (16 * k) from pk_mul 16 k]; exact nI_add 2400 _
  have z1 : zga (nI (150 + k)) (zlen 41) = true := zga_l (by rfl) (show 150 + k < 300 by omega) (by decide)
  intro d
  induction d with
  | zero =>
    intro j M c hj hM h41 hg h
    obtain ⟨M, rfl⟩ : ∃ q, M = q + 1 := ⟨M - 1, by omega⟩
    have e : j = len := by omega
    subst e
    refine ⟨c, ?_, h, zeq_refl _ _ _⟩
    show fX10_sayName_L2S N (nI k) (fX10_sayName_L2 N (nI k) M) (nI j) c = _
    unfold fX10_sayName_L2S
    rw [e1, if_pos z1, nI_clamp (by omega), h41, if_pos (nI_le (Nat.le_refl _) (by omega))]
  | succ d ih =>
    intro j M c hj hM h41 hg h
    obtain ⟨M, rfl⟩ : ∃ q, M = q + 1 := ⟨M - 1, by omega⟩
    obtain ⟨c1, f1, h1, w1⟩ := m_byte (N := N) (x := g j) h (by rw [List.length_append, zrg_l]; omega)
    rw [List.append_assoc] at h1
    obtain ⟨c2, f2, h2, w2⟩ := ih (j + 1) M c1 (by omega) (by omega) (by rw [w1.2.1 41 (by decide)]; exact h41) (fun i hi => by rw [w1.2.1 40 (by decide)]; exact hg i hi) h1
    refine ⟨c2, ?_, h2, zeq_trans w1 w2⟩
    show fX10_sayName_L2S N (nI k) (fX10_sayName_L2 N (nI k) M) (nI j) c = _
    unfold fX10_sayName_L2S
    rw [e1, if_pos z1, nI_clamp (by omega), h41, if_neg (nI_ge (by omega) (by omega)), e2, nI_add, if_pos (zga_l (by rfl) (show 2400 + 16 * k + j < 4800 by omega) (by decide)), nI_clamp (by omega), hg j (by omega), f1, zbn_s, nI_1]
    exact f2
set_option maxHeartbeats 400000 in
theorem nm_text {B n0 n1 n2 n3 nb nl k : Nat} {s : zS} (hx : zBx B n0 n1 n2 n3 nb nl s) (hk : k < n3) : ∃ w : List Int32, w.length ≤ 16 ∧ s.2.1 (B + 8) (k * 2 + 1) = nI w.length ∧ (∀ (N : Nat) (c : zS) (l : List Int32), 100 ≤ N → zYC s c → zOU l c → l.length + w.length ≤ 6000 → zCo (fX7_putName N B (nI k) c) c l w) ∧ (∀ (N : Nat) (m : zS) (l : List Int32), 100 ≤ N → zYM s m → zOV l m → l.length + w.length ≤ 6000 → zMo (fX10_sayName N (nI k) m) m l w) := by
  obtain ⟨hb, hT, -, -, -, ⟨d1, d2, d3, d4⟩, ⟨e1, -⟩⟩ := id hx
  have hbb := zb_lt hb
  obtain ⟨p, len, t1, t2, t3, t4, t5, t6, t7⟩ := d4 k hk
  refine ⟨zrg (fun i => s.2.1 (B + 9) (p + i)) len, by rw [zrg_l]; omega, by rw [zrg_l]; exact t5, ?_, ?_⟩
  · intro N c l hN hc h hl
    rw [zrg_l] at hl
    obtain ⟨c', f1, f2, f3⟩ := l_nameC (N := N) (p := p) (len := len) (p1 := nI k) (g := fun i => s.2.1 (B + 9) (p + i)) (l := l) hb (by omega) hl len 0 N c (by omega) (by omega) (fun i _ => by rw [xa hx hc _ (by omega)]) (by show zOU (l ++ []) c; rw [List.append_nil]; exact h)
    refine ⟨c', ?_, f2, f3⟩
    unfold fX7_putName
    rw [(x_cell hx hc 0).2.2.2 k 0 0 hk (by omega) rfl, zbn_s, (x_cell hx hc 0).2.2.2 k 1 1 hk (by omega) rfl, zbn_s, t4, t5, nI_add]
    rw [show (nI p : Int32) = nI (p + 0) from rfl, f1, zbl_r]
  · intro N m l hN hm h hl
    rw [zrg_l] at hl
    obtain ⟨c', f1, f2, f3⟩ := l_nameM (N := N) (k := k) (len := len) (g := fun i => s.2.1 (B + 9) (p + i)) (l := l) (by omega) t2 hl len 0 N m (by omega) (by omega) (by rw [hm 41 (by decide)]; exact t6) (fun i hi => by rw [hm 40 (by decide)]; exact (t7 i hi).symm) (by show zOV (l ++ []) m; rw [List.append_nil]; exact h)
    refine ⟨c', ?_, f2, f3⟩
    unfold fX10_sayName
    rw [show (0 : Int32) = nI 0 from rfl, f1, zbl_r]
set_option maxHeartbeats 400000 in
theorem rg_text {B n0 n1 n2 n3 nb nl r : Nat} {s : zS} (hx : zBx B n0 n1 n2 n3 nb nl s) (hr : r < 32) : ∃ w : List Int32, w.length ≤ 3 ∧ (∀ (N j : Nat) (c : zS) (l : List Int32), 100 ≤ N → j < n1 → s.2.1 (B + 4) (j * 8 + 1) = nI r → zYC s c → zOU l c → l.length + w.length ≤ 6000 → zCo (fX7_putRegister N B (nI j) c) c l w) ∧ (∀ (N : Nat) (m : zS) (l : List Int32), 100 ≤ N → zOV l m → l.length + w.length ≤ 6000 → zMo (fX10_sayRegister N (nI r) m) m l w) := by
  obtain ⟨w, w1, w2, w3, -, w4, w5⟩ := n_text (v := r) (by omega)
  have w6 := w3 (by omega)
  refine ⟨[120] ++ w, by rw [List.length_append, List.length_singleton]; omega, ?_, ?_⟩
  · intro N j c l hN hj hv hc h hl
    rw [List.length_append, List.length_singleton] at hl
    unfold fX7_putRegister
    refine zCo_seq (c_byte h (by omega)) (fun c' h' z' => ?_)
    have hc' := zYC_s hc z'
    rw [(x_cell hx hc' 0).2.1 j 1 1 hj (by omega) rfl, zbn_s, hv]
    exact zCo_ret (w4 N (nI r) c' _ hN (n_valI (by omega)) h' (by rw [List.length_append, List.length_singleton]; omega))
  · intro N m l hN h hl
    rw [List.length_append, List.length_singleton] at hl
    unfold fX10_sayRegister
    refine zMo_seq (m_byte h (by omega)) (fun c' h' z' => ?_)
    rw [nI_l (by omega)]
    exact zMo_ret (w5 N c' _ hN h' (by rw [List.length_append, List.length_singleton]; omega))
def zesx (b : Int32) : List Int32 := if b = 0 then [92, 48] else if b = 9 then [92, 116] else if b = 10 then [92, 110] else if b = 34 then [92, 34] else if b = 92 then [92, 92] else [b]
theorem zesx_l (b : Int32) : (zesx b).length ≤ 2 := by
  unfold zesx
  repeat' split
  all_goals exact Nat.le_of_ble_eq_true rfl
def zEs (g : Nat → Int32) : Nat → List Int32
  | 0 => []
  | k + 1 => zEs g k ++ zesx (g k)
theorem zEs_l (g : Nat → Int32) : ∀ k, (zEs g k).length ≤ 2 * k
  | 0 => Nat.le_refl _
  | k + 1 => by
    have h1 := zEs_l g k
    have h2 := zesx_l (g k)
    show (zEs g k ++ zesx (g k)).length ≤ 2 * (k + 1)
    rw [List.length_append]
    omega
theorem zEs_mono (g : Nat → Int32) : ∀ d k, (zEs g k).length ≤ (zEs g (k + d)).length
  | 0, k => Nat.le_refl _
  | d + 1, k => by
    have h1 := zEs_mono g d k
    show (zEs g k).length ≤ (zEs g (k + d) ++ zesx (g (k + d))).length
    rw [List.length_append]
    omega
set_option maxHeartbeats 400000 in
theorem c_sb {N : Nat} {b : Int32} {c : zS} {l : List Int32} (h : zOU l c) (hl : l.length + (zesx b).length ≤ 6000) (hN : 100 ≤ N) : zCo (fX7_putStringByte N b c) c l (zesx b) := by
  unfold fX7_putStringByte
  unfold zesx at hl ⊢
  by_cases q0 : b = 0
  · rw [if_pos q0] at hl ⊢; rw [if_pos q0]
    exact zCo_ret (c_text (a := 1004) (by decide) h hl hN)
  rw [if_neg q0] at hl ⊢; rw [if_neg q0]
  by_cases q1 : b = 9
  · rw [if_pos q1] at hl ⊢; rw [if_pos q1]
    exact zCo_ret (c_text (a := 1003) (by decide) h hl hN)
  rw [if_neg q1] at hl ⊢; rw [if_neg q1]
  by_cases q2 : b = 10
  · rw [if_pos q2] at hl ⊢; rw [if_pos q2]
    exact zCo_ret (c_text (a := 1002) (by decide) h hl hN)
  rw [if_neg q2] at hl ⊢; rw [if_neg q2]
  by_cases q3 : b = 34
  · rw [if_pos q3] at hl ⊢; rw [if_pos q3]
    exact zCo_ret (c_text (a := 1006) (by decide) h hl hN)
  rw [if_neg q3] at hl ⊢; rw [if_neg q3]
  by_cases q4 : b = 92
  · rw [if_pos q4] at hl ⊢; rw [if_pos q4]
    exact zCo_ret (c_text (a := 1005) (by decide) h hl hN)
  rw [if_neg q4] at hl ⊢; rw [if_neg q4]
  exact zCo_ret (c_byte h (by rw [List.length_singleton] at hl; omega))
