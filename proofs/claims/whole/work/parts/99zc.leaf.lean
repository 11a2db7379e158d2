set_option maxHeartbeats 1000000 in
theorem l_strT {B n0 n1 n2 n3 nb nl N j p len : Nat} {s : zS} {l : List Int32} {g : Nat → Int32} (hx : zBx B n0 n1 n2 n3 nb nl s) (hj : j < n1) (h7 : s.2.1 (B + 4) (j * 8 + 7) = nI p) (h6 : s.2.1 (B + 4) (j * 8 + 6) = nI len) (hp : p + len ≤ 3000) (hg : ∀ i, i < len → s.2.1 (B + 9) (p + i) = g i) (hN : 100 ≤ N) (hl : l.length + (zEs g len).length ≤ 6000) : ∀ d k M c, k + d = len → d < M → zYC s c → zOU (l ++ zEs g k) c → ∃ c', fX7_putString_L21 N B (nI j) M (nI len) (nI k) c = some (.inr c') ∧ zOU (l ++ zEs g len) c' ∧ zeq [3001] [31] c c' := by
  have hb := hx.1
  have hbb := zb_lt hb
  intro d
  induction d with
  | zero =>
    intro k M c hk hM hc h
    obtain ⟨M, rfl⟩ : ∃ q, M = q + 1 := ⟨M - 1, by omega⟩
    have e : k = len := by omega
    subst e
    refine ⟨c, ?_, h, zeq_refl _ _ _⟩
    show fX7_putString_L21S N B (nI j) (fX7_putString_L21 N B (nI j) M) (nI k) (nI k) c = _
    unfold fX7_putString_L21S
    rw [if_pos (nI_le (Nat.le_refl _) (by omega))]
  | succ d ih =>
    intro k M c hk hM hc h
    obtain ⟨M, rfl⟩ : ∃ q, M = q + 1 := ⟨M - 1, by omega⟩
    have hm := zEs_mono g (len - (k + 1)) (k + 1)
    rw [show k + 1 + (len - (k + 1)) = len by omega, show zEs g (k + 1) = zEs g k ++ zesx (g k) from rfl, List.length_append] at hm
    obtain ⟨c1, e1, h1, z1⟩ := c_sb (N := N) (b := g k) h (by rw [List.length_append]; omega) hN
    rw [List.append_assoc] at h1
    obtain ⟨c2, e2, h2, z2⟩ := ih (k + 1) M c1 (by omega) (by omega) (zYC_s hc z1) h1
    refine ⟨c2, ?_, h2, zeq_trans z1 z2⟩
    have hby : fX0_byteOfString N B (nI j) (nI k) c = some (g k, c) := by
      unfold fX0_byteOfString
      rw [(x_cell hx hc 0).2.1 j 7 7 hj (by omega) rfl, zbn_s, (x_cell hx hc 0).2.1 j 6 6 hj (by omega) rfl, zbn_s, h7, h6, q_behind hb (by omega) hp, zbn_s, xa hx hc _ (by omega), hg k (by omega)]
    show fX7_putString_L21S N B (nI j) (fX7_putString_L21 N B (nI j) M) (nI len) (nI k) c = _
    unfold fX7_putString_L21S
    rw [if_neg (nI_ge (by omega) (by omega)), hby, zbn_s, e1, zbn_s, nI_1, e2]
set_option maxHeartbeats 1000000 in
theorem m_sb {N : Nat} {p0 v2 b : Int32} {rec : Int32 → zS → Option ((Unit × zS) ⊕ (zS))} {m : zS} {l : List Int32} (h : zOV l m) (hl : l.length + (zesx b).length ≤ 6000) : ∃ m', zOV (l ++ zesx b) m' ∧ zeq [3329] [44] m m' ∧ (if b = 10 then fX10_sayString_J78 N p0 rec v2 b m else if b = 9 then fX10_sayString_J78 N p0 rec v2 b m else if b = 0 then fX10_sayString_J78 N p0 rec v2 b m else if b = 92 then fX10_sayString_J78 N p0 rec v2 b m else if b = 34 then fX10_sayString_J78 N p0 rec v2 b m else fX10_sayString_J84 N p0 rec v2 b m) = rec (v2 + 1) m' := by
  have two : ∀ y : Int32, l.length + 2 ≤ 6000 → ∃ m1 m', fX10_say N 92 m = some ((), m1) ∧ fX10_say N y m1 = some ((), m') ∧ zOV (l ++ [92, y]) m' ∧ zeq [3329] [44] m m' := by
    intro y hl
    obtain ⟨m1, e1, h1, z1⟩ := m_byte (N := N) (x := 92) h (by omega)
    obtain ⟨m2, e2, h2, z2⟩ := m_byte (N := N) (x := y) h1 (by rw [List.length_append, List.length_singleton]; omega)
    rw [List.append_assoc] at h2
    exact ⟨m1, m2, e1, e2, h2, zeq_trans z1 z2⟩
  by_cases q2 : b = 10
  · subst q2
    obtain ⟨m1, m', e1, e2, h2, z2⟩ := two 110 hl
    refine ⟨m', h2, z2, ?_⟩
    rw [if_pos rfl]
    unfold fX10_sayString_J78 fX10_sayString_J84
    rw [e1, zbn_s, if_pos rfl, e2, zbn_s]
  rw [if_neg q2]
  by_cases q1 : b = 9
  · subst q1
    obtain ⟨m1, m', e1, e2, h2, z2⟩ := two 116 hl
    refine ⟨m', h2, z2, ?_⟩
    rw [if_pos rfl]
    unfold fX10_sayString_J78 fX10_sayString_J84
    rw [e1, zbn_s, if_neg (by decide), if_pos rfl, e2, zbn_s]
  rw [if_neg q1]
  by_cases q0 : b = 0
  · subst q0
    obtain ⟨m1, m', e1, e2, h2, z2⟩ := two 48 hl
    refine ⟨m', h2, z2, ?_⟩
    rw [if_pos rfl]
    unfold fX10_sayString_J78 fX10_sayString_J84
    rw [e1, zbn_s, if_neg (by decide), if_neg (by decide), if_pos rfl, e2, zbn_s]
  rw [if_neg q0]
  by_cases q4 : b = 92
  · subst q4
    obtain ⟨m1, m', e1, e2, h2, z2⟩ := two 92 hl
    refine ⟨m', h2, z2, ?_⟩
    rw [if_pos rfl]
    unfold fX10_sayString_J78 fX10_sayString_J84
    rw [e1, zbn_s, if_neg (by decide), if_neg (by decide), if_neg (by decide), e2, zbn_s]
  rw [if_neg q4]
  by_cases q3 : b = 34
  · subst q3
    obtain ⟨m1, m', e1, e2, h2, z2⟩ := two 34 hl
    refine ⟨m', h2, z2, ?_⟩
    rw [if_pos rfl]
    unfold fX10_sayString_J78 fX10_sayString_J84
    rw [e1, zbn_s, if_neg (by decide), if_neg (by decide), if_neg (by decide), e2, zbn_s]
  rw [if_neg q3]
  have ez : zesx b = [b] := by
    unfold zesx
    rw [if_neg q0, if_neg q1, if_neg q2, if_neg q3, if_neg q4]
  rw [ez] at hl ⊢
  rw [List.length_singleton] at hl
  obtain ⟨m1, e1, h1, z1⟩ := m_byte (N := N) (x := b) h (by omega)
  refine ⟨m1, h1, z1, ?_⟩
  unfold fX10_sayString_J84
  rw [if_neg q2, if_neg q1, if_neg q0, e1, zbn_s]
set_option maxHeartbeats 1000000 in
theorem l_strU {N j q len : Nat} {l : List Int32} {g : Nat → Int32} (hj : j < 800) (hq : q + len ≤ 3000) (hl : l.length + (zEs g len).length ≤ 6000) : ∀ d k M m, k + d = len → d < M → m.2.1 38 (5600 + 7 * j + 6) = nI len → (0 < len → m.2.1 49 (800 + j) = nI q) → (∀ i, i < len → m.2.1 42 (3000 + q + i) = g i) → zOV (l ++ zEs g k) m → ∃ m', fX10_sayString_L8 N (nI j) M (nI k) m = some (.inr m') ∧ zOV (l ++ zEs g len) m' ∧ zeq [3329] [44] m m' := by
  have e1 : (5600 : Int32) + 7 * nI j + 6 = nI (5600 + 7 * j + 6) := by
    rw [show (7 : Int32) * nI j = nI (7 * j) from pk_mul 7 j, show (5600 : Int32) + nI (7 * j) = nI (5600 + 7 * j) from nI_add 5600 _]
    exact nI_add _ 6
  have e2 : (800 : Int32) + nI j = nI (800 + j) := nI_add 800 j
  have z1 : zga (nI (5600 + 7 * j + 6)) (zlen 38) = true := zga_l (by rfl) (show 5600 + 7 * j + 6 < 11200 by omega) (by decide)
  have z2 : zga (nI (800 + j)) (zlen 49) = true := zga_l (by rfl) (show 800 + j < 1600 by omega) (by decide)
  intro d
  induction d with
  | zero =>
    intro k M m hk hM h38 h49 hg h
    obtain ⟨M, rfl⟩ : ∃ q, M = q + 1 := ⟨M - 1, by omega⟩
    have e : k = len := by omega
    subst e
    refine ⟨m, ?_, h, zeq_refl _ _ _⟩
    show fX10_sayString_L8S N (nI j) (fX10_sayString_L8 N (nI j) M) (nI k) m = _
    unfold fX10_sayString_L8S
    rw [e1, if_pos z1, nI_clamp (by omega), h38, if_pos (nI_le (Nat.le_refl _) (by omega))]
  | succ d ih =>
    intro k M m hk hM h38 h49 hg h
    obtain ⟨M, rfl⟩ : ∃ q, M = q + 1 := ⟨M - 1, by omega⟩
    have hm := zEs_mono g (len - (k + 1)) (k + 1)
    rw [show k + 1 + (len - (k + 1)) = len by omega, show zEs g (k + 1) = zEs g k ++ zesx (g k) from rfl, List.length_append] at hm
    obtain ⟨m1, h1, w1, f1⟩ := m_sb (N := N) (p0 := nI j) (v2 := nI k) (b := g k) (rec := fX10_sayString_L8 N (nI j) M) h (by rw [List.length_append]; omega)
    rw [List.append_assoc] at h1
    obtain ⟨m2, f2, h2, w2⟩ := ih (k + 1) M m1 (by omega) (by omega) (by rw [w1.2.1 38 (by decide)]; exact h38) (fun hh => by rw [w1.2.1 49 (by decide)]; exact h49 hh) (fun i hi => by rw [w1.2.1 42 (by decide)]; exact hg i hi) h1
    refine ⟨m2, ?_, h2, zeq_trans w1 w2⟩
    show fX10_sayString_L8S N (nI j) (fX10_sayString_L8 N (nI j) M) (nI k) m = _
    unfold fX10_sayString_L8S
    rw [e1, if_pos z1, nI_clamp (show 5600 + 7 * j + 6 < 2 ^ 31 by omega), h38, if_neg (nI_ge (by omega) (by omega)), e2, if_pos z2, nI_clamp (show 800 + j < 2 ^ 31 by omega), h49 (by omega), show (3000 : Int32) + nI q = nI (3000 + q) from nI_add 3000 q, nI_add, if_pos (zga_l (by rfl) (show 3000 + q + k < 6000 by omega) (by decide)), nI_clamp (show 3000 + q + k < 2 ^ 31 by omega), hg k (by omega), f1, nI_1, f2]
set_option maxHeartbeats 1000000 in
theorem st_text {B n0 n1 n2 n3 nb nl j : Nat} {s : zS} (hx : zBx B n0 n1 n2 n3 nb nl s) (hj : j < n1) {len : Nat} (h6 : s.2.1 (B + 4) (j * 8 + 6) = nI len) (hlen : len ≤ 3000) : ∃ w : List Int32, w.length ≤ 2 * len + 2 ∧ (∀ (N : Nat) (c : zS) (l : List Int32), 3100 ≤ N → zYC s c → zOU l c → l.length + w.length ≤ 6000 → zCo (fX7_putString N B (nI j) c) c l w) ∧ (∀ (N : Nat) (m : zS) (l : List Int32), 3100 ≤ N → zYM s m → zOV l m → l.length + w.length ≤ 6000 → zMo (fX10_sayString N (nI j) m) m l w) := by
  obtain ⟨hb, hT, -, ⟨b1, b2, b3, b4⟩, -, -, ⟨e1, e2, e3, e4⟩⟩ := id hx
  have hbb := zb_lt hb
  obtain ⟨p, q, len', t1, t2, t3, t4, t5, t6⟩ := e4 j hj
  have ee : len' = len := (nI_eq (by omega) (by omega)).mp (t4.symm.trans h6)
  subst ee
  obtain ⟨g, hg⟩ : ∃ g : Nat → Int32, g = fun i => s.2.1 (B + 9) (p + i) := ⟨_, rfl⟩
  have hg1 : ∀ i, i < len' → s.2.1 (B + 9) (p + i) = g i := fun i _ => by rw [hg]
  have hL := zEs_l g len'
  refine ⟨[34] ++ (zEs g len' ++ [34]), by rw [List.length_append, List.length_append, List.length_singleton]; omega, ?_, ?_⟩
  · intro N c l hN hc h hl
    rw [List.length_append, List.length_append, List.length_singleton] at hl
    unfold fX7_putString
    refine zCo_seq (c_byte h (by omega)) (fun c' h' z' => ?_)
    have hc' := zYC_s hc z'
    rw [(x_cell hx hc' 0).2.1 j 6 6 hj (by omega) rfl, zbn_s, t4]
    obtain ⟨c2, f1, f2, f3⟩ := l_strT (N := N) (l := l ++ [34]) hx hj t3 t4 (by omega) hg1 (by omega) (by rw [List.length_append, List.length_singleton]; omega) len' 0 N c' (by omega) (by omega) hc' (by show zOU (l ++ [34] ++ []) c'; rw [List.append_nil]; exact h')
    rw [show (0 : Int32) = nI 0 from rfl, f1, zbl_r]
    obtain ⟨c3, k1, k2, k3⟩ := c_byte (N := N) (x := 34) f2 (by rw [List.length_append, List.length_append, List.length_singleton]; omega)
    refine ⟨c3, by rw [k1, zbn_s], ?_, zeq_trans f3 k3⟩
    rw [List.append_assoc] at k2
    exact k2
  · intro N m l hN hm h hl
    rw [List.length_append, List.length_append, List.length_singleton] at hl
    unfold fX10_sayString
    refine zMo_seq (m_byte h (by omega)) (fun c' h' z' => ?_)
    have hm' := zYM_s hm z'
    have h38 : c'.2.1 38 (5600 + 7 * j + 6) = nI len' := by
      rw [hm' 38 (by decide)]
      exact (b4 j 6 hj (by omega)).symm.trans t4
    obtain ⟨c2, f1, f2, f3⟩ := l_strU (N := N) (j := j) (q := q) (len := len') (g := g) (l := l ++ [34]) (by omega) (by omega) (by rw [List.length_append, List.length_singleton]; omega) len' 0 N c' (by omega) (by omega) h38 (fun hh => by rw [hm' 49 (by decide)]; exact t5 hh) (fun i hi => by rw [hm' 42 (by decide), ← hg1 i hi]; exact (t6 i hi).symm) (by show zOV (l ++ [34] ++ []) c'; rw [List.append_nil]; exact h')
    rw [show (0 : Int32) = nI 0 from rfl, f1, zbl_r]
    obtain ⟨c3, k1, k2, k3⟩ := m_byte (N := N) (x := 34) f2 (by rw [List.length_append, List.length_append, List.length_singleton]; omega)
    refine ⟨c3, by rw [k1, zbn_s], ?_, zeq_trans f3 k3⟩
    rw [List.append_assoc] at k2
    exact k2
theorem m_two {N : Nat} {x y : Int32} {m : zS} {l : List Int32} (h : zOV l m) (hl : l.length + 2 ≤ 6000) : zMo (zbn (fX10_say N x m) (fun _ s => zbn (fX10_say N y s) (fun _ s2 => some ((), s2)))) m l [x, y] := by
  refine zMo_seq (w := [x]) (w' := [y]) (m_byte h (by omega)) (fun c' h' _ => zMo_ret (m_byte h' (by rw [List.length_append, List.length_singleton]; omega)))
def zsgi (o : Nat) : Nat := if o = 11 then 1011 else if o = 12 then 1012 else if o = 13 then 1021 else if o = 14 then 1013 else if o = 15 then 1014 else if o = 16 then 1015 else if o = 17 then 1016 else if o = 18 then 1017 else if o = 19 then 1018 else if o = 20 then 1019 else if o = 21 then 1020 else 1021
theorem zsgi_k : ∀ o, o < 22 → zsk (zsgi o) = true ∧ (zbs (zsgi o)).length ≤ 2 ∧ (o ≠ 17 → o ≠ 18 → (zbs (zsgi o)).length = 1) := by decide +kernel
theorem zsgi_1 : ∀ o, o < 22 → 1 ≤ (zbs (zsgi o)).length := by decide +kernel
theorem c_sgi {N o : Nat} {s : zS} (ho : o < 22) (h10 : 10 ≤ o) : fX1_signOf N (nI o) s = some (zsgi o, s) := by
  have : o = 10 ∨ o = 11 ∨ o = 12 ∨ o = 13 ∨ o = 14 ∨ o = 15 ∨ o = 16 ∨ o = 17 ∨ o = 18 ∨ o = 19 ∨ o = 20 ∨ o = 21 := by omega
  unfold fX1_signOf
  rcases this with rfl | rfl | rfl | rfl | rfl | rfl | rfl | rfl | rfl | rfl | rfl | rfl <;> rfl
set_option maxHeartbeats 400000 in
theorem m_sign {N o : Nat} {m : zS} {l : List Int32} (ho : o < 22) (h10 : 10 ≤ o) (h : zOV l m) (hl : l.length + (zbs (zsgi o)).length ≤ 6000) : zMo (fX10_saySign N (nI o) m) m l (zbs (zsgi o)) := by
  have hl1 := zsgi_1 o ho
  have one : ∀ x : Int32, zMo (zbn (fX10_say N x m) (fun _ s2 => some ((), s2))) m l [x] := fun x => zMo_ret (m_byte h (by omega))
  have two : l.length + 2 ≤ 6000 → ∀ x y : Int32, zMo (zbn (fX10_say N x m) (fun _ s => zbn (fX10_say N y s) (fun _ s2 => some ((), s2)))) m l [x, y] := fun q x y => m_two h q
  have : o = 10 ∨ o = 11 ∨ o = 12 ∨ o = 13 ∨ o = 14 ∨ o = 15 ∨ o = 16 ∨ o = 17 ∨ o = 18 ∨ o = 19 ∨ o = 20 ∨ o = 21 := by omega
  unfold fX10_saySign
  rcases this with rfl | rfl | rfl | rfl | rfl | rfl | rfl | rfl | rfl | rfl | rfl | rfl
  · exact one 45
  · exact one 126
  · exact one 43
  · exact one 45
  · exact one 42
  · exact one 47
  · exact one 37
  · exact two hl 60 60
  · exact two hl 62 62
  · exact one 38
  · exact one 94
  · exact one 124
set_option maxHeartbeats 1000000 in
theorem m_mark {N k : Nat} {m : zS} {l : List Int32} (h1 : 1 ≤ k) (h4 : k ≤ 4) (h : zOV l m) (hl : l.length + ((zbs (1006 + k)).length + 2) ≤ 6000) : zMo (fX10_sayMark N (nI k) m) m l ([37] ++ (zbs (1006 + k) ++ [40])) := by
  have st : ∀ (x : Int32) (mm : zS) (ll w' : List Int32) (kk : Unit → zS → Option (Unit × zS)), zOV ll mm → ll.length < 6000 → (∀ c', zOV (ll ++ [x]) c' → zMo (kk () c') c' (ll ++ [x]) w') → zMo (zbn (fX10_say N x mm) kk) mm ll ([x] ++ w') := fun x mm ll w' kk q1 q2 q3 => zMo_seq (m_byte q1 q2) (fun c' h' _ => q3 c' h')
  have en : ∀ (x : Int32) (mm : zS) (ll : List Int32), zOV ll mm → ll.length < 6000 → zMo (zbn (fX10_say N x mm) (fun _ s => some ((), s))) mm ll [x] := fun x mm ll q1 q2 => zMo_ret (m_byte q1 q2)
  have : k = 1 ∨ k = 2 ∨ k = 3 ∨ k = 4 := by omega
  unfold fX10_sayMark fX10_sayMark_J47 fX10_sayMark_J62
  rcases this with rfl | rfl | rfl | rfl
  · have hl : l.length + 4 ≤ 6000 := hl
    simp only [show nI 1 ≤ (2 : Int32) by decide, show nI 1 - nI 1 / 2 * 2 = (1 : Int32) by decide, ↓reduceIte]
    show zMo _ m l ([37] ++ ([104] ++ ([105] ++ [40])))
    refine st 37 m l _ _ h (by omega) (fun c1 k1 => ?_)
    refine st 104 c1 _ _ _ k1 (by simp only [List.length_append, List.length_singleton]; omega) (fun c2 k2 => ?_)
    refine st 105 c2 _ _ _ k2 (by simp only [List.length_append, List.length_singleton]; omega) (fun c3 k3 => ?_)
    exact en 40 c3 _ k3 (by simp only [List.length_append, List.length_singleton]; omega)
  · have hl : l.length + 4 ≤ 6000 := hl
    simp only [show nI 2 ≤ (2 : Int32) by decide, show ¬ nI 2 - nI 2 / 2 * 2 = (1 : Int32) by decide, ↓reduceIte]
    show zMo _ m l ([37] ++ ([108] ++ ([111] ++ [40])))
    refine st 37 m l _ _ h (by omega) (fun c1 k1 => ?_)
    refine st 108 c1 _ _ _ k1 (by simp only [List.length_append, List.length_singleton]; omega) (fun c2 k2 => ?_)
    refine st 111 c2 _ _ _ k2 (by simp only [List.length_append, List.length_singleton]; omega) (fun c3 k3 => ?_)
    exact en 40 c3 _ k3 (by simp only [List.length_append, List.length_singleton]; omega)
  · have hl : l.length + 10 ≤ 6000 := hl
    simp only [show ¬ nI 3 ≤ (2 : Int32) by decide, show nI 3 - nI 3 / 2 * 2 = (1 : Int32) by decide, ↓reduceIte]
    show zMo _ m l ([37] ++ ([112] ++ ([99] ++ ([114] ++ ([101] ++ ([108] ++ ([95] ++ ([104] ++ ([105] ++ [40])))))))))
    refine st 37 m l _ _ h (by omega) (fun c1 k1 => ?_)
    refine st 112 c1 _ _ _ k1 (by simp only [List.length_append, List.length_singleton]; omega) (fun c2 k2 => ?_)
    refine st 99 c2 _ _ _ k2 (by simp only [List.length_append, List.length_singleton]; omega) (fun c3 k3 => ?_)
    refine st 114 c3 _ _ _ k3 (by simp only [List.length_append, List.length_singleton]; omega) (fun c4 k4 => ?_)
    refine st 101 c4 _ _ _ k4 (by simp only [List.length_append, List.length_singleton]; omega) (fun c5 k5 => ?_)
    refine st 108 c5 _ _ _ k5 (by simp only [List.length_append, List.length_singleton]; omega) (fun c6 k6 => ?_)
    refine st 95 c6 _ _ _ k6 (by simp only [List.length_append, List.length_singleton]; omega) (fun c7 k7 => ?_)
    refine st 104 c7 _ _ _ k7 (by simp only [List.length_append, List.length_singleton]; omega) (fun c8 k8 => ?_)
    refine st 105 c8 _ _ _ k8 (by simp only [List.length_append, List.length_singleton]; omega) (fun c9 k9 => ?_)
    exact en 40 c9 _ k9 (by simp only [List.length_append, List.length_singleton]; omega)
  · have hl : l.length + 10 ≤ 6000 := hl
    simp only [show ¬ nI 4 ≤ (2 : Int32) by decide, show ¬ nI 4 - nI 4 / 2 * 2 = (1 : Int32) by decide, ↓reduceIte]
    show zMo _ m l ([37] ++ ([112] ++ ([99] ++ ([114] ++ ([101] ++ ([108] ++ ([95] ++ ([108] ++ ([111] ++ [40])))))))))
    refine st 37 m l _ _ h (by omega) (fun c1 k1 => ?_)
    refine st 112 c1 _ _ _ k1 (by simp only [List.length_append, List.length_singleton]; omega) (fun c2 k2 => ?_)
    refine st 99 c2 _ _ _ k2 (by simp only [List.length_append, List.length_singleton]; omega) (fun c3 k3 => ?_)
    refine st 114 c3 _ _ _ k3 (by simp only [List.length_append, List.length_singleton]; omega) (fun c4 k4 => ?_)
    refine st 101 c4 _ _ _ k4 (by simp only [List.length_append, List.length_singleton]; omega) (fun c5 k5 => ?_)
    refine st 108 c5 _ _ _ k5 (by simp only [List.length_append, List.length_singleton]; omega) (fun c6 k6 => ?_)
    refine st 95 c6 _ _ _ k6 (by simp only [List.length_append, List.length_singleton]; omega) (fun c7 k7 => ?_)
    refine st 108 c7 _ _ _ k7 (by simp only [List.length_append, List.length_singleton]; omega) (fun c8 k8 => ?_)
    refine st 111 c8 _ _ _ k8 (by simp only [List.length_append, List.length_singleton]; omega) (fun c9 k9 => ?_)
    exact en 40 c9 _ k9 (by simp only [List.length_append, List.length_singleton]; omega)
