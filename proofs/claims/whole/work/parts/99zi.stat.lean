def zws (W : Nat → List Int32) (f : Nat) : Nat → List Int32
  | 0 => []
  | i + 1 => zws W f i ++ ((if i = 0 then [32] else [44, 32]) ++ W (f + i))
theorem zsum_le (f : Nat → Nat) (a : Nat) : ∀ d, zsum f a ≤ zsum f (a + d)
  | 0 => Nat.le_refl _
  | d + 1 => by
    have h := zsum_le f a d
    show zsum f a ≤ zsum f (a + d) + f (a + d)
    omega
theorem zsum_m {f : Nat → Nat} {a b : Nat} (h : a ≤ b) : zsum f a ≤ zsum f b := by
  have h9 := zsum_le f a (b - a)
  rw [show a + (b - a) = b by omega] at h9
  exact h9
def zPj (B n1 : Nat) (s : zS) (N : Nat) (ic oc fo : Nat → Nat) (j : Nat) (w : List Int32) : Prop := w.length + 2 + zsum ic (fo j) ≤ zsum ic (fo (j + 1)) + oc j ∧ (∀ (c : zS) (l : List Int32), zYC s c → zOU l c → l.length + w.length ≤ 6000 → zC3 (fX7_putOperand N B (nI j) c) c l w) ∧ (∀ (m : zS) (l : List Int32), zYM s m → zOV l m → l.length + w.length ≤ 6000 → zM4 (fX10_sayOperand N (nI j) m) m l w)
theorem zws_l {B n1 N f : Nat} {s : zS} {ic oc fo : Nat → Nat} {W : Nat → List Int32} (hW : ∀ j, j < n1 → zPj B n1 s N ic oc fo j (W j)) : ∀ i, f + i ≤ n1 → (zws W f i).length + zsum oc f + zsum ic (fo f) ≤ zsum oc (f + i) + zsum ic (fo (f + i))
  | 0, _ => by
    show 0 + zsum oc f + zsum ic (fo f) ≤ zsum oc f + zsum ic (fo f)
    omega
  | i + 1, h => by
    have h1 := zws_l (f := f) hW i (by omega)
    have h2 := (hW (f + i) (by omega)).1
    show (zws W f i ++ ((if i = 0 then [32] else [44, 32]) ++ W (f + i))).length + zsum oc f + zsum ic (fo f) ≤ zsum oc (f + i) + oc (f + i) + zsum ic (fo (f + i + 1))
    rw [List.length_append, List.length_append]
    have h3 : (if i = 0 then [32] else ([44, 32] : List Int32)).length ≤ 2 := by split <;> decide
    omega
set_option maxHeartbeats 1000000 in
theorem l_opsC {B n1 N f g : Nat} {s : zS} {ic oc fo : Nat → Nat} {W : Nat → List Int32} {p1 : Int32} {l : List Int32} (hW : ∀ j, j < n1 → zPj B n1 s N ic oc fo j (W j)) (hfg : f + g ≤ n1) (hn1 : n1 ≤ 800) (hN : 10000 ≤ N) (hl : l.length + (zws W f g).length ≤ 6000) : ∀ d i M c, i + d = g → d < M → zYC s c → zOU (l ++ zws W f i) c → ∃ c', fX7_write_L97 N B p1 M (nI f) (nI g) (nI i) c = some (.inr c') ∧ zOU (l ++ zws W f g) c' ∧ zeq [3001, 3003, 3004] [31, 32] c c' := by
  have mono : ∀ d i, (zws W f i).length ≤ (zws W f (i + d)).length := by
    intro d
    induction d with
    | zero => exact fun i => Nat.le_refl _
    | succ d ih =>
      intro i
      have h1 := ih i
      show (zws W f i).length ≤ (zws W f (i + d) ++ _).length
      rw [List.length_append]
      omega
  intro d
  induction d with
  | zero =>
    intro i M c hi hM hc h
    obtain ⟨M, rfl⟩ : ∃ q, M = q + 1 := ⟨M - 1, by omega⟩
    have e : i = g := by omega
    subst e
    refine ⟨c, ?_, h, zeq_refl _ _ _⟩
    show fX7_write_L97S N B p1 (fX7_write_L97 N B p1 M) (nI f) (nI i) (nI i) c = _
    unfold fX7_write_L97S
    rw [if_pos (nI_le (Nat.le_refl _) (by omega))]
  | succ d ih =>
    intro i M c hi hM hc h
    obtain ⟨M, rfl⟩ : ∃ q, M = q + 1 := ⟨M - 1, by omega⟩
    have hm := mono (g - (i + 1)) (i + 1)
    rw [show i + 1 + (g - (i + 1)) = g by omega] at hm
    have hm1 : (zws W f (i + 1)).length = (zws W f i).length + ((if i = 0 then [32] else ([44, 32] : List Int32)).length + (W (f + i)).length) := by
      show (zws W f i ++ ((if i = 0 then [32] else [44, 32]) ++ W (f + i))).length = _
      rw [List.length_append, List.length_append]
    have hll : (l ++ zws W f i).length = l.length + (zws W f i).length := List.length_append
    have key : ∀ a : Nat, zsk a = true → zbs a = (if i = 0 then [32] else ([44, 32] : List Int32)) → ∃ c', zbn (fX7_putText N a c) (fun _ s23 => zbn (fX7_putOperand N B (nI f + nI i) s23) (fun _ s26 => fX7_write_L97 N B p1 M (nI f) (nI g) (nI i + 1) s26)) = some (.inr c') ∧ zOU (l ++ zws W f g) c' ∧ zeq [3001, 3003, 3004] [31, 32] c c' := by
      intro a ha hb
      obtain ⟨c1, e1, h1, z1⟩ := c_text (N := N) ha h (by rw [hb, hll]; omega) (by omega)
      rw [hb] at h1
      have hc1 := zYC_s hc z1
      obtain ⟨c2, e2, h2, z2⟩ := (hW (f + i) (by omega)).2.1 c1 _ hc1 h1 (by rw [List.length_append, hll]; omega)
      rw [List.append_assoc, List.append_assoc] at h2
      obtain ⟨c3, e3, h3, z3⟩ := ih (i + 1) M c2 (by omega) (by omega) (zYC_3 hc1 z2) h2
      refine ⟨c3, ?_, h3, zeq_trans (zeq_mono z1 (by decide) (by decide)) (zeq_trans z2 z3)⟩
      rw [e1, zbn_s, nI_add, e2, zbn_s, nI_1, e3]
    show ∃ c', fX7_write_L97S N B p1 (fX7_write_L97 N B p1 M) (nI f) (nI g) (nI i) c = some (.inr c') ∧ _
    unfold fX7_write_L97S
    rw [if_neg (nI_ge (by omega) (by omega))]
    by_cases i0 : i = 0
    · rw [if_pos (show nI i = 0 by rw [i0]; rfl)]
      exact key 1000 (by decide) (by rw [if_pos i0]; rfl)
    · rw [if_neg (show ¬ nI i = (0 : Int32) from fun z => i0 ((nI_eq (b := 0) (by omega) (by decide)).mp z))]
      exact key 1001 (by decide) (by rw [if_neg i0]; rfl)
set_option maxHeartbeats 1000000 in
theorem l_opsM {B n1 N f g k : Nat} {s : zS} {ic oc fo : Nat → Nat} {W : Nat → List Int32} {p1 : Int32} {l : List Int32} (hW : ∀ j, j < n1 → zPj B n1 s N ic oc fo j (W j)) (hfg : f + g ≤ n1) (hn1 : n1 ≤ 800) (hk : k < 400) (h2 : s.2.1 37 (2400 + 6 * k + 2) = nI f) (h3 : s.2.1 37 (2400 + 6 * k + 3) = nI g) (hl : l.length + (zws W f g).length ≤ 6000) : ∀ d i M m, i + d = g → d < M → zYM s m → zOV (l ++ zws W f i) m → ∃ m', fX10_tell_L91 N p1 M (nI (2400 + 6 * k)) (nI i) m = some (.inr m') ∧ zOV (l ++ zws W f g) m' ∧ zeq [3329, 3335] [44, 45, 46, 47] m m' := by
  have e2 : nI (2400 + 6 * k) + 2 = nI (2400 + 6 * k + 2) := nI_add _ 2
  have e3 : nI (2400 + 6 * k) + 3 = nI (2400 + 6 * k + 3) := nI_add _ 3
  have z2' : zga (nI (2400 + 6 * k + 2)) (zlen 37) = true := zga_l (by rfl) (show 2400 + 6 * k + 2 < 4800 by omega) (by decide)
  have z3' : zga (nI (2400 + 6 * k + 3)) (zlen 37) = true := zga_l (by rfl) (show 2400 + 6 * k + 3 < 4800 by omega) (by decide)
  have mono : ∀ d i, (zws W f i).length ≤ (zws W f (i + d)).length := by
    intro d
    induction d with
    | zero => exact fun i => Nat.le_refl _
    | succ d ih =>
      intro i
      have h1 := ih i
      show (zws W f i).length ≤ (zws W f (i + d) ++ _).length
      rw [List.length_append]
      omega
  intro d
  induction d with
  | zero =>
    intro i M m hi hM hm h
    obtain ⟨M, rfl⟩ : ∃ q, M = q + 1 := ⟨M - 1, by omega⟩
    have e : i = g := by omega
    subst e
    refine ⟨m, ?_, h, zeq_refl _ _ _⟩
    show fX10_tell_L91S N p1 (fX10_tell_L91 N p1 M) (nI (2400 + 6 * k)) (nI i) m = _
    unfold fX10_tell_L91S
    rw [e3, if_pos z3', nI_clamp (by omega), hm 37 (by decide), h3, if_pos (nI_le (Nat.le_refl _) (by omega))]
  | succ d ih =>
    intro i M m hi hM hm h
    obtain ⟨M, rfl⟩ : ∃ q, M = q + 1 := ⟨M - 1, by omega⟩
    have hmo := mono (g - (i + 1)) (i + 1)
    rw [show i + 1 + (g - (i + 1)) = g by omega] at hmo
    have hm1 : (zws W f (i + 1)).length = (zws W f i).length + ((if i = 0 then [32] else ([44, 32] : List Int32)).length + (W (f + i)).length) := by
      show (zws W f i ++ ((if i = 0 then [32] else [44, 32]) ++ W (f + i))).length = _
      rw [List.length_append, List.length_append]
    have hll : (l ++ zws W f i).length = l.length + (zws W f i).length := List.length_append
    have key : ∀ (mm : zS) (pre : List Int32), zYM s mm → zOV (l ++ zws W f i ++ pre) mm → pre ++ [32] = (if i = 0 then [32] else ([44, 32] : List Int32)) → zeq [3329] [44] m mm → ∃ m', fX10_tell_J113 N p1 (fX10_tell_L91 N p1 M) (nI (2400 + 6 * k)) (nI i) mm = some (.inr m') ∧ zOV (l ++ zws W f g) m' ∧ zeq [3329, 3335] [44, 45, 46, 47] m m' := by
      intro mm pre hmm hov hpre hz
      have hpl := congrArg List.length hpre
      rw [List.length_append, List.length_singleton] at hpl
      obtain ⟨m1, f1, f2, f3⟩ := m_byte (N := N) (x := 32) hov (by rw [List.length_append, hll]; omega)
      rw [List.append_assoc, hpre] at f2
      have hm1' := zYM_s hmm f3
      obtain ⟨m2, g1, g2, g3⟩ := (hW (f + i) (by omega)).2.2 m1 _ hm1' f2 (by rw [List.length_append, hll]; omega)
      rw [List.append_assoc, List.append_assoc] at g2
      obtain ⟨m3, j1, j2, j3⟩ := ih (i + 1) M m2 (by omega) (by omega) (zYM_4 hm1' g3) g2
      refine ⟨m3, ?_, j2, zeq_trans (zeq_mono hz (by decide) (by decide)) (zeq_trans (zeq_mono f3 (by decide) (by decide)) (zeq_trans g3 j3))⟩
      unfold fX10_tell_J113
      rw [f1, zbn_s, e2, if_pos z2', nI_clamp (by omega), hm1' 37 (by decide), h2, nI_add, g1, zbn_s, nI_1, j1]
    show ∃ m', fX10_tell_L91S N p1 (fX10_tell_L91 N p1 M) (nI (2400 + 6 * k)) (nI i) m = some (.inr m') ∧ _
    unfold fX10_tell_L91S
    rw [e3, if_pos z3', nI_clamp (by omega), hm 37 (by decide), h3, if_neg (nI_ge (by omega) (by omega))]
    by_cases i0 : i = 0
    · rw [if_pos (show nI i ≤ (0 : Int32) by rw [i0]; decide)]
      exact key m [] hm (by rw [List.append_nil]; exact h) (by rw [if_pos i0]; rfl) (zeq_refl _ _ _)
    · rw [if_neg (show ¬ nI i ≤ (0 : Int32) from nI_nle (by omega) (by omega))]
      rw [if_neg i0] at hm1
      have h2l : ([44, 32] : List Int32).length = 2 := rfl
      obtain ⟨m1, f1, f2, f3⟩ := m_byte (N := N) (x := 44) h (by rw [hll]; omega)
      rw [f1, zbn_s]
      exact key m1 [44] (zYM_s hm f3) f2 (by rw [if_neg i0]; rfl) f3
set_option maxHeartbeats 1000000 in
theorem tellT {B n0 n1 n2 n3 nb nl N k : Nat} {s : zS} (hx : zBx B n0 n1 n2 n3 nb nl s) (hWF : zWF B n0 n1 n2 n3 s) (hB : s.2.2.1 301 = B) (hN : 10000 ≤ N) (hk : k < n0) : ∃ w : List Int32, w.length ≤ 6000 ∧ (∃ c', fX9_tell N (nI k) s = some (nI w.length, c') ∧ zOU w c' ∧ zeq [3001, 3003, 3004] [31, 32] s c') ∧ (∀ m, zYM s m → ∃ m', fX10_tell N (nI k) m = some (nI w.length, m') ∧ zOV w m' ∧ zeq [3300, 3329, 3335] [44, 45, 46, 47] m m') := by
  obtain ⟨ic, oc, fo, y1, y2, y3, y4, y5, y6⟩ := hWF
  obtain ⟨so, v, f, g, s1, s2, s3, s4, s5, s6, s7, s8⟩ := y6 k hk
  have hn0 : n0 ≤ 400 := hx.2.2.1.1
  have hn1 : n1 ≤ 800 := hx.2.2.2.1.1
  have hn3 : n3 ≤ 150 := hx.2.2.2.2.2.1.1
  have a4 := hx.2.2.1.2.2.2
  have hch : ∀ j, ∃ w, j < n1 → zPj B n1 s N ic oc fo j w := by
    intro j
    by_cases hj : j < n1
    · obtain ⟨w, hw⟩ := op_text (N := N) hx y4 (y3 j hj) hj (y5 j hj) hN
      exact ⟨w, fun _ => hw⟩
    · exact ⟨[], fun z => absurd z hj⟩
  obtain ⟨W, hW⟩ : ∃ W : Nat → List Int32, ∀ j, j < n1 → zPj B n1 s N ic oc fo j (W j) := ⟨fun j => Classical.choose (hch j), fun j hj => Classical.choose_spec (hch j) hj⟩
  have hwl := zws_l (f := f) hW g s4
  have hb1 : zsum oc (f + g) ≤ zsum oc n1 := zsum_m s4
  have hfo : fo (f + g) ≤ n2 := by
    by_cases e : f + g = n1
    · rw [e, y2]; exact Nat.le_refl _
    · by_cases e0 : f + g = 0
      · have hp : 0 < n1 := by omega
        have h8 : fo 0 ≤ fo (0 + 1) := by
          obtain ⟨_, _, _, _, _, _, _, _, h7, _⟩ := y5 0 hp
          exact h7
        rw [e0]
        exact Nat.le_trans h8 (y3 0 hp)
      · have := y3 (f + g - 1) (by omega)
        rw [show f + g - 1 + 1 = f + g by omega] at this
        exact this
  have hb2 : zsum ic (fo (f + g)) ≤ zsum ic n2 := zsum_m hfo
  -- the beginning
  have hhead : ∃ wh : List Int32, wh.length ≤ 16 ∧ (∀ (c : zS), zYC s c → zOU [] c → zCo (if nI so = 1 then fX7_putByte N (48 + nI v) c else fX7_putName N B (nI v) c) c [] wh) ∧ (∀ (m : zS), zYM s m → zOV [] m → zMo (if nI so = 1 then fX10_sayNumber N (nI v).toInt64 m else fX10_sayName N (nI v) m) m [] wh) := by
    by_cases c1 : so = 1
    · have hv := s2 c1
      obtain ⟨w, -, w2, -, w4, -, w5⟩ := n_text (v := v) (by omega)
      have ew := w4 hv
      refine ⟨w, by rw [w2 hv]; omega, fun c hc h => ?_, fun m hm h => ?_⟩
      · rw [if_pos (show nI so = 1 by rw [c1]; rfl), show (48 : Int32) + nI v = nI (48 + v) from nI_add 48 v, ew]
        exact c_byte h (by show 0 < 6000; omega)
      · rw [if_pos (show nI so = 1 by rw [c1]; rfl), nI_l (by omega)]
        exact w5 N m [] (by omega) h (by rw [w2 hv]; show 0 + 1 ≤ 6000; omega)
    · have hv := s3 c1
      obtain ⟨w, w1, -, w3, w4⟩ := nm_text hx hv
      have hn : ¬ nI so = (1 : Int32) := fun z => c1 ((nI_eq (b := 1) (by omega) (by decide)).mp z)
      refine ⟨w, w1, fun c hc h => ?_, fun m hm h => ?_⟩
      · rw [if_neg hn]
        exact w3 N c [] (by omega) hc h (by show 0 + w.length ≤ 6000; omega)
      · rw [if_neg hn]
        exact w4 N m [] (by omega) hm h (by show 0 + w.length ≤ 6000; omega)
  obtain ⟨wh, q1, q2, q3⟩ := hhead
  obtain ⟨wc, hwc⟩ : ∃ wc : List Int32, wc = if so = 2 then [] else [58] := ⟨_, rfl⟩
  have hwcl : wc.length ≤ 1 := by rw [hwc]; split <;> decide
  have hlen : (wh ++ wc ++ zws W f g).length ≤ 6000 := by
    rw [List.length_append, List.length_append]
    omega
  refine ⟨wh ++ wc ++ zws W f g, hlen, ?_, ?_⟩
  · -- the class
    obtain ⟨c0, hc0⟩ : ∃ c0, c0 = zsc s 3001 0 := ⟨_, rfl⟩
    have z0 : zeq [3001, 3003, 3004] [31, 32] s c0 := by rw [hc0]; exact zeq_c (by decide)
    have o0 : zOU [] c0 := ⟨by rw [hc0]; exact zsc_at, fun i hi => absurd hi (Nat.not_lt_zero _)⟩
    have hys : zYC s s := zeq_refl _ _ _
    obtain ⟨c1, e1, h1, z1⟩ := q2 c0 z0 o0
    rw [List.nil_append] at h1
    have hy1 := zYC_s (s := s) z0 z1
    have hcol : ∃ c2, zOU (wh ++ wc) c2 ∧ zYC s c2 ∧ fX7_write_J59 N B (nI k) (nI so) c1 = fX7_write_J70 N B (nI k) c2 := by
      unfold fX7_write_J59
      by_cases e2 : so = 2
      · refine ⟨c1, by rw [hwc, if_pos e2, List.append_nil]; exact h1, hy1, ?_⟩
        rw [if_pos (show nI so = 2 by rw [e2]; rfl)]
      · obtain ⟨c2, f1, f2, f3⟩ := c_byte (N := N) (x := 58) h1 (by omega)
        refine ⟨c2, by rw [hwc, if_neg e2]; exact f2, zYC_s hy1 f3, ?_⟩
        rw [if_neg (show ¬ nI so = (2 : Int32) from fun z => e2 ((nI_eq (b := 2) (by omega) (by decide)).mp z)), f1, zbn_s]
    obtain ⟨c2, h2, y2', e2⟩ := hcol
    rw [List.length_append] at hlen
    obtain ⟨c3, e3, h3, z3⟩ := l_opsC (N := N) (p1 := nI k) (l := wh ++ wc) hW s4 hn1 hN hlen g 0 N c2 (by omega) (by omega) y2' (by show zOU (wh ++ wc ++ []) c2; rw [List.append_nil]; exact h2)
    refine ⟨c3, ?_, h3, zeq_trans y2' z3⟩
    have hJ70 : fX7_write_J70 N B (nI k) c2 = some (nI (wh ++ wc ++ zws W f g).length, c3) := by
      unfold fX7_write_J70
      rw [(x_cell hx y2' 0).1 k 2 2 hk (by omega) rfl, zbn_s, (x_cell hx y2' 0).1 k 3 3 hk (by omega) rfl, zbn_s, s7, s8, show (0 : Int32) = nI 0 from rfl, e3, zbl_r, h3.1]
    have hso1 : ¬ nI so = (-1) := nI_m1 so (by omega)
    unfold fX9_tell fX7_write
    rw [hB, if_pos hx.1, (x_cell hx hys (-1)).1 k 0 0 hk (by omega) rfl, zbn_s, s5, if_neg hso1, ← hc0, (x_cell hx z0 0).1 k 1 1 hk (by omega) rfl, zbn_s, s6]
    by_cases c1' : nI so = 1
    · rw [if_pos c1'] at e1 ⊢
      rw [e1, zbn_s, e2, hJ70, zbn_s]
    · rw [if_neg c1'] at e1 ⊢
      rw [e1, zbn_s, e2, hJ70, zbn_s]
  · -- the reference
    intro m hm
    obtain ⟨m0, hm0⟩ : ∃ m0, m0 = zsc (zsc m 3300 0) 3329 0 := ⟨_, rfl⟩
    have z0 : zeq [3300, 3329, 3335] [44, 45, 46, 47] m m0 := by rw [hm0]; exact zeq_trans (zeq_c (by decide)) (zeq_c (by decide))
    have o0 : zOV [] m0 := ⟨by rw [hm0]; exact zsc_at, fun i hi => absurd hi (Nat.not_lt_zero _)⟩
    have hy0 : zYM s m0 := fun a ha => (z0.2.1 a (by
      simp only [List.mem_cons, List.not_mem_nil, or_false] at ha ⊢
      omega)).trans (hm a ha)
    obtain ⟨m1, e1, h1, z1⟩ := q3 m0 hy0 o0
    rw [List.nil_append] at h1
    have hy1 := zYM_s hy0 z1
    have w37 : ∀ mm, zYM s mm → ∀ i, i < 6 → mm.2.1 37 (2400 + 6 * k + i) = s.2.1 (B + 2) (k * 6 + i) := fun mm hmm i hi => by
      rw [hmm 37 (by decide), a4 k i hk hi, show 2400 * 1 + 6 * k + i = 2400 + 6 * k + i by omega]
    have e0 : (2400 : Int32) + 6 * nI k = nI (2400 + 6 * k) := by rw [show (6 : Int32) * nI k = nI (6 * k) from pk_mul 6 k]; exact nI_add 2400 _
    have ee1 : nI (2400 + 6 * k) + 1 = nI (2400 + 6 * k + 1) := nI_1 _
    have zz : ∀ i, i < 6 → zga (nI (2400 + 6 * k + i)) (zlen 37) = true := fun i hi => zga_l (by rfl) (show 2400 + 6 * k + i < 4800 by omega) (by decide)
    have zz0 : zga (nI (2400 + 6 * k)) (zlen 37) = true := zz 0 (by omega)
    have w0 : ∀ mm, zYM s mm → mm.2.1 37 (2400 + 6 * k) = nI so := fun mm hmm => (w37 mm hmm 0 (by omega)).trans s5
    have hcol : ∃ m2, zOV (wh ++ wc) m2 ∧ zYM s m2 ∧ zeq [3329] [44] m1 m2 ∧ fX10_tell_J73 N (nI k) (nI (2400 + 6 * k)) m1 = fX10_tell_J89 N (nI k) (nI (2400 + 6 * k)) m2 := by
      unfold fX10_tell_J73
      rw [if_pos zz0, nI_clamp (by omega), w0 m1 hy1]
      by_cases e2 : so = 2
      · refine ⟨m1, by rw [hwc, if_pos e2, List.append_nil]; exact h1, hy1, zeq_refl _ _ _, ?_⟩
        rw [if_pos (show (2 : Int32) ≤ nI so by rw [e2]; decide)]
      · obtain ⟨m2, f1, f2, f3⟩ := m_byte (N := N) (x := 58) h1 (by omega)
        refine ⟨m2, by rw [hwc, if_neg e2]; exact f2, zYM_s hy1 f3, f3, ?_⟩
        rw [if_neg (show ¬ (2 : Int32) ≤ nI so from nI_ge (b := 2) (by omega) (by decide)), f1, zbn_s]
    obtain ⟨m2, h2, y2', z2, e2⟩ := hcol
    rw [List.length_append] at hlen
    obtain ⟨m3, e3, h3, z3⟩ := l_opsM (N := N) (k := k) (p1 := nI k) (l := wh ++ wc) hW s4 hn1 (by omega) (by rw [← s7]; exact (w37 s (fun _ _ => rfl) 2 (by omega))) (by rw [← s8]; exact (w37 s (fun _ _ => rfl) 3 (by omega))) hlen g 0 N m2 (by omega) (by omega) y2' (by show zOV (wh ++ wc ++ []) m2; rw [List.append_nil]; exact h2)
    refine ⟨m3, ?_, h3, zeq_trans z0 (zeq_trans (zeq_mono z1 (by decide) (by decide)) (zeq_trans (zeq_mono z2 (by decide) (by decide)) (zeq_mono z3 (by decide) (by decide))))⟩
    have hJ89 : fX10_tell_J89 N (nI k) (nI (2400 + 6 * k)) m2 = some (nI (wh ++ wc ++ zws W f g).length, m3) := by
      unfold fX10_tell_J89
      rw [show (0 : Int32) = nI 0 from rfl, e3, zbl_r, h3.1]
    have g4 : (4 : Int32).toNatClampNeg = 4 := by decide
    have hz4 : zga 4 (zlen 36) = true := by decide +kernel
    have h36 : m.2.1 36 4 = nI n0 := by rw [hm 36 (by decide)]; exact hx.2.2.1.2.2.1
    unfold fX10_tell
    rw [if_neg (nI_pos (by omega)), if_pos hz4, g4, h36, if_pos (nI_lt hk (by omega)), e0, if_pos zz0, nI_clamp (by omega), w0 m hm, ee1, ← hm0, if_pos (zz 1 (by omega)), if_pos (zz 1 (by omega)), nI_clamp (by omega), w37 m hm 1 (by omega), s6]
    by_cases c1' : nI so = 1
    · rw [if_pos c1'] at e1 ⊢
      rw [e1, zbn_s, e2, hJ89]
    · rw [if_neg c1'] at e1 ⊢
      rw [e1, zbn_s, e2, hJ89]
set_option maxHeartbeats 1000000 in
theorem tl_ok {N : Nat} (hN : 10000 ≤ N) : zTl N := by
  intro j s hj h p
  have h' := h
  obtain ⟨h1, h2, h3, ⟨n, hn, h4, h5, h6⟩, ⟨h7, h8⟩, ⟨kk, hk, h9, h10, h11⟩, n0, n1, n2, n3, nb, nl, hR, hW⟩ := h
  obtain ⟨B, hB⟩ : ∃ B, B = s.2.2.1 301 := ⟨_, rfl⟩
  have hb : zBk B := by rw [hB]; exact h2.1
  rw [← hB] at hR hW
  have hn0 : n0 ≤ 400 := hR.1.1
  have hx : zBx B n0 n1 n2 n3 nb nl s := ⟨hb, h1, hR⟩
  have no : p < 0 ∨ nI n0 ≤ p → ∃ (x : Int32) (s1 s2 : zS), fX9_tell N p s = some (x, s1) ∧ fX10_tell N p s1 = some (x, s2) ∧ zInv (j + 1) s2 := by
    intro hp
    refine ⟨-1, s, zsc s 3300 0, ?_, ?_, zInv_0 h'⟩
    · unfold fX9_tell fX7_write
      rw [← hB, if_pos hb, q_cell_out (a := B + 1) (hp.elim Or.inl (fun z => Or.inr (Or.inl (by rw [hR.1.2.1]; exact z)))), zbn_s, if_pos rfl, zbn_s]
    · have g4 : (4 : Int32).toNatClampNeg = 4 := by decide
      have hz4 : zga 4 (zlen 36) = true := by decide +kernel
      unfold fX10_tell
      by_cases c0 : p < 0
      · rw [if_pos c0]
      · rw [if_neg c0, if_pos hz4, g4, show s.2.1 36 4 = nI n0 from hR.1.2.2.1, if_neg (hp.elim (fun z => absurd z c0) (fun z => Int32.not_lt.mpr z))]
  rcases pk_ix p (n := n0) (by omega) with hp | hp | ⟨k, hkn, rfl⟩
  · exact no (Or.inl hp)
  · exact no (Or.inr hp)
  obtain ⟨w, w1, ⟨c', e1, o1, z1⟩, hM⟩ := tellT (N := N) hx hW hB.symm hN hkn
  obtain ⟨m', e2, o2, z2⟩ := hM c' (fun a ha => z1.2.1 a (by
    simp only [List.mem_cons, List.not_mem_nil, or_false] at ha ⊢
    omega))
  refine ⟨nI w.length, c', m', e1, e2, ?_⟩
  have hz : zeq [3001, 3003, 3004, 3300, 3329, 3335] [31, 32, 44, 45, 46, 47] s m' := zeq_trans (zeq_mono z1 (by decide) (by decide)) (zeq_mono z2 (by decide) (by decide))
  have hRW : ∃ n0 n1 n2 n3 nb nl, zBR (s.2.2.1 301) 1 n0 n1 n2 n3 nb nl s s ∧ zWF (s.2.2.1 301) n0 n1 n2 n3 s := ⟨n0, n1, n2, n3, nb, nl, by rw [← hB]; exact hR, by rw [← hB]; exact hW⟩
  refine ⟨zTbl_1 h1 hz (by decide), ?_, ?_, ⟨n, by omega, ?_, ?_, ?_⟩, ⟨?_, ?_⟩, ⟨w.length, w1, ?_, o2.1, fun i hi => ?_⟩, zIr_1 h2 hRW hz (by decide) (by decide)⟩
  · unfold zIb; rw [hz.2.2]; exact h2
  · unfold zIw; rw [hz.2.1 1 (by decide), hz.2.1 34 (by decide)]; exact h3
  · rw [hz.1 402 (by decide)]; exact h4
  · rw [hz.1 3303 (by decide)]; exact h5
  · rw [hz.2.1 5 (by decide), hz.2.1 35 (by decide)]; exact h6
  · rw [hz.1 309 (by decide), hz.1 3313 (by decide)]; exact h7
  · rw [hz.1 310 (by decide), hz.1 3314 (by decide)]; exact h8
  · rw [z2.1 3001 (by decide)]; exact o1.1
  · rw [z2.2.1 31 (by decide), o1.2 i hi, o2.2 i hi]
