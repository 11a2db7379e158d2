def zTk (τ : List Nat) (m : zS) : Prop := m.1 3335 = nI τ.length ∧ zTau τ (m.2.1 46)
theorem zTk_s {τ : List Nat} {m m' : zS} (h : zTk τ m) (hz : zeq [3329] [44] m m') : zTk τ m' := ⟨(hz.1 3335 (by decide)).trans h.1, by rw [hz.2.1 46 (by decide)]; exact h.2⟩
theorem t_add {N x : Nat} {v : Int32} {τ : List Nat} {m : zS} (h : zTk τ m) (hl : τ.length < 8100) (hv : v = nI x) : ∃ m', fX10_add N v m = some ((), m') ∧ zTk (x :: τ) m' ∧ zeq [3335] [46] m m' := by
  refine ⟨zsc (zsr m 46 (nI τ.length) v) 3335 (nI (τ.length + 1)), ?_, ⟨zsc_at, ?_⟩, zeq_trans (zeq_r (by simp)) (zeq_c (by simp))⟩
  · unfold fX10_add
    rw [h.1, if_pos (zga_l (by rfl) hl (by decide)), nI_1]
  · show (zsr m 46 (nI τ.length) v).2.1 46 τ.length = nI x ∧ zTau τ ((zsr m 46 (nI τ.length) v).2.1 46)
    rw [zsr_same, nI_clamp (by omega)]
    exact ⟨pk_us.trans hv, zTau_upd τ h.2 (Nat.le_refl _)⟩
def zsd (b : Bool) (t : Nat) : List Nat := if b then [1, 2 * t, 3] else [2 * t]
theorem t_side {N t : Nat} {b : Bool} {v : Int32} {τ : List Nat} {m : zS} (h : zTk τ m) (hl : τ.length + 3 < 8100) (hv : v = zb1 b) : ∃ m', fX10_addSide N (nI t) v m = some ((), m') ∧ zTk (zsd b t ++ τ) m' ∧ zeq [3335] [46] m m' := by
  have e2 : (2 : Int32) * nI t = nI (2 * t) := pk_mul 2 t
  subst hv
  unfold fX10_addSide
  cases b with
  | false =>
    obtain ⟨m1, a1, a2, a3⟩ := t_add (N := N) (x := 2 * t) (v := nI (2 * t)) h (by omega) rfl
    refine ⟨m1, ?_, a2, a3⟩
    rw [if_pos (show zb1 false = 0 from rfl), e2, a1, zbn_s, if_pos (show zb1 false = 0 from rfl)]
  | true =>
    obtain ⟨m1, a1, a2, a3⟩ := t_add (N := N) (x := 3) (v := 3) h (by omega) rfl
    obtain ⟨m2, b1, b2, b3⟩ := t_add (N := N) (x := 2 * t) (v := nI (2 * t)) a2 (by rw [List.length_cons]; omega) rfl
    obtain ⟨m3, c1, c2, c3⟩ := t_add (N := N) (x := 1) (v := 1) b2 (by rw [List.length_cons, List.length_cons]; omega) rfl
    refine ⟨m3, ?_, c2, zeq_trans a3 (zeq_trans b3 c3)⟩
    rw [if_neg (show ¬ zb1 true = 0 by decide), a1, zbn_s, e2, b1, zbn_s, if_neg (show ¬ zb1 true = 0 by decide), c1, zbn_s]
noncomputable abbrev zTL (N F C M : Nat) (m : zS) : Option ((Unit × zS) ⊕ (zS)) := fX10_sayItems_L22 N (nI F) (nI C) M m
/-- a turn of the loop over the tasks: what is on top -/
theorem t_top {x : Nat} {τ : List Nat} {m : zS} (h : zTk (x :: τ) m) (hl : τ.length < 8000) : ¬ m.1 3335 ≤ 0 ∧ m.1 3335 - 1 = nI τ.length ∧ zga (nI τ.length) (zlen 46) = true ∧ m.2.1 46 τ.length = nI x ∧ zTk τ (zsc m 3335 (nI τ.length)) := by
  obtain ⟨h1, h2, h3⟩ := h
  rw [List.length_cons] at h1
  refine ⟨by rw [h1]; exact nI_nle (by omega) (by omega), by rw [h1]; exact nI_pred _, zga_l (by rfl) (show τ.length < 8100 by omega) (by decide), h2, zsc_at, h3⟩
set_option maxHeartbeats 1000000 in
theorem t_odd {N F C x : Nat} {y : Int32} {τ : List Nat} {m : zS} {l : List Int32} (h : zTk (x :: τ) m) (hl : τ.length < 8000) (ho : zOV l m) (hr : l.length + 1 ≤ 6000) (hx : (x = 1 ∧ y = 40) ∨ (x = 3 ∧ y = 41) ∨ (x = 5 ∧ y = 32)) : ∃ m', (∀ M, zTL N F C (M + 1) m = zTL N F C M m') ∧ zTk τ m' ∧ zOV (l ++ [y]) m' ∧ zeq [3329, 3335] [44, 46] m m' := by
  obtain ⟨t1, t2, t3, t4, t5⟩ := t_top h hl
  obtain ⟨m0, hm0⟩ : ∃ m0, m0 = zsc m 3335 (nI τ.length) := ⟨_, rfl⟩
  have z0 : zeq [3335] [] m m0 := by rw [hm0]; exact zeq_c (by simp)
  rw [← hm0] at t5
  have ho0 : zOV l m0 := ⟨(z0.1 3329 (by decide)).trans ho.1, fun i hi => by rw [z0.2.1 44 List.not_mem_nil]; exact ho.2 i hi⟩
  obtain ⟨m1, e1, e2, e3⟩ := m_byte (N := N) (x := y) ho0 (by omega)
  refine ⟨m1, fun M => ?_, zTk_s t5 e3, e2, zeq_trans (zeq_mono z0 (by decide) (by simp)) (zeq_mono e3 (by decide) (by decide))⟩
  show fX10_sayItems_L22S N (nI F) (nI C) (fX10_sayItems_L22 N (nI F) (nI C) M) m = _
  unfold fX10_sayItems_L22S
  rw [if_neg t1, t2, if_pos t3, nI_clamp (by omega), t4, ← hm0]
  rcases hx with ⟨rfl, rfl⟩ | ⟨rfl, rfl⟩ | ⟨rfl, rfl⟩
  · rw [if_pos (by decide), if_pos (by decide), e1, zbn_s]
  · rw [if_pos (by decide), if_neg (by decide), if_pos (by decide), e1, zbn_s]
  · rw [if_pos (by decide), if_neg (by decide), if_neg (by decide), if_pos (by decide), e1, zbn_s]
theorem sg_k : ∀ o, o < 22 → 10 ≤ o → (nI (2 * o + 101) - nI (2 * o + 101) / 2 * 2 = 1) ∧ ¬ nI (2 * o + 101) = 1 ∧ ¬ nI (2 * o + 101) = 3 ∧ ¬ nI (2 * o + 101) = 5 ∧ (nI (2 * o + 101) - 101) / 2 = nI o := by
  have h : ∀ o, o < 22 → (nI (2 * o + 101) - nI (2 * o + 101) / 2 * 2 = 1) ∧ ¬ nI (2 * o + 101) = 1 ∧ ¬ nI (2 * o + 101) = 3 ∧ ¬ nI (2 * o + 101) = 5 ∧ (nI (2 * o + 101) - 101) / 2 = nI o := by decide +kernel
  exact fun o ho _ => h o ho
set_option maxHeartbeats 1000000 in
theorem t_sign {N F C o : Nat} {τ : List Nat} {m : zS} {l : List Int32} (h : zTk ((2 * o + 101) :: τ) m) (hl : τ.length < 8000) (ho : zOV l m) (hr : l.length + (zbs (zsgi o)).length ≤ 6000) (h22 : o < 22) (h10 : 10 ≤ o) : ∃ m', (∀ M, zTL N F C (M + 1) m = zTL N F C M m') ∧ zTk τ m' ∧ zOV (l ++ zbs (zsgi o)) m' ∧ zeq [3329, 3335] [44, 46] m m' := by
  obtain ⟨t1, t2, t3, t4, t5⟩ := t_top h hl
  obtain ⟨m0, hm0⟩ : ∃ m0, m0 = zsc m 3335 (nI τ.length) := ⟨_, rfl⟩
  have z0 : zeq [3335] [] m m0 := by rw [hm0]; exact zeq_c (by simp)
  rw [← hm0] at t5
  have ho0 : zOV l m0 := ⟨(z0.1 3329 (by decide)).trans ho.1, fun i hi => by rw [z0.2.1 44 List.not_mem_nil]; exact ho.2 i hi⟩
  obtain ⟨m1, e1, e2, e3⟩ := m_sign (N := N) h22 h10 ho0 hr
  obtain ⟨k1, k2, k3, k4, k5⟩ := sg_k o h22 h10
  refine ⟨m1, fun M => ?_, zTk_s t5 e3, e2, zeq_trans (zeq_mono z0 (by decide) (by simp)) (zeq_mono e3 (by decide) (by decide))⟩
  show fX10_sayItems_L22S N (nI F) (nI C) (fX10_sayItems_L22 N (nI F) (nI C) M) m = _
  unfold fX10_sayItems_L22S
  rw [if_neg t1, t2, if_pos t3, nI_clamp (by omega), t4, ← hm0, if_pos k1, if_neg k2, if_neg k3, if_neg k4, k5, e1, zbn_s]
def zwr (b : Bool) (w : List Int32) : List Int32 := if b then [40] ++ (w ++ [41]) else w
theorem zwr_l (b : Bool) (w : List Int32) : (zwr b w).length ≤ w.length + 2 := by
  cases b with
  | false => exact Nat.le_add_right _ _
  | true =>
    show ([40] ++ (w ++ [41])).length ≤ w.length + 2
    rw [List.length_append, List.length_append, List.length_singleton, List.length_singleton]
    omega
/-- the reference tells what is on top, in k turns -/
def zRt (s : zS) (f : Nat → Int32) (N F C : Nat) (top : List Nat) (k room : Nat) (w : List Int32) : Prop := ∀ (m : zS) (l : List Int32) (τ : List Nat), zYM s m → (∀ t, F ≤ t → t < F + C → ∀ n a, F ≤ a → zEx f n a (t + 1) → m.2.1 45 (t - F) = nI a) → zTk (top ++ τ) m → τ.length + room ≤ 7000 → zOV l m → l.length + w.length ≤ 6000 → ∃ m', (∀ M, zTL N F C (M + k) m = zTL N F C M m') ∧ zTk τ m' ∧ zOV (l ++ w) m' ∧ zeq [3329, 3335] [44, 46] m m'
theorem zYM_t {s m m' : zS} (h : zYM s m) (hz : zeq [3329, 3335] [44, 46] m m') : zYM s m' := fun a ha => (hz.2.1 a (by
  simp only [List.mem_cons, List.not_mem_nil, or_false] at ha ⊢
  omega)).trans (h a ha)
set_option maxHeartbeats 400000 in
theorem rt_app {s : zS} {f : Nat → Int32} {N F C k1 k2 r1 r2 R : Nat} {p1 p2 : List Nat} {w1 w2 : List Int32} (h1 : zRt s f N F C p1 k1 r1 w1) (h2 : zRt s f N F C p2 k2 r2 w2) (hR1 : p2.length + r1 ≤ R) (hR2 : r2 ≤ R) : zRt s f N F C (p1 ++ p2) (k1 + k2) R (w1 ++ w2) := by
  intro m l τ hm hb ht hr ho hl
  rw [List.length_append] at hl
  rw [List.append_assoc] at ht
  obtain ⟨m1, a1, a2, a3, a4⟩ := h1 m l (p2 ++ τ) hm hb ht (by rw [List.length_append]; omega) ho (by omega)
  obtain ⟨m2, b1, b2, b3, b4⟩ := h2 m1 (l ++ w1) τ (zYM_t hm a4) (fun t q1 q2 n a q3 q4 => by rw [a4.2.1 45 (by decide)]; exact hb t q1 q2 n a q3 q4) a2 (by omega) a3 (by rw [List.length_append]; omega)
  refine ⟨m2, fun M => ?_, b2, by rw [← List.append_assoc]; exact b3, zeq_trans a4 b4⟩
  rw [show M + (k1 + k2) = M + k2 + k1 by omega, a1, b1]
theorem rt_odd {s : zS} {f : Nat → Int32} {N F C x : Nat} {y : Int32} (hx : (x = 1 ∧ y = 40) ∨ (x = 3 ∧ y = 41) ∨ (x = 5 ∧ y = 32)) : zRt s f N F C [x] 1 0 [y] := by
  intro m l τ hm hb ht hr ho hl
  rw [List.length_singleton] at hl
  exact t_odd ht (by omega) ho hl hx
theorem rt_sign {s : zS} {f : Nat → Int32} {N F C o : Nat} (h22 : o < 22) (h10 : 12 ≤ o) : zRt s f N F C [2 * o + 101] 1 0 (zbs (zsgi o)) := by
  intro m l τ hm hb ht hr ho hl
  exact t_sign ht (by omega) ho hl h22 (by omega)
theorem rt_side {s : zS} {f : Nat → Int32} {N F C t k room : Nat} {b : Bool} {w : List Int32} (h : zRt s f N F C [2 * t] k room w) : zRt s f N F C (zsd b t) (k + (if b then 2 else 0)) (room + 2) (zwr b w) := by
  cases b with
  | false =>
    intro m l τ hm hb ht hr ho hl
    exact h m l τ hm hb ht (by omega) ho hl
  | true =>
    have h3 := rt_app (R := room + 1) h (rt_odd (s := s) (f := f) (N := N) (F := F) (C := C) (x := 3) (y := 41) (Or.inr (Or.inl ⟨rfl, rfl⟩))) (by rw [List.length_singleton]; omega) (by omega)
    have h1 := rt_app (R := room + 2) (rt_odd (s := s) (f := f) (N := N) (F := F) (C := C) (x := 1) (y := 40) (Or.inl ⟨rfl, rfl⟩)) h3 (by show 2 + 0 ≤ room + 2; omega) (by omega)
    intro m l τ hm hb ht hr ho hl
    obtain ⟨m', a1, a2, a3, a4⟩ := h1 m l τ hm hb ht hr ho hl
    exact ⟨m', fun M => by rw [show M + (k + (if true = true then 2 else 0)) = M + (1 + (k + 1)) by rw [if_pos rfl]; omega]; exact a1 M, a2, a3, a4⟩
