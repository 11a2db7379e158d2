set_option maxHeartbeats 400000 in
theorem zMs_n : ∀ kd, kd < 25 → (¬ (1 ≤ kd ∧ kd ≤ 6) → ¬ nI (zMs kd) = 2 ∧ ¬ nI (zMs kd) = 3 ∧ ¬ nI (zMs kd) = 7 ∧ ¬ nI (zMs kd) = 1) ∧ ((1 ≤ kd ∧ kd ≤ 6) → nI (zMs kd) = 2 ∨ nI (zMs kd) = 3 ∨ nI (zMs kd) = 7 ∨ nI (zMs kd) = 1) := by
  have h : ∀ kd, kd < 25 → ((1 ≤ kd ∧ kd ≤ 6) ∨ (¬ nI (zMs kd) = 2 ∧ ¬ nI (zMs kd) = 3 ∧ ¬ nI (zMs kd) = 7 ∧ ¬ nI (zMs kd) = 1)) ∧ (¬ (1 ≤ kd ∧ kd ≤ 6) ∨ (nI (zMs kd) = 2 ∨ nI (zMs kd) = 3 ∨ nI (zMs kd) = 7 ∨ nI (zMs kd) = 1)) := by decide +kernel
  intro kd hk
  exact ⟨fun z => (h kd hk).1.resolve_left z, fun z => (h kd hk).2.resolve_left (fun q => q z)⟩
set_option maxHeartbeats 400000 in
theorem w_23 {N n i : Nat} {T : Nat → Nat} {m : zS} {k0 : Int32} (h : zPM T n i m) (hlt : (zw T n i).1 < 25) : fX10_wanted_J23 N k0 m = fX10_wanted_J62 N k0 (if 1 ≤ (zw T n i).1 ∧ (zw T n i).1 ≤ 6 then 1 else 0) m := by
  unfold fX10_wanted_J23 fX10_wanted_J57
  rw [h.2.1.1]
  have hz := zMs_n _ hlt
  by_cases c : 1 ≤ (zw T n i).1 ∧ (zw T n i).1 ≤ 6
  · rw [if_pos c]
    by_cases c2 : nI (zMs (zw T n i).1) = 2
    · rw [if_pos c2]
    rw [if_neg c2]
    by_cases c3 : nI (zMs (zw T n i).1) = 3
    · rw [if_pos c3]
    rw [if_neg c3]
    by_cases c7 : nI (zMs (zw T n i).1) = 7
    · rw [if_pos c7]
    rw [if_neg c7, if_pos]
    rcases hz.2 c with z | z | z | z
    · exact absurd z c2
    · exact absurd z c3
    · exact absurd z c7
    · exact z
  · obtain ⟨z1, z2, z3, z4⟩ := hz.1 c
    rw [if_neg c, if_neg z1, if_neg z2, if_neg z3, if_neg z4]
set_option maxHeartbeats 400000 in
theorem w_reg {N n i : Nat} {T : Nat → Nat} {m : zS} (h : zPM T n i m) (hW : zWk T n (zps T n i) (zw T n i)) (hk : (zw T n i).1 = 2) : fX10_wanted N m = some (0, zsc (zsc m 3320 (nI 6)) 3321 (nI (zw T n i).2.2.1)) := by
  have hlt := zw_lt hW
  obtain ⟨r1, r2⟩ := q_reg (N := N) h hW
  unfold fX10_wanted
  rw [q_sign_f (kx := 13) (x := 45) h hlt rfl (by omega) (by omega), zbn_s, if_pos rfl, q_sign_f (kx := 23) (x := 126) h hlt rfl (by omega) (by omega), zbn_s, if_pos rfl, w_23 h hlt]
  unfold fX10_wanted_J62
  rw [r1, if_pos hk, zbn_s, if_neg (r2 hk), q_fail (x := 6) (y := 6) h rfl, zbn_s, if_neg (show ¬ (zw T n i).1 = 24 by omega)]
set_option maxHeartbeats 400000 in
theorem w_bad {N n i : Nat} {T : Nat → Nat} {m : zS} (h : zPM T n i m) (hW : zWk T n (zps T n i) (zw T n i)) (hk : (zw T n i).1 = 0 ∨ ((zw T n i).1 = 7 ∨ (zw T n i).1 = 8 ∨ 10 ≤ (zw T n i).1) ∧ (zw T n i).1 ≠ 13 ∧ (zw T n i).1 ≠ 23) : fX10_wanted N m = some (0, zsc (zsc m 3320 (if (zw T n i).1 = 24 then (zw T n i).2.1 else nI 5)) 3321 (nI (zw T n i).2.2.1)) := by
  have hlt := zw_lt hW
  obtain ⟨r1, r2⟩ := q_reg (N := N) h hW
  unfold fX10_wanted
  rw [q_sign_f (kx := 13) (x := 45) h hlt rfl (by omega) (by omega), zbn_s, if_pos rfl, q_sign_f (kx := 23) (x := 126) h hlt rfl (by omega) (by omega), zbn_s, if_pos rfl, w_23 h hlt, if_neg (show ¬ (1 ≤ (zw T n i).1 ∧ (zw T n i).1 ≤ 6) by omega)]
  unfold fX10_wanted_J62
  rw [r1, if_neg (show ¬ (zw T n i).1 = 2 by omega), zbn_s, if_pos rfl, if_pos rfl, if_pos rfl, q_sign_f (kx := 9) (x := 40) h hlt rfl (by omega) (by omega), zbn_s, if_pos rfl, q_fail (x := 5) (y := 5) h rfl, zbn_s]
set_option maxHeartbeats 400000 in
theorem w_ok {N n i : Nat} {T : Nat → Nat} {m : zS} (h : zPM T n i m) (hW : zWk T n (zps T n i) (zw T n i)) (hk : (zw T n i).1 = 1 ∨ (zw T n i).1 = 3 ∨ (zw T n i).1 = 4 ∨ (zw T n i).1 = 5 ∨ (zw T n i).1 = 6 ∨ (zw T n i).1 = 9 ∨ (zw T n i).1 = 13 ∨ (zw T n i).1 = 23) : fX10_wanted N m = fX10_wanted_J105 N (if (zw T n i).1 = 13 ∨ (zw T n i).1 = 23 then 1 else 0) m := by
  have hlt := zw_lt hW
  obtain ⟨r1, r2⟩ := q_reg (N := N) h hW
  rw [if_neg (show ¬ (zw T n i).1 = 2 by omega)] at r1
  unfold fX10_wanted
  by_cases c13 : (zw T n i).1 = 13
  · rw [q_sign_t (kx := 13) (x := 45) h rfl (by omega) c13, zbn_s, if_neg (show ¬ (1 : Int32) = 0 by decide), if_pos (show (zw T n i).1 = 13 ∨ (zw T n i).1 = 23 from Or.inl c13)]
    unfold fX10_wanted_J18
    rw [w_23 h hlt]
    unfold fX10_wanted_J62
    rw [r1, zbn_s, if_pos rfl, if_neg (show ¬ (1 : Int32) = 0 by decide)]
  rw [q_sign_f (kx := 13) (x := 45) h hlt rfl (by omega) c13, zbn_s, if_pos rfl]
  by_cases c23 : (zw T n i).1 = 23
  · rw [q_sign_t (kx := 23) (x := 126) h rfl (by omega) c23, zbn_s, if_neg (show ¬ (1 : Int32) = 0 by decide), if_pos (show (zw T n i).1 = 13 ∨ (zw T n i).1 = 23 from Or.inr c23)]
    unfold fX10_wanted_J18
    rw [w_23 h hlt]
    unfold fX10_wanted_J62
    rw [r1, zbn_s, if_pos rfl, if_neg (show ¬ (1 : Int32) = 0 by decide)]
  rw [q_sign_f (kx := 23) (x := 126) h hlt rfl (by omega) c23, zbn_s, if_pos rfl, if_neg (show ¬ ((zw T n i).1 = 13 ∨ (zw T n i).1 = 23) by omega), w_23 h hlt]
  unfold fX10_wanted_J62
  rw [r1, zbn_s, if_pos rfl, if_pos rfl]
  by_cases c9 : (zw T n i).1 = 9
  · rw [if_neg (show ¬ (1 ≤ (zw T n i).1 ∧ (zw T n i).1 ≤ 6) by omega), if_pos rfl, q_sign_t (kx := 9) (x := 40) h rfl (by omega) c9, zbn_s, if_neg (show ¬ (1 : Int32) = 0 by decide)]
  · rw [if_pos (show 1 ≤ (zw T n i).1 ∧ (zw T n i).1 ≤ 6 by omega), if_neg (show ¬ (1 : Int32) = 0 by decide)]
noncomputable abbrev zXL (N M w : Nat) (m : zS) : Option ((Int32 × zS) ⊕ zS) := fX10_expression_L19 N M (nI w) 1 m
set_option maxHeartbeats 400000 in
theorem x_1 {N M : Nat} {m : zS} : zXL N (M + 1) 1 m = zbn (fX10_wanted N m) (fun x s => if x = 0 then some (.inl (0, s)) else if x = 2 then zXL N M 1 s else zXL N M 0 s) := by
  show fX10_expression_L19S N (fX10_expression_L19 N M) (nI 1) 1 m = _
  unfold fX10_expression_L19S
  rw [if_neg (show ¬ (1 : Int32) = 0 by decide), if_neg (show ¬ nI 1 = 0 by decide)]
  rfl
/-- behind a word with a fault of its own -/
def zBF (T : Nat → Nat) (n i : Nat) (m m' : zS) : Prop := m' = zsc (zsc m 3320 (zw T n i).2.1) 3321 (nI (zw T n i).2.2.1)
set_option maxHeartbeats 400000 in
theorem x_bad1 {N M n i : Nat} {T : Nat → Nat} {m : zS} (h : zPM T n i m) (hW : zWk T n (zps T n i) (zw T n i)) (hk : (zw T n i).1 = 24) : ∃ m', zXL N (M + 1) 1 m = some (.inl (0, m')) ∧ zBF T n i m m' := by
  refine ⟨_, ?_, rfl⟩
  rw [x_1, w_bad h hW (by omega), zbn_s, if_pos rfl, if_pos hk]
set_option maxHeartbeats 400000 in
theorem x_bad0 {N M n i op : Nat} {T : Nat → Nat} {m : zS} (h : zPM T n i m) (hW : zWk T n (zps T n i) (zw T n i)) (hk : (zw T n i).1 = 24) (hop : m.1 3327 = nI op) (hop2 : op < 2 ^ 31) : ∃ m', zXL N (M + 1) 0 m = some (.inl (0, m')) ∧ zBF T n i m m' := by
  refine ⟨_, ?_, rfl⟩
  have hlt := zw_lt hW
  show fX10_expression_L19S N (fX10_expression_L19 N M) (nI 0) 1 m = _
  unfold fX10_expression_L19S
  have h15 : m.1 3315 = 6 := by rw [h.2.1.1, hk]; rfl
  rw [if_neg (show ¬ (1 : Int32) = 0 by decide), if_pos (show nI 0 = 0 from rfl), q_oper h hlt, zbn_s, if_neg (show ¬ (12 ≤ (zw T n i).1 ∧ (zw T n i).1 ≤ 21) by omega), if_pos (show nI 0 ≤ 0 by decide), q_sign_f (kx := 10) (x := 41) h hlt rfl (by omega) (by omega), zbn_s, if_pos rfl, hop, h15, if_pos (show (6 : Int32) = 6 from rfl), q_fail (x := 5) (y := 5) h rfl, zbn_s, if_pos hk]
  by_cases c : 0 < op
  · rw [if_pos (show 0 < nI op from nI_lt (a := 0) c hop2)]
    rfl
  · rw [if_neg (show ¬ 0 < nI op from nI_nlt (a := 0) (by omega) (by decide))]
    rfl
