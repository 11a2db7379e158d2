theorem c_statement {N n0 n1 n2 n3 nb nl : Nat} {s : zS} (hb : zBk (s.2.2.1 301)) (hT : zTbl s) (hR : zBR (s.2.2.1 301) 1 n0 n1 n2 n3 nb nl s s) (p0 p1 : Int32) : ∃ x, fX9_statement N p0 p1 s = some (x, s) ∧ fX10_statement N p0 p1 s = some (x, zsc s 3300 0) := by
  obtain ⟨b, hbe⟩ : ∃ b, s.2.2.1 301 = b := ⟨_, rfl⟩
  rw [hbe] at hb hR
  obtain ⟨hn, hc, hm0, hx⟩ := hR.1
  have w := (hT.2.2 b hb).1.1
  have g4 : zga 4 (zlen 36) = true := by decide +kernel
  have g5 : (4 : Int32).toNatClampNeg = 4 := by decide +kernel
  have hm : s.2.1 36 4 = nI n0 := hm0
  unfold fX9_statement fX10_statement
  rw [hbe, if_pos hb, if_pos g4, g5, hm]
  rcases pk_ix p0 (n := n0) (by omega) with h | h | ⟨k, hk, rfl⟩
  · refine ⟨(-1), ?_, ?_⟩
    · rw [q_cell_out (Or.inl h)]; rfl
    · rw [if_pos h]
  · refine ⟨(-1), ?_, ?_⟩
    · rw [q_cell_out (Or.inr (Or.inl (by rw [hc]; exact h)))]; rfl
    · by_cases c : p0 < 0
      · rw [if_pos c]
      · rw [if_neg c, if_pos h]
  rw [if_neg (nI_pos (by omega)), if_neg (nI_ge hk (by omega))]
  rcases pk_ix p1 (n := 6) (by decide) with h | h | ⟨j, hj, rfl⟩
  · refine ⟨(-1), ?_, ?_⟩
    · rw [q_cell_out (Or.inr (Or.inr (Or.inl h)))]; rfl
    · rw [if_pos h]
  · refine ⟨(-1), ?_, ?_⟩
    · rw [q_cell_out (Or.inr (Or.inr (Or.inr (by rw [w]; exact h))))]; rfl
    · by_cases c : p1 < 0
      · rw [if_pos c]
      · rw [if_neg c, if_pos (show (6 : Int32) ≤ p1 from h)]
  have e : 2400 + 6 * nI k + nI j = nI (2400 + 6 * k + j) := by
    show nI 2400 + nI 6 * nI k + nI j = _
    rw [pk_mul, nI_add, nI_add]
  have hx' : s.2.1 (b + 1 + 1) (k * 6 + j) = s.2.1 37 (2400 + 6 * k + j) := hx k j hk hj
  refine ⟨s.2.1 37 (2400 + 6 * k + j), ?_, ?_⟩
  · rw [q_cell_in 6 n0 k j 2400 w hc (zlen_b hb).1 hk (by omega) (by omega) (by decide) (by omega) (by decide), hx']; rfl
  · rw [if_neg (nI_pos (by omega)), if_neg (show ¬ (6 : Int32) ≤ nI j from nI_ge hj (by decide)), e, if_pos (zga_l (by rfl) (show _ < 4800 by omega) (by decide)), nI_clamp (by omega)]
theorem c_operand {N n0 n1 n2 n3 nb nl : Nat} {s : zS} (hb : zBk (s.2.2.1 301)) (hT : zTbl s) (hR : zBR (s.2.2.1 301) 1 n0 n1 n2 n3 nb nl s s) (p0 p1 : Int32) : ∃ x, fX9_operand N p0 p1 s = some (x, s) ∧ fX10_operand N p0 p1 s = some (x, zsc s 3300 0) := by
  obtain ⟨b, hbe⟩ : ∃ b, s.2.2.1 301 = b := ⟨_, rfl⟩
  rw [hbe] at hb hR
  obtain ⟨hn, hc, hm0, hx⟩ := hR.2.1
  have w := (hT.2.2 b hb).2.1.1
  have g4 : zga 5 (zlen 36) = true := by decide +kernel
  have g5 : (5 : Int32).toNatClampNeg = 5 := by decide +kernel
  have hm : s.2.1 36 5 = nI n1 := hm0
  unfold fX9_operand fX10_operand
  rw [hbe, if_pos g4, g5, hm]
  by_cases c6 : p1 ≤ 6
  case neg =>
    refine ⟨(-1), ?_, ?_⟩
    · rw [if_neg c6]
    · by_cases c : p0 < 0
      · rw [if_pos c]
      rw [if_neg c]
      by_cases c2 : nI n1 ≤ p0
      · rw [if_pos c2]
      rw [if_neg c2]
      by_cases c3 : p1 < 0
      · rw [if_pos c3]
      rw [if_neg c3, if_pos]
      rcases pk_ix p1 (n := 7) (by decide) with h | h | ⟨j, hj, rfl⟩
      · exact absurd h c3
      · exact h
      · exact absurd (nI_le (a := j) (b := 6) (by omega) (by decide)) c6
  rw [if_pos c6, if_pos hb]
  rcases pk_ix p0 (n := n1) (by omega) with h | h | ⟨k, hk, rfl⟩
  · refine ⟨(-1), ?_, ?_⟩
    · rw [q_cell_out (Or.inl h)]; rfl
    · rw [if_pos h]
  · refine ⟨(-1), ?_, ?_⟩
    · rw [q_cell_out (Or.inr (Or.inl (by rw [hc]; exact h)))]; rfl
    · by_cases c : p0 < 0
      · rw [if_pos c]
      · rw [if_neg c, if_pos h]
  rw [if_neg (nI_pos (by omega)), if_neg (nI_ge hk (by omega))]
  rcases pk_ix p1 (n := 7) (by decide) with h | h | ⟨j, hj, rfl⟩
  · refine ⟨(-1), ?_, ?_⟩
    · rw [q_cell_out (Or.inr (Or.inr (Or.inl h)))]; rfl
    · rw [if_pos h]
  · exact absurd (Int32.le_trans (show (7 : Int32) ≤ p1 from h) c6) (by decide)
  have e : 5600 + 7 * nI k + nI j = nI (5600 + 7 * k + j) := by
    show nI 5600 + nI 7 * nI k + nI j = _
    rw [pk_mul, nI_add, nI_add]
  have hx' : s.2.1 (b + 3 + 1) (k * 8 + j) = s.2.1 38 (5600 + 7 * k + j) := hx k j hk hj
  refine ⟨s.2.1 38 (5600 + 7 * k + j), ?_, ?_⟩
  · rw [q_cell_in 8 n1 k j 6400 w hc (zlen_b hb).2.1 hk (by omega) (by omega) (by decide) (by omega) (by decide), hx']; rfl
  · rw [if_neg (nI_pos (by omega)), if_neg (show ¬ (7 : Int32) ≤ nI j from nI_ge hj (by decide)), e, if_pos (zga_l (by rfl) (show _ < 11200 by omega) (by decide)), nI_clamp (by omega)]
theorem c_item {N n0 n1 n2 n3 nb nl : Nat} {s : zS} (hb : zBk (s.2.2.1 301)) (hT : zTbl s) (hR : zBR (s.2.2.1 301) 1 n0 n1 n2 n3 nb nl s s) (p0 p1 : Int32) : ∃ x, fX9_item N p0 p1 s = some (x, s) ∧ fX10_item N p0 p1 s = some (x, zsc s 3300 0) := by
  obtain ⟨b, hbe⟩ : ∃ b, s.2.2.1 301 = b := ⟨_, rfl⟩
  rw [hbe] at hb hR
  obtain ⟨hn, hc, hm0, hx⟩ := hR.2.2.1
  have w := (hT.2.2 b hb).2.2.1.1
  have g4 : zga 6 (zlen 36) = true := by decide +kernel
  have g5 : (6 : Int32).toNatClampNeg = 6 := by decide +kernel
  have hm : s.2.1 36 6 = nI n2 := hm0
  unfold fX9_item fX10_item
  rw [hbe, if_pos hb, if_pos g4, g5, hm]
  rcases pk_ix p0 (n := n2) (by omega) with h | h | ⟨k, hk, rfl⟩
  · refine ⟨0, ?_, ?_⟩
    · rw [q_cell_out (Or.inl h)]; rfl
    · rw [if_pos h]
  · refine ⟨0, ?_, ?_⟩
    · rw [q_cell_out (Or.inr (Or.inl (by rw [hc]; exact h)))]; rfl
    · by_cases c : p0 < 0
      · rw [if_pos c]
      · rw [if_neg c, if_pos h]
  rw [if_neg (nI_pos (by omega)), if_neg (nI_ge hk (by omega))]
  rcases pk_ix p1 (n := 2) (by decide) with h | h | ⟨j, hj, rfl⟩
  · refine ⟨0, ?_, ?_⟩
    · rw [q_cell_out (Or.inr (Or.inr (Or.inl h)))]; rfl
    · rw [if_pos h]
  · refine ⟨0, ?_, ?_⟩
    · rw [q_cell_out (Or.inr (Or.inr (Or.inr (by rw [w]; exact h))))]; rfl
    · by_cases c : p1 < 0
      · rw [if_pos c]
      · rw [if_neg c, if_pos (show (2 : Int32) ≤ p1 from h)]
  have e : 4000 + 2 * nI k + nI j = nI (4000 + 2 * k + j) := by
    show nI 4000 + nI 2 * nI k + nI j = _
    rw [pk_mul, nI_add, nI_add]
  have hx' : s.2.1 (b + 5 + 1) (k * 2 + j) = s.2.1 39 (4000 + 2 * k + j) := hx k j hk hj
  refine ⟨s.2.1 39 (4000 + 2 * k + j), ?_, ?_⟩
  · rw [q_cell_in 2 n2 k j 4000 w hc (zlen_b hb).2.2.1 hk (by omega) (by omega) (by decide) (by omega) (by decide), hx']; rfl
  · rw [if_neg (nI_pos (by omega)), if_neg (show ¬ (2 : Int32) ≤ nI j from nI_ge hj (by decide)), e, if_pos (zga_l (by rfl) (show _ < 8000 by omega) (by decide)), nI_clamp (by omega)]
theorem c_fault {N : Nat} {s : zS} (h1 : s.1 309 = s.1 3313) (h2 : s.1 310 = s.1 3314) (p0 : Int32) : ∃ x, fX9_fault N p0 s = some (x, s) ∧ fX10_fault N p0 s = some (x, zsc s 3300 0) := by
  unfold fX9_fault fX10_fault
  rw [h1, h2]
  by_cases c0 : p0 = 0
  · exact ⟨_, by rw [if_pos c0], by rw [if_pos c0]⟩
  by_cases c1 : p0 = 1
  · exact ⟨_, by rw [if_neg c0, if_pos c1], by rw [if_neg c0, if_pos c1]⟩
  · exact ⟨_, by rw [if_neg c0, if_neg c1], by rw [if_neg c0, if_neg c1]⟩
theorem c_count {N n0 n1 n2 n3 nb nl : Nat} {s : zS} (hb : zBk (s.2.2.1 301)) (hR : zBR (s.2.2.1 301) 1 n0 n1 n2 n3 nb nl s s) (p0 : Int32) : ∃ x, fX9_count N p0 s = some (x, s) ∧ fX10_count N p0 s = some (x, zsc s 3300 0) := by
  obtain ⟨b, hbe⟩ : ∃ b, s.2.2.1 301 = b := ⟨_, rfl⟩
  rw [hbe] at hb hR
  obtain ⟨⟨-, a0, b0, -⟩, ⟨-, a1, b1, -⟩, ⟨-, a2, b2, -⟩, ⟨-, a3, b3, -⟩, -⟩ := hR
  unfold fX9_count fX10_count
  rw [hbe]
  rcases pk_ix p0 (n := 4) (by decide) with h | h | ⟨k, hk, rfl⟩
  · refine ⟨(-1), ?_, ?_⟩
    · rw [if_neg (fun e => by subst e; exact absurd h (by decide)), if_neg (fun e => by subst e; exact absurd h (by decide)), if_neg (fun e => by subst e; exact absurd h (by decide)), if_neg (fun e => by subst e; exact absurd h (by decide))]
    · rw [if_pos h]
  · refine ⟨(-1), ?_, ?_⟩
    · rw [if_neg (fun e => by subst e; exact absurd h (by decide)), if_neg (fun e => by subst e; exact absurd h (by decide)), if_neg (fun e => by subst e; exact absurd h (by decide)), if_neg (fun e => by subst e; exact absurd h (by decide))]
    · by_cases c : p0 < 0
      · rw [if_pos c]
      · rw [if_neg c, if_pos (show (4 : Int32) ≤ p0 from h)]
  · have e : 4 + nI k = nI (4 + k) := nI_add 4 k
    have g : fX10_count N (nI k) s = some (s.2.1 36 (4 + k), zsc s 3300 0) := by
      unfold fX10_count
      rw [if_neg (nI_pos (by omega)), if_neg (show ¬ (4 : Int32) ≤ nI k from nI_ge hk (by decide)), e, if_pos (zga_l (by rfl) (show _ < 8 by omega) (by decide)), nI_clamp (by omega)]
    refine ⟨s.2.1 36 (4 + k), ?_, g⟩
    match k, hk with
    | 0, _ => rw [if_pos (show nI 0 = 0 from rfl), if_pos hb, a0]; exact congrArg (fun z => some (z, s)) b0.symm
    | 1, _ => rw [if_neg (by decide), if_pos (show nI 1 = 1 from rfl), if_pos hb, a1]; exact congrArg (fun z => some (z, s)) b1.symm
    | 2, _ => rw [if_neg (by decide), if_neg (by decide), if_pos (show nI 2 = 2 from rfl), if_pos hb, a2]; exact congrArg (fun z => some (z, s)) b2.symm
    | 3, _ => rw [if_neg (by decide), if_neg (by decide), if_neg (by decide), if_pos (show nI 3 = 3 from rfl), if_pos hb, a3]; exact congrArg (fun z => some (z, s)) b3.symm
theorem c_letter {N n : Nat} {s : zS} (h1 : s.1 3001 = nI n) (h2 : s.1 3329 = nI n) (hn : n ≤ 6000) (hx : ∀ i, i < n → s.2.1 31 i = s.2.1 44 i) (p0 : Int32) : ∃ x, fX9_letter N p0 s = some (x, s) ∧ fX10_letter N p0 s = some (x, zsc s 3300 0) := by
  unfold fX9_letter fX10_letter fX7_byteOfOut
  rw [h1, h2]
  rcases pk_ix p0 (n := n) (by omega) with h | h | ⟨k, hk, rfl⟩
  · exact ⟨(-1), by rw [if_pos h]; rfl, by rw [if_pos h]⟩
  · by_cases c : p0 < 0
    · exact ⟨(-1), by rw [if_pos c]; rfl, by rw [if_pos c]⟩
    · exact ⟨(-1), by rw [if_neg c, if_pos h]; rfl, by rw [if_neg c, if_pos h]⟩
  · refine ⟨s.2.1 44 k, ?_, ?_⟩
    · rw [if_neg (nI_pos (by omega)), if_neg (nI_ge hk (by omega)), if_neg (zlen_ge (by rfl) (show k < 6000 by omega) (by decide)), if_pos (zga_l (by rfl) (show k < 6000 by omega) (by decide)), nI_clamp (by omega), hx k hk]; rfl
    · rw [if_neg (nI_pos (by omega)), if_neg (nI_ge hk (by omega)), if_pos (zga_l (by rfl) (show k < 24000 by omega) (by decide)), nI_clamp (by omega)]
theorem q_behind_no {N b : Nat} {s : zS} {p0 p1 p2 : Int32} (h : p2 < 0 ∨ p1 ≤ p2) : fX0_byteBehind N b p0 p1 p2 s = some ((-1), s) := by
  unfold fX0_byteBehind
  by_cases c0 : p0 < 0
  · rw [if_pos c0]
  rw [if_neg c0]
  by_cases c1 : p2 < 0
  · rw [if_pos c1]
  rw [if_neg c1, if_pos (h.resolve_left c1)]
theorem q_behind {N b p l i : Nat} {s : zS} (hb : zBk b) (hi : i < l) (hp : p + l ≤ 3000) : fX0_byteBehind N b (nI p) (nI l) (nI i) s = some (s.2.1 (b + 9) (p + i), s) := by
  unfold fX0_byteBehind
  rw [nI_add, (zlen_b hb).2.2.2.2, if_neg (nI_pos (by omega)), if_neg (nI_pos (by omega)), if_neg (nI_ge hi (by omega)), if_neg (nI_ge (show p + i < 3000 by omega) (by decide)), if_pos (zga_n (show p + i < 3000 by omega) (by decide)), nI_clamp (by omega)]
theorem c_name {N n0 n1 n2 n3 nb nl : Nat} {s : zS} (hb : zBk (s.2.2.1 301)) (hT : zTbl s) (hR : zBR (s.2.2.1 301) 1 n0 n1 n2 n3 nb nl s s) (p0 p1 : Int32) : ∃ x, fX9_name N p0 p1 s = some (x, s) ∧ fX10_name N p0 p1 s = some (x, zsc s 3300 0) := by
  obtain ⟨b, hbe⟩ : ∃ b, s.2.2.1 301 = b := ⟨_, rfl⟩
  rw [hbe] at hb hR
  obtain ⟨-, -, -, ⟨hn, hc, hm0, hx⟩, hnb, -⟩ := hR
  have w := (hT.2.2 b hb).2.2.2.1
  have g4 : zga 7 (zlen 36) = true := by decide +kernel
  have g5 : (7 : Int32).toNatClampNeg = 7 := by decide +kernel
  have hm : s.2.1 36 7 = nI n3 := hm0
  unfold fX9_name fX10_name fX0_byteOfName
  rw [hbe, if_pos hb, if_pos g4, g5, hm]
  have out : (p0 < 0 ∨ s.1 (100 * (b + 7) + 3) ≤ p0) → zbn (zbn (fX6_cell N (b + 7) p0 0 0 s) (fun x1 s2 => zbn (fX6_cell N (b + 7) p0 1 0 s2) (fun x4 s5 => zbn (fX0_byteBehind N b x1 x4 p1 s5) (fun x7 s8 => some (x7, s8))))) (fun x2 s3 => some (x2, s3)) = some ((-1), s) := by
    intro h
    have h' : ∀ p1 : Int32, p0 < 0 ∨ s.1 (100 * (b + 7) + 3) ≤ p0 ∨ p1 < 0 ∨ s.1 (100 * (b + 7) + 1) ≤ p1 := fun _ => h.elim Or.inl (fun z => Or.inr (Or.inl z))
    rw [q_cell_out (h' 0), zbn_s]
    rw [q_cell_out (h' 1), zbn_s]
    rw [q_behind_no (by
      by_cases c : p1 < 0
      · exact Or.inl c
      · exact Or.inr (Int32.not_lt.mp c))]
    rfl
  rcases pk_ix p0 (n := n3) (by omega) with h | h | ⟨k, hk, rfl⟩
  · exact ⟨(-1), out (Or.inl h), by rw [if_pos h]⟩
  · refine ⟨(-1), out (Or.inr (by rw [hc]; exact h)), ?_⟩
    by_cases c : p0 < 0
    · rw [if_pos c]
    · rw [if_neg c, if_pos h]
  obtain ⟨p, l, hl1, hl2, hp, e0, e1, e2, hy⟩ := hx k hk
  have e2' : s.2.1 41 (150 + k) = nI l := e2
  have e : 150 + nI k = nI (150 + k) := nI_add 150 k
  have hin : zbn (zbn (fX6_cell N (b + 7) (nI k) 0 0 s) (fun x1 s2 => zbn (fX6_cell N (b + 7) (nI k) 1 0 s2) (fun x4 s5 => zbn (fX0_byteBehind N b x1 x4 p1 s5) (fun x7 s8 => some (x7, s8))))) (fun x2 s3 => some (x2, s3)) = zbn (zbn (fX0_byteBehind N b (nI p) (nI l) p1 s) (fun x7 s8 => some (x7, s8))) (fun x2 s3 => some (x2, s3)) := by
    rw [show (0 : Int32) = nI 0 from rfl, show (1 : Int32) = nI 1 from rfl, q_cell_in 2 n3 k 0 300 w hc (zlen_b hb).2.2.2.1 hk (by omega) (by omega) (by decide) (by omega) (by decide), zbn_s]
    rw [q_cell_in 2 n3 k 1 300 w hc (zlen_b hb).2.2.2.1 hk (by omega) (by omega) (by decide) (by omega) (by decide), zbn_s]
    rw [e0, e1]
  rw [hin, if_neg (nI_pos (by omega)), if_neg (nI_ge hk (by omega)), e, if_pos (zga_l (by rfl) (show _ < 300 by omega) (by decide)), nI_clamp (by omega), e2']
  rcases pk_ix p1 (n := l) (by omega) with h | h | ⟨i, hi, rfl⟩
  · exact ⟨(-1), by rw [q_behind_no (Or.inl h)]; rfl, by rw [if_pos h]⟩
  · refine ⟨(-1), by rw [q_behind_no (Or.inr h)]; rfl, ?_⟩
    by_cases c : p1 < 0
    · rw [if_pos c]
    · rw [if_neg c, if_pos h]
  have e3 : 2400 + 16 * nI k + nI i = nI (2400 + 16 * k + i) := by
    show nI 2400 + nI 16 * nI k + nI i = _
    rw [pk_mul, nI_add, nI_add]
  have hy' : s.2.1 (b + 9) (p + i) = s.2.1 40 (2400 + 16 * k + i) := hy i hi
  refine ⟨s.2.1 40 (2400 + 16 * k + i), ?_, ?_⟩
  · rw [q_behind hb hi (by omega), hy']; rfl
  · rw [if_neg (nI_pos (by omega)), if_neg (nI_ge hi (by omega)), e3, if_pos (zga_l (by rfl) (show _ < 4800 by omega) (by decide)), nI_clamp (by omega)]
theorem c_string {N n0 n1 n2 n3 nb nl : Nat} {s : zS} (hb : zBk (s.2.2.1 301)) (hT : zTbl s) (hR : zBR (s.2.2.1 301) 1 n0 n1 n2 n3 nb nl s s) (p0 p1 : Int32) : ∃ x, fX9_string N p0 p1 s = some (x, s) ∧ fX10_string N p0 p1 s = some (x, zsc s 3300 0) := by
  obtain ⟨b, hbe⟩ : ∃ b, s.2.2.1 301 = b := ⟨_, rfl⟩
  rw [hbe] at hb hR
  obtain ⟨-, ⟨hn, hc, hm0, hz⟩, -, -, hnb, -, hnl, hx⟩ := hR
  have w := (hT.2.2 b hb).2.1.1
  have g4 : zga 5 (zlen 36) = true := by decide +kernel
  have g5 : (5 : Int32).toNatClampNeg = 5 := by decide +kernel
  have hm : s.2.1 36 5 = nI n1 := hm0
  unfold fX9_string fX10_string fX0_byteOfString
  rw [hbe, if_pos hb, if_pos g4, g5, hm]
  have out : (p0 < 0 ∨ s.1 (100 * (b + 3) + 3) ≤ p0) → zbn (zbn (fX6_cell N (b + 3) p0 7 0 s) (fun x1 s2 => zbn (fX6_cell N (b + 3) p0 6 0 s2) (fun x4 s5 => zbn (fX0_byteBehind N b x1 x4 p1 s5) (fun x7 s8 => some (x7, s8))))) (fun x2 s3 => some (x2, s3)) = some ((-1), s) := by
    intro h
    have h' : ∀ p1 : Int32, p0 < 0 ∨ s.1 (100 * (b + 3) + 3) ≤ p0 ∨ p1 < 0 ∨ s.1 (100 * (b + 3) + 1) ≤ p1 := fun _ => h.elim Or.inl (fun z => Or.inr (Or.inl z))
    rw [q_cell_out (h' 7), zbn_s]
    rw [q_cell_out (h' 6), zbn_s]
    rw [q_behind_no (by
      by_cases c : p1 < 0
      · exact Or.inl c
      · exact Or.inr (Int32.not_lt.mp c))]
    rfl
  rcases pk_ix p0 (n := n1) (by omega) with h | h | ⟨k, hk, rfl⟩
  · exact ⟨(-1), out (Or.inl h), by rw [if_pos h]⟩
  · refine ⟨(-1), out (Or.inr (by rw [hc]; exact h)), ?_⟩
    by_cases c : p0 < 0
    · rw [if_pos c]
    · rw [if_neg c, if_pos h]
  obtain ⟨p, q, l, hp, hq, e0, e1, e2, hy⟩ := hx k hk
  have e : 5600 + 7 * nI k + 6 = nI (5600 + 7 * k + 6) := by
    show nI 5600 + nI 7 * nI k + nI 6 = _
    rw [pk_mul, nI_add, nI_add]
  have e1' : s.2.1 38 (5600 + 7 * k + 6) = nI l := (hz k 6 hk (by omega)).symm.trans e1
  have hin : zbn (zbn (fX6_cell N (b + 3) (nI k) 7 0 s) (fun x1 s2 => zbn (fX6_cell N (b + 3) (nI k) 6 0 s2) (fun x4 s5 => zbn (fX0_byteBehind N b x1 x4 p1 s5) (fun x7 s8 => some (x7, s8))))) (fun x2 s3 => some (x2, s3)) = zbn (zbn (fX0_byteBehind N b (nI p) (nI l) p1 s) (fun x7 s8 => some (x7, s8))) (fun x2 s3 => some (x2, s3)) := by
    rw [show (7 : Int32) = nI 7 from rfl, show (6 : Int32) = nI 6 from rfl, q_cell_in 8 n1 k 7 6400 w hc (zlen_b hb).2.1 hk (by omega) (by omega) (by decide) (by omega) (by decide), zbn_s]
    rw [q_cell_in 8 n1 k 6 6400 w hc (zlen_b hb).2.1 hk (by omega) (by omega) (by decide) (by omega) (by decide), zbn_s]
    rw [e0, e1]
  rw [hin, if_neg (nI_pos (by omega)), if_neg (nI_ge hk (by omega)), e, if_pos (zga_l (by rfl) (show _ < 11200 by omega) (by decide)), nI_clamp (show 5600 + 7 * k + 6 < 2 ^ 31 by omega), e1']
  rcases pk_ix p1 (n := l) (by omega) with h | h | ⟨i, hi, rfl⟩
  · exact ⟨(-1), by rw [q_behind_no (Or.inl h)]; rfl, by rw [if_pos h]⟩
  · refine ⟨(-1), by rw [q_behind_no (Or.inr h)]; rfl, ?_⟩
    by_cases c : p1 < 0
    · rw [if_pos c]
    · rw [if_neg c, if_neg (Int32.not_lt.mpr h)]
  have e2' : s.2.1 49 (800 + k) = nI q := e2 (by omega)
  have e4 : 800 + nI k = nI (800 + k) := nI_add 800 k
  have e3 : 3000 + nI q + nI i = nI (3000 + q + i) := by
    show nI 3000 + nI q + nI i = _
    rw [nI_add, nI_add]
  have hy' : s.2.1 (b + 9) (p + i) = s.2.1 42 (3000 + q + i) := hy i hi
  refine ⟨s.2.1 42 (3000 + q + i), ?_, ?_⟩
  · rw [q_behind hb hi (by omega), hy']; rfl
  · rw [if_neg (nI_pos (by omega)), if_pos (nI_lt hi (by omega)), e4, if_pos (zga_l (by rfl) (show _ < 1600 by omega) (by decide)), nI_clamp (show 800 + k < 2 ^ 31 by omega), e2', e3, if_pos (zga_l (by rfl) (show _ < 6000 by omega) (by decide)), nI_clamp (by omega)]
