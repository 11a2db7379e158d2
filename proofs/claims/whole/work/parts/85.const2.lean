theorem zBR_m {b h n0 n1 n2 n3 nb nl : Nat} {c m m' : zS} (hR : zBR b h n0 n1 n2 n3 nb nl c m) (e : ∀ a, a ∈ [36, 37, 38, 39, 40, 41, 42, 49] → m'.2.1 a = m.2.1 a) : zBR b h n0 n1 n2 n3 nb nl c m' := by
  unfold zBR at hR ⊢
  rw [e 36 (by decide), e 37 (by decide), e 38 (by decide), e 39 (by decide), e 40 (by decide), e 41 (by decide), e 42 (by decide), e 49 (by decide)]
  exact hR
theorem zBR_c {b h n0 n1 n2 n3 nb nl : Nat} {c c' m : zS} (hR : zBR b h n0 n1 n2 n3 nb nl c m) (ec : ∀ k, k ∈ [100 * (b + 1) + 3, 100 * (b + 3) + 3, 100 * (b + 5) + 3, 100 * (b + 7) + 3, 100 * b + 5] → c'.1 k = c.1 k) (ea : ∀ a, a ∈ [b + 2, b + 4, b + 6, b + 8, b + 9] → c'.2.1 a = c.2.1 a) : zBR b h n0 n1 n2 n3 nb nl c' m := by
  unfold zBR at hR ⊢
  rw [ec (100 * (b + 1) + 3) (by simp), ec (100 * (b + 3) + 3) (by simp), ec (100 * (b + 5) + 3) (by simp), ec (100 * (b + 7) + 3) (by simp), ec (100 * b + 5) (by simp), ea (b + 2) (by simp), ea (b + 4) (by simp), ea (b + 6) (by simp), ea (b + 8) (by simp), ea (b + 9) (by simp)]
  exact hR
def zsum (f : Nat → Nat) : Nat → Nat
  | 0 => 0
  | n + 1 => zsum f n + f n
def zItk (b n3 : Nat) (c : zS) (t x : Nat) : Prop :=
  (c.2.1 (b + 6) (t * 2 + 0) = nI 0 ∧ (10 ≤ x ∨ ∃ v : Nat, v < 10 ∧ c.2.1 (b + 6) (t * 2 + 1) = nI v ∧ 1 ≤ x)) ∨
  (c.2.1 (b + 6) (t * 2 + 0) = nI 1 ∧ ∃ k l : Nat, k < n3 ∧ c.2.1 (b + 6) (t * 2 + 1) = nI k ∧ c.2.1 (b + 8) (k * 2 + 1) = nI l ∧ l ≤ x) ∨
  (c.2.1 (b + 6) (t * 2 + 0) = nI 2 ∧ ∃ v : Nat, v < 20 ∧ c.2.1 (b + 6) (t * 2 + 1) = nI v ∧ 2 ≤ x) ∨
  (c.2.1 (b + 6) (t * 2 + 0) = nI 3 ∧ 1 ≤ x) ∨
  (∃ o : Nat, 10 ≤ o ∧ o ≤ 21 ∧ c.2.1 (b + 6) (t * 2 + 0) = nI o ∧ 1 ≤ x ∧ (12 ≤ o → 5 ≤ x) ∧ (o = 17 ∨ o = 18 → 6 ≤ x))
def zOpk (b : Nat) (c : zS) (fo : Nat → Nat) (j x : Nat) : Prop := ∃ so m : Nat,
  so ≤ 3 ∧ m ≤ 4 ∧ c.2.1 (b + 4) (j * 8 + 0) = nI so ∧ c.2.1 (b + 4) (j * 8 + 2) = nI m ∧ c.2.1 (b + 4) (j * 8 + 3) = nI (fo j) ∧ c.2.1 (b + 4) (j * 8 + 4) = nI (fo (j + 1) - fo j) ∧ fo j ≤ fo (j + 1) ∧ fo (j + 1) - fo j ≤ 60 ∧
  (so = 1 ∨ so = 2 → ∃ r : Nat, r < 32 ∧ c.2.1 (b + 4) (j * 8 + 1) = nI r) ∧
  (so = 1 ∨ so = 3 → fo (j + 1) = fo j) ∧ (so = 0 ∨ so = 2 → zEx (fun t => c.2.1 (b + 6) (t * 2 + 0)) 60 (fo j) (fo (j + 1))) ∧
  (so = 1 → 5 ≤ x) ∧ (so = 3 → ∃ l : Nat, c.2.1 (b + 4) (j * 8 + 6) = nI l ∧ l ≤ 3000 ∧ 2 * l + 4 ≤ x) ∧ (so = 0 ∨ so = 2 → 2 + (if m = 0 then 0 else 11) + (if so = 2 then 5 else 0) ≤ x)
def zStk (b n1 n3 : Nat) (c : zS) (k : Nat) : Prop := ∃ so v f g : Nat, so ≤ 2 ∧ (so = 1 → v < 10) ∧ (so ≠ 1 → v < n3) ∧ f + g ≤ n1 ∧ c.2.1 (b + 2) (k * 6 + 0) = nI so ∧ c.2.1 (b + 2) (k * 6 + 1) = nI v ∧ c.2.1 (b + 2) (k * 6 + 2) = nI f ∧ c.2.1 (b + 2) (k * 6 + 3) = nI g
def zWF (b n0 n1 n2 n3 : Nat) (c : zS) : Prop := ∃ ic oc fo : Nat → Nat, zsum ic n2 + zsum oc n1 ≤ 5000 ∧ fo n1 = n2 ∧ (∀ j, j < n1 → fo (j + 1) ≤ n2) ∧ (∀ t, t < n2 → zItk b n3 c t (ic t)) ∧ (∀ j, j < n1 → zOpk b c fo j (oc j)) ∧ ∀ k, k < n0 → zStk b n1 n3 c k
theorem zWF_c {b n0 n1 n2 n3 : Nat} {c c' : zS} (hW : zWF b n0 n1 n2 n3 c) (ea : ∀ a, a ∈ [b + 2, b + 4, b + 6, b + 8, b + 9] → c'.2.1 a = c.2.1 a) : zWF b n0 n1 n2 n3 c' := by
  unfold zWF zItk zOpk zStk at hW ⊢
  rw [ea (b + 2) (by simp), ea (b + 4) (by simp), ea (b + 6) (by simp), ea (b + 8) (by simp)]
  exact hW
theorem k_end0 {N b : Nat} {p0 : Int32} {F : Nat} {s : zS} (hN : 0 < N) (hF : F < 2 ^ 30) : fX4_workOut_L29 N b p0 N (nI F) (nI 0) 0 (nI F) s = some (.inr (0, s)) := by
  obtain ⟨M, rfl⟩ : ∃ M, N = M + 1 := ⟨N - 1, by omega⟩
  show fX4_workOut_L29S _ b p0 _ (nI F) (nI 0) 0 (nI F) s = _
  unfold fX4_workOut_L29S
  rw [nI_add, if_pos (nI_le (by omega) (by omega))]
theorem k_endC {N b m : Nat} {p0 : Int32} {F C h : Nat} {s : zS} (hm : 0 < m) (hF : F + C < 2 ^ 30) : zCC N b p0 F C m h (F + C) s = some (.inr (nI h, s)) := by
  obtain ⟨M, rfl⟩ : ∃ M, m = M + 1 := ⟨m - 1, by omega⟩
  show fX4_workOut_L29S N b p0 _ (nI F) (nI C) (nI h) (nI (F + C)) s = _
  unfold fX4_workOut_L29S
  rw [nI_add, if_pos (nI_le (by omega) (by omega))]
theorem k_endM {N m : Nat} {p0 : Int32} {F C h : Nat} {s : zS} (hm : 0 < m) (hF : F + C < 2 ^ 30) : zMM N p0 F C m h (F + C) s = some (.inr (nI C, s)) := by
  obtain ⟨M, rfl⟩ : ∃ M, m = M + 1 := ⟨m - 1, by omega⟩
  show fX10_constant_L61S N p0 _ (nI F) (nI C) (nI h) (nI (F + C)) s = _
  unfold fX10_constant_L61S
  rw [nI_add, if_pos (nI_le (by omega) (by omega))]
theorem k_ops {N b n1 j k : Nat} {s : zS} {y : Int32} (hb : zBk b) (hT : zTbl s) (hc : s.1 (100 * (b + 3) + 3) = nI n1) (h1 : n1 ≤ 800) (hj : j < n1) (hk : k < 8) (d : Int32) (hy : y = nI k) : fX6_cell N (b + 3) (nI j) y d s = some (s.2.1 (b + 4) (j * 8 + k), s) := by
  subst hy
  exact q_cell_in 8 n1 j k 6400 (hT.2.2 b hb).2.1.1 hc (zlen_b hb).2.1 hj hk (by omega) (by decide) (by omega) (by decide)
theorem c_const2 {N n0 n1 n2 n3 nb nl : Nat} {s sm : zS} (hN : 200 ≤ N) (hb : zBk (s.2.2.1 301)) (hT : zTbl s) (hR : zBR (s.2.2.1 301) 1 n0 n1 n2 n3 nb nl s sm) (hW : zWF (s.2.2.1 301) n0 n1 n2 n3 s) (p0 : Int32) : ∃ x t u, fX9_constant N p0 s = some (x, t) ∧ fX10_constant N p0 sm = some (x, u) ∧ zeq [] [29] s t ∧ zeq [3300] [47] sm u := by
  obtain ⟨b, hbe⟩ : ∃ b, s.2.2.1 301 = b := ⟨_, rfl⟩
  rw [hbe] at hb hR hW
  obtain ⟨-, ⟨hn, hc, hm0, hz⟩, ⟨hn2, hc2, hm2, hz2⟩, -⟩ := hR
  have g4 : zga 5 (zlen 36) = true := by decide +kernel
  have g5 : (5 : Int32).toNatClampNeg = 5 := by decide +kernel
  have hm : sm.2.1 36 5 = nI n1 := hm0
  unfold fX9_constant fX10_constant
  rw [hbe, if_pos hb, if_pos g4, g5, hm]
  have out : (p0 < 0 ∨ s.1 (100 * (b + 3) + 3) ≤ p0) → zbn (fX4_workOut N b p0 s) (fun x2 s3 => some (x2, s3)) = some (1099511627776, s) := by
    intro h
    have h' : ∀ p1 : Int32, p0 < 0 ∨ s.1 (100 * (b + 3) + 3) ≤ p0 ∨ p1 < 0 ∨ s.1 (100 * (b + 3) + 1) ≤ p1 := fun _ => h.elim Or.inl (fun z => Or.inr (Or.inl z))
    unfold fX4_workOut
    rw [q_cell_out (h' 3), zbn_s]
    rw [q_cell_out (h' 4), zbn_s]
    have k0' : fX4_workOut_L29 N b p0 N 0 0 0 0 s = some (.inr (0, s)) := k_end0 (F := 0) (by omega) (by omega)
    rw [k0']
    rfl
  rcases pk_ix p0 (n := n1) (by omega) with h | h | ⟨j, hj, rfl⟩
  · exact ⟨_, s, zsc sm 3300 0, out (Or.inl h), by rw [if_pos h], zeq_refl _ _ _, zeq_c (List.mem_singleton.mpr rfl)⟩
  · refine ⟨_, s, zsc sm 3300 0, out (Or.inr (by rw [hc]; exact h)), ?_, zeq_refl _ _ _, zeq_c (List.mem_singleton.mpr rfl)⟩
    by_cases c : p0 < 0
    · rw [if_pos c]
    · rw [if_neg c, if_neg (Int32.not_lt.mpr h)]
  obtain ⟨ic, oc, fo, hsum, hfo, hfo2, hit, hop, hst⟩ := hW
  obtain ⟨so, mk, hso, hmk, e0, e2, e3, e4, hle, h60, -, h13, h02, -⟩ := hop j hj
  obtain ⟨C, hC⟩ : ∃ C, C = fo (j + 1) - fo j := ⟨_, rfl⟩
  have hFC : fo j + C ≤ n2 := by have := hfo2 j hj; omega
  rw [← hC] at e4 h60
  have m3 : sm.2.1 38 (5600 * 1 + 7 * j + 3) = nI (fo j) := (hz j 3 hj (by omega)).symm.trans e3
  have m4 : sm.2.1 38 (5600 * 1 + 7 * j + 4) = nI C := (hz j 4 hj (by omega)).symm.trans e4
  have i3 : 5600 + 7 * nI j + 3 = nI (5600 * 1 + 7 * j + 3) := by
    show nI 5600 + nI 7 * nI j + nI 3 = _
    rw [pk_mul, nI_add, nI_add]
  have i4 : 5600 + 7 * nI j + 4 = nI (5600 * 1 + 7 * j + 4) := by
    show nI 5600 + nI 7 * nI j + nI 4 = _
    rw [pk_mul, nI_add, nI_add]
  rw [if_neg (nI_pos (by omega)), if_pos (nI_lt hj (by omega)), i3, i4, if_pos (zga_l (by rfl) (show 5600 * 1 + 7 * j + 3 < 11200 by omega) (by decide)), if_pos (zga_l (by rfl) (show 5600 * 1 + 7 * j + 4 < 11200 by omega) (by decide)), nI_clamp (show 5600 * 1 + 7 * j + 3 < 2 ^ 31 by omega), nI_clamp (show 5600 * 1 + 7 * j + 4 < 2 ^ 31 by omega), m3, m4]
  have hcls : zbn (fX4_workOut N b (nI j) s) (fun x2 s3 => some (x2, s3)) = zbn (zbl (zCC N b (nI j) (fo j) C N 0 (fo j) s) (fun x => some x) (fun lq30 => match lq30 with | (y33, s34) => if y33 = 1 then if zga 0 (zlen 29) = true then some ((s34.2.1 29 (0 : Int32).toNatClampNeg).toInt64, s34) else none else some (1099511627776, s34))) (fun x2 s3 => some (x2, s3)) := by
    unfold fX4_workOut
    rw [k_ops hb hT hc hn hj (k := 3) (y := 3) (by omega) 0 rfl, e3, zbn_s]
    rw [k_ops hb hT hc hn hj (k := 4) (y := 4) (by omega) 0 rfl, e4]
    rfl
  rw [hcls]
  have hmod : zsc sm 3300 0 = zsc sm 3300 0 := rfl
  by_cases c0 : C = 0
  · subst c0
    have q1 : zCC N b (nI j) (fo j) 0 N 0 (fo j) s = some (.inr (nI 0, s)) := k_endC (F := fo j) (C := 0) (by omega) (by omega)
    have q2 : zMM N (nI j) (fo j) 0 N 0 (fo j) (zsc sm 3300 0) = some (.inr (nI 0, zsc sm 3300 0)) := k_endM (F := fo j) (C := 0) (by omega) (by omega)
    refine ⟨1099511627776, s, zsc sm 3300 0, ?_, ?_, zeq_refl _ _ _, zeq_c (List.mem_singleton.mpr rfl)⟩
    · rw [q1]; rfl
    · show zbl (zMM N (nI j) (fo j) 0 N 0 (fo j) (zsc sm 3300 0)) _ _ = _
      rw [q2]; rfl
  have hEE : zEx (fun t => s.2.1 (b + 6) (t * 2 + 0)) 60 (fo j) (fo j + C) := by
    have h9 : so = 0 ∨ so = 2 := by
      by_cases c : so = 1 ∨ so = 3
      · have := h13 c; omega
      · omega
    have h8 := h02 h9
    rw [show fo j + C = fo (j + 1) by omega]
    exact h8
  obtain ⟨sc', sm', z1, z2, hcase⟩ := k_tree (N := N) (b := b) (n2 := n2) (F := fo j) (C := C) (p := nI j) hb hn2 hFC h60 (fun t => s.2.1 (b + 6) (t * 2 + 0)) (fun t => s.2.1 (b + 6) (t * 2 + 1)) 60 (fo j) (fo j + C) hEE (Nat.le_refl _) (Nat.le_refl _) 0 s (zsc sm 3300 0) (Nat.zero_le _) ⟨(hT.2.2 b hb).2.2.1.1, hc2⟩ (fun t _ => ⟨rfl, rfl⟩) (fun t ht => ⟨(hz2 t 0 ht (by omega)).symm, (hz2 t 1 ht (by omega)).symm⟩) (fun k hk => absurd hk (Nat.not_lt_zero _))
  have eN : N = (N - C) + (fo j + C - fo j) := by omega
  rcases hcase with ⟨f1, f2, f3⟩ | ⟨f2, f3⟩
  · have q1 : zCC N b (nI j) (fo j) C N 0 (fo j) s = some (.inr (nI (0 + 1), sc')) := by
      have h9 := f2 (N - C)
      rw [← eN] at h9
      rw [h9]
      exact k_endC (by omega) (by omega)
    have q2 : zMM N (nI j) (fo j) C N 0 (fo j) (zsc sm 3300 0) = some (.inr (nI C, sm')) := by
      have h9 := f3 (N - C)
      rw [← eN] at h9
      rw [h9]
      exact k_endM (by omega) (by omega)
    have g0 : (0 : Int32).toNatClampNeg = 0 := by decide
    refine ⟨(sc'.2.1 29 0).toInt64, sc', sm', ?_, ?_, z1, zeq_trans (zeq_c (List.mem_singleton.mpr rfl)) (zeq_mono z2 (fun k h => absurd h List.not_mem_nil) (fun k h => h))⟩
    · rw [q1]
      rfl
    · show zbl (zMM N (nI j) (fo j) C N 0 (fo j) (zsc sm 3300 0)) _ _ = _
      rw [q2]
      rw [zbl_r]
      refine (if_neg (nI_ne0 (n := C) (by omega) (by omega))).trans ?_
      rw [g0, f1 0 (by omega)]
      rfl
  · have q1 : zCC N b (nI j) (fo j) C N 0 (fo j) s = some (.inl (1099511627776, sc')) := by
      have h9 := f2 (N - C)
      rw [← eN] at h9
      exact h9
    have q2 : zMM N (nI j) (fo j) C N 0 (fo j) (zsc sm 3300 0) = some (.inl (1099511627776, sm')) := by
      have h9 := f3 (N - C)
      rw [← eN] at h9
      exact h9
    refine ⟨1099511627776, sc', sm', ?_, ?_, z1, zeq_trans (zeq_c (List.mem_singleton.mpr rfl)) (zeq_mono z2 (fun k h => absurd h List.not_mem_nil) (fun k h => h))⟩
    · rw [q1]; rfl
    · show zbl (zMM N (nI j) (fo j) C N 0 (fo j) (zsc sm 3300 0)) _ _ = _
      rw [q2]; rfl
theorem c_constant {N n0 n1 n2 n3 nb nl : Nat} {s : zS} (hN : 200 ≤ N) (hb : zBk (s.2.2.1 301)) (hT : zTbl s) (hR : zBR (s.2.2.1 301) 1 n0 n1 n2 n3 nb nl s s) (hW : zWF (s.2.2.1 301) n0 n1 n2 n3 s) (p0 : Int32) : ∃ x t u, fX9_constant N p0 s = some (x, t) ∧ fX10_constant N p0 t = some (x, u) ∧ zeq [3300] [29, 47] s u := by
  obtain ⟨x1, t1, u1, e1, -, z1, -⟩ := c_const2 hN hb hT hR hW p0
  obtain ⟨x2, t2, u2, e2, e3, z2, z3⟩ := c_const2 (sm := t1) hN hb hT (zBR_m hR (fun a ha => z1.2.1 a (by
    intro h
    simp at h
    subst h
    revert ha
    decide))) hW p0
  have e4 := Option.some.inj (e1.symm.trans e2)
  cases e4
  exact ⟨x1, t1, u2, e1, e3, zeq_trans (zeq_mono z1 (fun k h => absurd h List.not_mem_nil) (fun k h => by simp at h; simp [h])) (zeq_mono z3 (fun k h => h) (fun k h => by simp at h; simp [h]))⟩
