def zEx (f : Nat → Int32) : Nat → Nat → Nat → Prop
  | 0, _, _ => False
  | n + 1, a, z => (z = a + 1 ∧ ∃ o : Nat, o ≤ 3 ∧ f a = nI o) ∨ (∃ y, z = y + 1 ∧ (∃ o : Nat, (o = 10 ∨ o = 11) ∧ f y = nI o) ∧ zEx f n a y) ∨ (∃ y m o : Nat, z = y + 1 ∧ 12 ≤ o ∧ o ≤ 21 ∧ f y = nI o ∧ zEx f n a m ∧ zEx f n m y)
theorem zEx_lt {f : Nat → Int32} : ∀ (n a z : Nat), zEx f n a z → a < z
  | 0, _, _, h => h.elim
  | n + 1, a, z, h => by
    rcases h with ⟨rfl, -⟩ | ⟨y, rfl, -, h⟩ | ⟨y, m, o, rfl, -, -, -, h1, h2⟩
    · omega
    · have := zEx_lt n a y h; omega
    · have := zEx_lt n a m h1; have := zEx_lt n m y h2; omega
theorem zlg {x y : Int64} : lg_cmp x y = 0 ↔ x = y := by
  unfold lg_cmp
  constructor
  · intro h
    by_cases c : x > y
    · rw [if_pos c] at h; exact absurd h (by decide)
    · rw [if_neg c] at h
      by_cases e : x = y
      · exact e
      · rw [if_neg e] at h; exact absurd h (by decide)
  · intro h
    subst h
    rw [if_neg (fun h => Int64.lt_irrefl h), if_pos rfl]
theorem zT_no (x : Int32) : ¬ x.toInt64 = 1099511627776 := by
  intro h
  have h2 := congrArg Int64.toInt h
  rw [Int32.toInt_toInt64] at h2
  have h3 := x.toInt_lt
  have h4 : (1099511627776 : Int64).toInt = 1099511627776 := by decide
  omega
theorem zdivm (x : Int32) : x / (-1) = -x := Int32.toInt_inj.mp (by
  have h : (-1 : Int32).toInt = -1 := by decide
  rw [Int32.toInt_div, h, Int.tdiv_neg, Int.tdiv_one, Int32.toInt_neg])
theorem zremm (x : Int32) : x - x / (-1) * (-1) = 0 := by
  rw [zdivm]
  grind
/-- what two-sided operators give; none: no CONSTANT -/
def zjn (o : Nat) (x y : Int32) : Option Int32 := if (o = 15 ∨ o = 16) ∧ y = 0 then none else some (if o = 12 then x + y else if o = 13 then x - y else if o = 14 then x * y else if o = 15 then x / y else if o = 16 then x - x / y * y else if o = 17 then x <<< ((y &&& 31) &&& 31) else if o = 18 then (x.toUInt32 >>> ((y &&& 31).toUInt32 &&& Int32.toUInt32 31)).toInt32 else if o = 19 then x &&& y else if o = 20 then x ^^^ y else x ||| y)
theorem k_join {N : Nat} {s : zS} (o : Nat) (h1 : 12 ≤ o) (h2 : o ≤ 21) (x y : Int32) : (zjn o x y = none ∧ fX4_join N (nI o) x y s = some (1099511627776, s) ∧ y = 0 ∧ (o = 15 ∨ o = 16)) ∨ ∃ v, zjn o x y = some v ∧ fX4_join N (nI o) x y s = some (v.toInt64, s) ∧ fX10_worked N (nI o) x y s = some (v, s) ∧ ¬ (y = 0 ∧ (o = 15 ∨ o = 16)) := by
  have ho : o = 12 ∨ o = 13 ∨ o = 14 ∨ o = 15 ∨ o = 16 ∨ o = 17 ∨ o = 18 ∨ o = 19 ∨ o = 20 ∨ o = 21 := by omega
  rcases ho with rfl | rfl | rfl | rfl | rfl | rfl | rfl | rfl | rfl | rfl
  · refine Or.inr ⟨_, if_neg (fun h => absurd h.1 (by decide)), ?_, ?_, by omega⟩
    · unfold fX4_join
      rw [if_pos (by decide)]
      rfl
    · unfold fX10_worked
      rw [if_pos (by decide)]
      rfl
  · refine Or.inr ⟨_, if_neg (fun h => absurd h.1 (by decide)), ?_, ?_, by omega⟩
    · unfold fX4_join
      rw [if_neg (by decide), if_pos (by decide)]
      rfl
    · unfold fX10_worked
      rw [if_neg (by decide), if_pos (by decide)]
      rfl
  · refine Or.inr ⟨_, if_neg (fun h => absurd h.1 (by decide)), ?_, ?_, by omega⟩
    · unfold fX4_join
      rw [if_neg (by decide), if_neg (by decide), if_pos (by decide)]
      rfl
    · unfold fX10_worked
      rw [if_neg (by decide), if_neg (by decide), if_pos (by decide)]
      rfl
  · by_cases c : y = 0
    · refine Or.inl ⟨?_, ?_, c, by decide⟩
      · unfold zjn; rw [if_pos ⟨by decide, c⟩]
      · unfold fX4_join
        rw [if_neg (by decide), if_neg (by decide), if_neg (by decide), if_pos (by decide), if_pos c]
    · refine Or.inr ⟨x / y, ?_, ?_, ?_, fun h => c h.1⟩
      · unfold zjn; rw [if_neg (fun h => c h.2)]; rfl
      · unfold fX4_join
        rw [if_neg (by decide), if_neg (by decide), if_neg (by decide), if_pos (by decide), if_neg c, if_pos c]
      · unfold fX10_worked
        rw [if_neg (by decide), if_neg (by decide), if_neg (by decide), if_pos (by decide)]
        by_cases c1 : y = (-1)
        · rw [if_pos c1, c1, zdivm]
        · rw [if_neg c1, if_pos c]
  · by_cases c : y = 0
    · refine Or.inl ⟨?_, ?_, c, by decide⟩
      · unfold zjn; rw [if_pos ⟨by decide, c⟩]
      · unfold fX4_join
        rw [if_neg (by decide), if_neg (by decide), if_neg (by decide), if_neg (by decide), if_pos (by decide), if_pos c]
    · refine Or.inr ⟨x - x / y * y, ?_, ?_, ?_, fun h => c h.1⟩
      · unfold zjn; rw [if_neg (fun h => c h.2)]; rfl
      · unfold fX4_join
        rw [if_neg (by decide), if_neg (by decide), if_neg (by decide), if_neg (by decide), if_pos (by decide), if_neg c, if_pos c]
      · unfold fX10_worked
        rw [if_neg (by decide), if_neg (by decide), if_neg (by decide), if_neg (by decide), if_pos (by decide)]
        by_cases c1 : y = (-1)
        · rw [if_pos c1, c1, zremm]
        · rw [if_neg c1, if_pos c]
  · refine Or.inr ⟨_, if_neg (fun h => absurd h.1 (by decide)), ?_, ?_, by omega⟩
    · unfold fX4_join
      rw [if_neg (by decide), if_neg (by decide), if_neg (by decide), if_neg (by decide), if_neg (by decide), if_pos (by decide)]
      rfl
    · unfold fX10_worked
      rw [if_neg (by decide), if_neg (by decide), if_neg (by decide), if_neg (by decide), if_neg (by decide), if_pos (by decide)]
      rfl
  · refine Or.inr ⟨_, if_neg (fun h => absurd h.1 (by decide)), ?_, ?_, by omega⟩
    · unfold fX4_join
      rw [if_neg (by decide), if_neg (by decide), if_neg (by decide), if_neg (by decide), if_neg (by decide), if_neg (by decide), if_pos (by decide)]
      rfl
    · unfold fX10_worked
      rw [if_neg (by decide), if_neg (by decide), if_neg (by decide), if_neg (by decide), if_neg (by decide), if_neg (by decide), if_pos (by decide)]
      rfl
  · refine Or.inr ⟨_, if_neg (fun h => absurd h.1 (by decide)), ?_, ?_, by omega⟩
    · unfold fX4_join
      rw [if_neg (by decide), if_neg (by decide), if_neg (by decide), if_neg (by decide), if_neg (by decide), if_neg (by decide), if_neg (by decide), if_pos (by decide)]
      rfl
    · unfold fX10_worked
      rw [if_neg (by decide), if_neg (by decide), if_neg (by decide), if_neg (by decide), if_neg (by decide), if_neg (by decide), if_neg (by decide), if_pos (by decide)]
      rfl
  · refine Or.inr ⟨_, if_neg (fun h => absurd h.1 (by decide)), ?_, ?_, by omega⟩
    · unfold fX4_join
      rw [if_neg (by decide), if_neg (by decide), if_neg (by decide), if_neg (by decide), if_neg (by decide), if_neg (by decide), if_neg (by decide), if_neg (by decide), if_pos (by decide)]
      rfl
    · unfold fX10_worked
      rw [if_neg (by decide), if_neg (by decide), if_neg (by decide), if_neg (by decide), if_neg (by decide), if_neg (by decide), if_neg (by decide), if_neg (by decide), if_pos (by decide)]
      rfl
  · refine Or.inr ⟨_, if_neg (fun h => absurd h.1 (by decide)), ?_, ?_, by omega⟩
    · unfold fX4_join
      rw [if_neg (by decide), if_neg (by decide), if_neg (by decide), if_neg (by decide), if_neg (by decide), if_neg (by decide), if_neg (by decide), if_neg (by decide), if_neg (by decide)]
      rfl
    · unfold fX10_worked
      rw [if_neg (by decide), if_neg (by decide), if_neg (by decide), if_neg (by decide), if_neg (by decide), if_neg (by decide), if_neg (by decide), if_neg (by decide), if_neg (by decide)]
      rfl
noncomputable abbrev zCC (N b : Nat) (p : Int32) (F C m h t : Nat) (s : zS) : Option ((Int64 × zS) ⊕ (Int32 × zS)) := fX4_workOut_L29 N b p m (nI F) (nI C) (nI h) (nI t) s
noncomputable abbrev zMM (N : Nat) (p : Int32) (F C m h t : Nat) (s : zS) : Option ((Int64 × zS) ⊕ (Int32 × zS)) := fX10_constant_L61 N p m (nI F) (nI C) (nI h) (nI t) s
def zKc (b n2 : Nat) (s : zS) : Prop := s.1 (100 * (b + 5) + 1) = nI 2 ∧ s.1 (100 * (b + 5) + 3) = nI n2
theorem kC_cells {N b n2 t : Nat} {s : zS} (hb : zBk b) (hK : zKc b n2 s) (h2 : n2 ≤ 2000) (ht : t < n2) : fX6_cell N (b + 5) (nI t) 0 3 s = some (s.2.1 (b + 6) (t * 2 + 0), s) ∧ fX6_cell N (b + 5) (nI t) 1 0 s = some (s.2.1 (b + 6) (t * 2 + 1), s) := by
  constructor
  · rw [show (0 : Int32) = nI 0 from rfl]
    exact q_cell_in 2 n2 t 0 4000 hK.1 hK.2 (zlen_b hb).2.2.1 ht (by omega) (by omega) (by decide) (by omega) (by decide)
  · rw [show (1 : Int32) = nI 1 from rfl]
    exact q_cell_in 2 n2 t 1 4000 hK.1 hK.2 (zlen_b hb).2.2.1 ht (by omega) (by omega) (by decide) (by omega) (by decide)
theorem kC_0 {N b n2 t F C h m : Nat} {p : Int32} {s : zS} (hb : zBk b) (hK : zKc b n2 s) (h2 : n2 ≤ 2000) (ht : t < F + C) (hF : F + C ≤ n2) (hh : h < 60) (e : s.2.1 (b + 6) (t * 2 + 0) = nI 0) : zCC N b p F C (m + 1) h t s = zCC N b p F C m (h + 1) (t + 1) (zsr s 29 (nI h) (s.2.1 (b + 6) (t * 2 + 1))) := by
  show fX4_workOut_L29S N b p (fX4_workOut_L29 N b p m) (nI F) (nI C) (nI h) (nI t) s = _
  unfold fX4_workOut_L29S
  rw [nI_add, if_neg (nI_ge ht (by omega)), (kC_cells hb hK h2 (show t < n2 by omega)).1, e]
  rw [zbn_s, if_pos (show nI 0 = 0 from rfl), if_neg (zlen_ge (by rfl) (show h < 60 from hh) (by decide)), (kC_cells hb hK h2 (show t < n2 by omega)).2, zbn_s, if_pos (zga_l (by rfl) (show h < 60 from hh) (by decide)), nI_1, nI_1]
theorem kC_x {N b n2 t F C h m o : Nat} {p : Int32} {s : zS} (hb : zBk b) (hK : zKc b n2 s) (h2 : n2 ≤ 2000) (ht : t < F + C) (hF : F + C ≤ n2) (e : s.2.1 (b + 6) (t * 2 + 0) = nI o) (ho : 0 < o) (ho2 : o < 2 ^ 31) : zCC N b p F C (m + 1) h t s = fX4_workOut_J90 N b p (fX4_workOut_L29 N b p m) (nI F) (nI C) (nI h) (nI t) (nI o) s := by
  show fX4_workOut_L29S N b p (fX4_workOut_L29 N b p m) (nI F) (nI C) (nI h) (nI t) s = _
  unfold fX4_workOut_L29S
  rw [nI_add, if_neg (nI_ge ht (by omega)), (kC_cells hb hK h2 (show t < n2 by omega)).1, e]
  rw [zbn_s, if_neg (nI_ne0 ho ho2)]
theorem kC_3 {N b n2 t F C h m o : Nat} {p : Int32} {s : zS} (hb : zBk b) (hK : zKc b n2 s) (h2 : n2 ≤ 2000) (ht : t < F + C) (hF : F + C ≤ n2) (e : s.2.1 (b + 6) (t * 2 + 0) = nI o) (h1 : 0 < o) (h3 : o ≤ 3) : zCC N b p F C (m + 1) h t s = some (.inl (1099511627776, s)) := by
  rw [kC_x hb hK h2 ht hF e h1 (by omega)]
  match o, h1, h3 with
  | 1, _, _ => rfl
  | 2, _, _ => rfl
  | 3, _, _ => rfl
theorem kC_1 {N b n2 t F C h m o : Nat} {p : Int32} {s : zS} (hb : zBk b) (hK : zKc b n2 s) (h2 : n2 ≤ 2000) (ht : t < F + C) (hF : F + C ≤ n2) (hh : h < 60) (e : s.2.1 (b + 6) (t * 2 + 0) = nI o) (ho : o = 10 ∨ o = 11) : zCC N b p F C (m + 1) (h + 1) t s = zCC N b p F C m (h + 1) (t + 1) (zsr s 29 (nI h) (if o = 11 then s.2.1 29 h ^^^ (-1) else -(s.2.1 29 h))) := by
  rw [kC_x hb hK h2 ht hF e (by omega) (by omega)]
  unfold fX4_workOut_J90
  have e1 : fX1_isAhead N (nI o) s = some (1, s) := by
    rcases ho with rfl | rfl <;> rfl
  rw [e1, zbn_s, if_neg (show ¬ (1 : Int32) = 0 by decide), if_neg (show ¬ nI (h + 1) < (1 : Int32) from nI_nlt (b := 1) (by omega) (by omega)), nI_pred, nI_1, nI_clamp (by omega)]
  have zg : zga (nI h) (zlen 29) = true := zga_l (by rfl) (show h < 60 from hh) (by decide)
  simp only [zg, ↓reduceIte]
  rcases ho with rfl | rfl
  · rw [if_neg (show ¬ nI 10 = 11 by decide), if_neg (show ¬ 10 = 11 by decide)]
  · rw [if_pos (show nI 11 = 11 by decide), if_pos (show 11 = 11 by decide)]
theorem kC_2 {N b n2 t F C h m o : Nat} {p : Int32} {s : zS} (hb : zBk b) (hK : zKc b n2 s) (h2 : n2 ≤ 2000) (ht : t < F + C) (hF : F + C ≤ n2) (hh : h + 1 < 60) (e : s.2.1 (b + 6) (t * 2 + 0) = nI o) (h12 : 12 ≤ o) (h21 : o ≤ 21) : zCC N b p F C (m + 1) (h + 2) t s = match zjn o (s.2.1 29 h) (s.2.1 29 (h + 1)) with | none => some (.inl (1099511627776, s)) | some v => zCC N b p F C m (h + 1) (t + 1) (zsr s 29 (nI h) v) := by
  rw [kC_x hb hK h2 ht hF e (by omega) (by omega)]
  unfold fX4_workOut_J90
  have e1 : fX1_isAhead N (nI o) s = some (0, s) := by
    unfold fX1_isAhead
    rw [if_neg (fun z => by have := (nI_eq (b := 10) (by omega) (by decide)).mp z; omega), if_neg (fun z => by have := (nI_eq (b := 11) (by omega) (by decide)).mp z; omega)]
  have e2 : fX1_isTwoSided N (nI o) s = some (1, s) := by
    unfold fX1_isTwoSided
    rw [if_neg (show ¬ nI o < (12 : Int32) from nI_nlt (b := 12) h12 (by omega)), if_neg (show ¬ (21 : Int32) < nI o from nI_nlt (a := 21) h21 (by decide))]
  rw [e1, zbn_s, if_pos (show (0 : Int32) = 0 from rfl)]
  unfold fX4_workOut_J147
  rw [e2, zbn_s, if_neg (show ¬ (1 : Int32) = 0 by decide)]
  rw [if_neg (show ¬ nI (h + 2) < (2 : Int32) from nI_nlt (b := 2) (by omega) (by omega)), show nI (h + 2) - (2 : Int32) = nI h from pk_sub (b := 2) (by omega), show nI (h + 2) - (1 : Int32) = nI (h + 1) from pk_sub (b := 1) (by omega), if_pos (zga_l (by rfl) (show h < 60 by omega) (by decide)), if_pos (zga_l (by rfl) (show h + 1 < 60 from hh) (by decide)), nI_clamp (show h < 2 ^ 31 by omega), nI_clamp (show h + 1 < 2 ^ 31 by omega)]
  rcases k_join (N := N) (s := s) o h12 h21 (s.2.1 29 h) (s.2.1 29 (h + 1)) with ⟨q1, q2, -⟩ | ⟨v, q1, q2, -⟩
  · rw [q1, q2, zbn_s, if_pos (zlg.mpr rfl)]
  · rw [q1, q2, zbn_s, if_neg (fun z => zT_no v (zlg.mp z)), show nI (h + 2) + (-1) = nI (h + 1) from pk_m1 (h + 1), nI_pred, if_pos (zga_l (by rfl) (show h < 60 by omega) (by decide)), nI_1, Int32.toInt32_toInt64]
def zItM (s : zS) (t j : Nat) : Int32 := s.2.1 39 (4000 * 1 + 2 * t + j)
theorem kM_x {N n2 t F C h m o : Nat} {p : Int32} {s : zS} (h2 : n2 ≤ 2000) (ht : t < F + C) (hF : F + C ≤ n2) (e : zItM s t 0 = nI o) (ho : o ≤ 21) : zMM N p F C (m + 1) h t s = if 0 < o ∧ o ≤ 3 then some (.inl (1099511627776, s)) else fX10_constant_J114 N p (fX10_constant_L61 N p m) (nI F) (nI C) (nI h) (nI t) (nI o) (zItM s t 1) s := by
  show fX10_constant_L61S N p (fX10_constant_L61 N p m) (nI F) (nI C) (nI h) (nI t) s = _
  unfold fX10_constant_L61S
  have e1 : 4000 + 2 * nI t = nI (4000 * 1 + 2 * t + 0) := by
    show nI 4000 + nI 2 * nI t = _
    rw [pk_mul, nI_add]
    exact congrArg nI (by omega)
  have e2 : 4001 + 2 * nI t = nI (4000 * 1 + 2 * t + 1) := by
    show nI 4001 + nI 2 * nI t = _
    rw [pk_mul, nI_add]
    exact congrArg nI (by omega)
  unfold zItM at e
  unfold zItM
  rw [nI_add, if_neg (nI_ge ht (by omega)), e1, e2, if_pos (zga_l (by rfl) (show 4000 * 1 + 2 * t + 0 < 8000 by omega) (by decide)), if_pos (zga_l (by rfl) (show 4000 * 1 + 2 * t + 1 < 8000 by omega) (by decide)), nI_clamp (show 4000 * 1 + 2 * t + 0 < 2 ^ 31 by omega), nI_clamp (show 4000 * 1 + 2 * t + 1 < 2 ^ 31 by omega), e]
  by_cases c : o = 0
  · subst c
    rw [if_pos (show nI 0 ≤ 0 by decide), if_neg (show ¬ (0 < 0 ∧ 0 ≤ 3) by decide)]
  · rw [if_neg (nI_nle (by omega) (by omega))]
    by_cases c2 : o ≤ 3
    · rw [if_neg (show ¬ (4 : Int32) ≤ nI o from nI_ge (b := 4) (by omega) (by decide)), if_pos ⟨by omega, c2⟩]
    · rw [if_pos (show (4 : Int32) ≤ nI o from nI_le (a := 4) (by omega) (by omega)), if_neg (fun z => c2 z.2)]
theorem kM_0 {N n2 t F C h m : Nat} {p : Int32} {s : zS} (h2 : n2 ≤ 2000) (ht : t < F + C) (hF : F + C ≤ n2) (hh : h < 60) (e : zItM s t 0 = nI 0) : zMM N p F C (m + 1) h t s = zMM N p F C m (h + 1) (t + 1) (zsr s 47 (nI h) (zItM s t 1)) := by
  rw [kM_x h2 ht hF e (by omega), if_neg (show ¬ (0 < 0 ∧ 0 ≤ 3) by decide)]
  unfold fX10_constant_J114
  rw [if_pos (show nI 0 = 0 by decide), if_pos (zga_l (by rfl) (show h < 2001 by omega) (by decide)), nI_1, nI_1]
theorem kM_1 {N n2 t F C h m o : Nat} {p : Int32} {s : zS} (h2 : n2 ≤ 2000) (ht : t < F + C) (hF : F + C ≤ n2) (hh : h < 60) (e : zItM s t 0 = nI o) (ho : o = 10 ∨ o = 11) : zMM N p F C (m + 1) (h + 1) t s = zMM N p F C m (h + 1) (t + 1) (zsr s 47 (nI h) (if o = 11 then s.2.1 47 h ^^^ (-1) else -(s.2.1 47 h))) := by
  rw [kM_x h2 ht hF e (by omega), if_neg (by omega)]
  unfold fX10_constant_J114
  rw [if_neg (nI_ne0 (by omega) (by omega)), if_neg (show ¬ (12 : Int32) ≤ nI o from nI_ge (b := 12) (by omega) (by decide)), nI_pred, nI_1, nI_clamp (show h < 2 ^ 31 by omega)]
  have zg : zga (nI h) (zlen 47) = true := zga_l (by rfl) (show h < 2001 by omega) (by decide)
  simp only [zg, ↓reduceIte]
  rcases ho with rfl | rfl
  · rw [if_pos (show nI 10 = 10 by decide), if_neg (show ¬ 10 = 11 by decide)]
  · rw [if_neg (show ¬ nI 11 = 10 by decide), if_pos (show 11 = 11 by decide)]
theorem kM_2 {N n2 t F C h m o : Nat} {p : Int32} {s : zS} (h2 : n2 ≤ 2000) (ht : t < F + C) (hF : F + C ≤ n2) (hh : h + 1 < 60) (e : zItM s t 0 = nI o) (h12 : 12 ≤ o) (h21 : o ≤ 21) : zMM N p F C (m + 1) (h + 2) t s = match zjn o (s.2.1 47 h) (s.2.1 47 (h + 1)) with | none => some (.inl (1099511627776, s)) | some v => zMM N p F C m (h + 1) (t + 1) (zsr s 47 (nI h) v) := by
  rw [kM_x h2 ht hF e (by omega), if_neg (by omega)]
  unfold fX10_constant_J114
  have em : nI (h + 2) + (-1) = nI (h + 1) := pk_m1 (h + 1)
  rw [if_neg (nI_ne0 (by omega) (by omega)), if_pos (show (12 : Int32) ≤ nI o from nI_le (a := 12) h12 (by omega)), em, if_pos (zga_l (by rfl) (show h + 1 < 2001 by omega) (by decide)), nI_clamp (show h + 1 < 2 ^ 31 by omega)]
  have hJ : ∀ v, fX10_worked N (nI o) (s.2.1 47 h) (s.2.1 47 (h + 1)) s = some (v, s) → fX10_constant_J215 N p (fX10_constant_L61 N p m) (nI F) (nI C) (nI (h + 1)) (nI t) (nI o) s = zMM N p F C m (h + 1) (t + 1) (zsr s 47 (nI h) v) := by
    intro v hv
    unfold fX10_constant_J215
    rw [nI_pred, if_pos (zga_l (by rfl) (show h < 2001 by omega) (by decide)), if_pos (zga_l (by rfl) (show h + 1 < 2001 by omega) (by decide)), nI_clamp (show h < 2 ^ 31 by omega), nI_clamp (show h + 1 < 2 ^ 31 by omega), hv, zbn_s, nI_1, if_pos (zga_l (by rfl) (show h < 2001 by omega) (by decide))]
  rcases k_join (N := N) (s := s) o h12 h21 (s.2.1 47 h) (s.2.1 47 (h + 1)) with ⟨q1, -, q3, q4⟩ | ⟨v, q1, -, q3, q4⟩
  · rw [q1, if_pos q3]
    rcases q4 with rfl | rfl
    · rw [if_pos (show nI 15 = 15 by decide)]
    · rw [if_neg (show ¬ nI 16 = 15 by decide), if_pos (show nI 16 = 16 by decide)]
  · rw [q1, hJ v q3]
    by_cases c : s.2.1 47 (h + 1) = 0
    · have c15 : ¬ nI o = 15 := fun z => q4 ⟨c, Or.inl ((nI_eq (b := 15) (by omega) (by decide)).mp z)⟩
      have c16 : ¬ nI o = 16 := fun z => q4 ⟨c, Or.inr ((nI_eq (b := 16) (by omega) (by decide)).mp z)⟩
      rw [if_pos c, if_neg c15, if_neg c16]
    · rw [if_neg c]
theorem k_tree {N b n2 F C : Nat} {p : Int32} (hb : zBk b) (h2 : n2 ≤ 2000) (hF : F + C ≤ n2) (hC : C ≤ 60) (f : Nat → Int32) (g : Nat → Int32) : ∀ (n a z : Nat), zEx f n a z → F ≤ a → z ≤ F + C → ∀ (h : Nat) (sc sm : zS), h ≤ a - F → zKc b n2 sc → (∀ t, t < n2 → sc.2.1 (b + 6) (t * 2 + 0) = f t ∧ sc.2.1 (b + 6) (t * 2 + 1) = g t) → (∀ t, t < n2 → zItM sm t 0 = f t ∧ zItM sm t 1 = g t) → (∀ k, k < h → sc.2.1 29 k = sm.2.1 47 k) →
    ∃ sc' sm', zeq [] [29] sc sc' ∧ zeq [] [47] sm sm' ∧ (((∀ k, k < h + 1 → sc'.2.1 29 k = sm'.2.1 47 k) ∧ (∀ m, zCC N b p F C (m + (z - a)) h a sc = zCC N b p F C m (h + 1) z sc') ∧ ∀ m, zMM N p F C (m + (z - a)) h a sm = zMM N p F C m (h + 1) z sm') ∨ ((∀ m, zCC N b p F C (m + (z - a)) h a sc = some (.inl (1099511627776, sc'))) ∧ ∀ m, zMM N p F C (m + (z - a)) h a sm = some (.inl (1099511627776, sm')))) := by
  have b6 : ¬ b + 6 = 29 := by rcases hb with rfl | rfl <;> decide
  have keepC : ∀ sc sc', zeq [] [29] sc sc' → zKc b n2 sc → zKc b n2 sc' := fun sc sc' q h => ⟨(q.1 _ List.not_mem_nil).trans h.1, (q.1 _ List.not_mem_nil).trans h.2⟩
  have keepT : ∀ sc sc', zeq [] [29] sc sc' → sc'.2.1 (b + 6) = sc.2.1 (b + 6) := fun sc sc' q => q.2.1 _ (by simp [b6])
  have keepM : ∀ (sm sm' : zS), zeq [] [47] sm sm' → ∀ t j, zItM sm' t j = zItM sm t j := fun sm sm' q t j => by
    unfold zItM
    rw [q.2.1 39 (by decide)]
  intro n
  induction n with
  | zero => intro a z h; exact h.elim
  | succ n ih =>
    intro a z hE ha hz h sc sm hh hK hc hm hst
    rcases hE with ⟨rfl, o, ho, he⟩ | ⟨y, rfl, ⟨o, ho, he⟩, hE⟩ | ⟨y, q, o, rfl, h12, h21, he, hE1, hE2⟩
    · have e1 := (hc a (by omega)).1.trans he
      have e2 := (hm a (by omega)).1.trans he
      rw [Nat.add_sub_cancel_left]
      by_cases c : o = 0
      · subst c
        refine ⟨_, _, zeq_r (List.mem_singleton.mpr rfl), zeq_r (List.mem_singleton.mpr rfl), Or.inl ⟨?_, fun m => kC_0 hb hK h2 (by omega) hF (by omega) e1, fun m => kM_0 h2 (by omega) hF (by omega) e2⟩⟩
        intro k hk
        rw [zsr_same, zsr_same, nI_clamp (by omega), (hc a (by omega)).2, (hm a (by omega)).2]
        by_cases e : k = h
        · subst e; rw [pk_us, pk_us]
        · rw [pk_un e, pk_un e]; exact hst k (by omega)
      · exact ⟨sc, sm, zeq_refl _ _ _, zeq_refl _ _ _, Or.inr ⟨fun m => kC_3 hb hK h2 (by omega) hF e1 (by omega) ho, fun m => by rw [kM_x h2 (by omega) hF e2 (by omega), if_pos ⟨by omega, ho⟩]⟩⟩
    · have hlt := zEx_lt n a y hE
      obtain ⟨sc1, sm1, q1, q2, q3⟩ := ih a y hE ha (by omega) h sc sm hh hK hc hm hst
      have ey : ∀ m, m + (y + 1 - a) = (m + 1) + (y - a) := fun m => by omega
      rcases q3 with ⟨g1, g2, g3⟩ | ⟨g2, g3⟩
      · have e1 : sc1.2.1 (b + 6) (y * 2 + 0) = nI o := by rw [keepT _ _ q1]; exact (hc y (by omega)).1.trans he
        have e2 : zItM sm1 y 0 = nI o := (keepM _ _ q2 y 0).trans ((hm y (by omega)).1.trans he)
        refine ⟨_, _, zeq_trans q1 (zeq_r (List.mem_singleton.mpr rfl)), zeq_trans q2 (zeq_r (List.mem_singleton.mpr rfl)), Or.inl ⟨?_, fun m => by rw [ey, g2]; exact kC_1 hb (keepC _ _ q1 hK) h2 (by omega) hF (by omega) e1 ho, fun m => by rw [ey, g3]; exact kM_1 h2 (by omega) hF (by omega) e2 ho⟩⟩
        intro k hk
        rw [zsr_same, zsr_same, nI_clamp (by omega), g1 h (by omega)]
        by_cases e : k = h
        · subst e; rw [pk_us, pk_us]
        · rw [pk_un e, pk_un e]; exact g1 k hk
      · exact ⟨sc1, sm1, q1, q2, Or.inr ⟨fun m => by rw [ey]; exact g2 _, fun m => by rw [ey]; exact g3 _⟩⟩
    · have hl1 := zEx_lt n a q hE1
      have hl2 := zEx_lt n q y hE2
      obtain ⟨sc1, sm1, q1, q2, q3⟩ := ih a q hE1 ha (by omega) h sc sm hh hK hc hm hst
      have ey : ∀ m, m + (y + 1 - a) = (m + 1 + (y - q)) + (q - a) := fun m => by omega
      rcases q3 with ⟨g1, g2, g3⟩ | ⟨g2, g3⟩
      · obtain ⟨sc2, sm2, r1, r2, r3⟩ := ih q y hE2 (by omega) (by omega) (h + 1) sc1 sm1 (by omega) (keepC _ _ q1 hK) (fun t ht => by rw [keepT _ _ q1]; exact hc t ht) (fun t ht => by rw [keepM _ _ q2, keepM _ _ q2]; exact hm t ht) g1
        have z1 := zeq_trans q1 r1
        have z2 := zeq_trans q2 r2
        rcases r3 with ⟨f1, f2, f3⟩ | ⟨f2, f3⟩
        · have e1 : sc2.2.1 (b + 6) (y * 2 + 0) = nI o := by rw [keepT _ _ z1]; exact (hc y (by omega)).1.trans he
          have e2 : zItM sm2 y 0 = nI o := (keepM _ _ z2 y 0).trans ((hm y (by omega)).1.trans he)
          have a1 := f1 h (by omega)
          have a2 := f1 (h + 1) (by omega)
          have cC : ∀ m, zCC N b p F C (m + (y + 1 - a)) h a sc = (match zjn o (sc2.2.1 29 h) (sc2.2.1 29 (h + 1)) with | none => some (.inl (1099511627776, sc2)) | some v => zCC N b p F C m (h + 1) (y + 1) (zsr sc2 29 (nI h) v)) := fun m => by rw [ey, g2, f2]; exact kC_2 hb (keepC _ _ z1 hK) h2 (by omega) hF (by omega) e1 h12 h21
          have cM : ∀ m, zMM N p F C (m + (y + 1 - a)) h a sm = (match zjn o (sm2.2.1 47 h) (sm2.2.1 47 (h + 1)) with | none => some (.inl (1099511627776, sm2)) | some v => zMM N p F C m (h + 1) (y + 1) (zsr sm2 47 (nI h) v)) := fun m => by rw [ey, g3, f3]; exact kM_2 h2 (by omega) hF (by omega) e2 h12 h21
          rw [← a1, ← a2] at cM
          cases hj : zjn o (sc2.2.1 29 h) (sc2.2.1 29 (h + 1)) with
          | none =>
            rw [hj] at cC cM
            exact ⟨sc2, sm2, z1, z2, Or.inr ⟨cC, cM⟩⟩
          | some v =>
            rw [hj] at cC cM
            refine ⟨_, _, zeq_trans z1 (zeq_r (List.mem_singleton.mpr rfl)), zeq_trans z2 (zeq_r (List.mem_singleton.mpr rfl)), Or.inl ⟨?_, cC, cM⟩⟩
            intro k hk
            rw [zsr_same, zsr_same, nI_clamp (by omega)]
            by_cases e : k = h
            · subst e; rw [pk_us, pk_us]
            · rw [pk_un e, pk_un e]; exact f1 k (by omega)
        · exact ⟨sc2, sm2, z1, z2, Or.inr ⟨fun m => by rw [ey, g2]; exact f2 _, fun m => by rw [ey, g3]; exact f3 _⟩⟩
      · exact ⟨sc1, sm1, q1, q2, Or.inr ⟨fun m => by rw [ey]; exact g2 _, fun m => by rw [ey]; exact g3 _⟩⟩
