theorem zb1_0 {b : Bool} : zb1 b = 0 ↔ b = false := by cases b <;> decide
theorem zB_in {T : Nat → Nat} {n k : Nat} (h : k < n) : zB T n k = T k := if_pos h
theorem zrun_all (p : Nat → Bool) (T : Nat → Nat) : ∀ m k i, k ≤ i → i < zrun p T m k → p (T i) = true
  | 0, k, i, h1, h2 => absurd h2 (by unfold zrun; omega)
  | m + 1, k, i, h1, h2 => by
    unfold zrun at h2
    split at h2
    · by_cases e : i = k
      · subst e; assumption
      · exact zrun_all p T m (k + 1) i (by omega) h2
    · omega
theorem nI_inj32 {a b : Nat} (ha : a < 2 ^ 32) (hb : b < 2 ^ 32) : nI a = nI b ↔ a = b := ⟨fun e => by
  have h := congrArg (fun x : Int32 => x.toBitVec.toNat) e
  have h2 : (nI a).toBitVec.toNat = (nI b).toBitVec.toNat := h
  rwa [pk_tn ha, pk_tn hb] at h2, fun e => by rw [e]⟩
def zmem (T : Nat → Nat) (k L : Nat) : Option Nat := if L = 1 then (if zdg (T k) then some (T k - 48) else none) else if L = 2 then (if zdg (T k) ∧ ¬ T k = 48 ∧ zdg (T (k + 1)) then some ((T k - 48) * 10 + (T (k + 1) - 48)) else none) else none
def zfam (c : Nat) (m : Option Nat) : Int32 := match m with
  | none => (-1)
  | some m => if c = 97 then (if 7 < m then (-1) else nI (m + 10)) else if c = 115 then (if 1 < m then (if 11 < m then (-1) else nI (m + 16)) else nI (m + 8)) else if c = 116 then (if 2 < m then (if 6 < m then (-1) else nI (m + 25)) else nI (m + 5)) else if c = 120 then (if 31 < m then (-1) else nI m) else (-1)
def zreg (T : Nat → Nat) (k L : Nat) : Int32 := if L < 2 ∨ 4 < L then (-1) else if L = 2 ∧ T k = 102 ∧ T (k + 1) = 112 then 8 else if L = 2 ∧ T k = 103 ∧ T (k + 1) = 112 then 3 else if L = 2 ∧ T k = 114 ∧ T (k + 1) = 97 then 1 else if L = 2 ∧ T k = 115 ∧ T (k + 1) = 112 then 2 else if L = 2 ∧ T k = 116 ∧ T (k + 1) = 112 then 4 else if L = 4 ∧ T k = 122 ∧ T (k + 1) = 101 ∧ T (k + 2) = 114 ∧ T (k + 3) = 111 then 0 else zfam (T k) (zmem T (k + 1) (L - 1))
theorem zmem_lt {T : Nat → Nat} {k L m : Nat} (h : zmem T k L = some m) : m < 100 := by
  unfold zmem zdg at h
  split at h
  · split at h
    · have := Option.some.inj h
      rename_i h2
      simp at h2
      omega
    · cases h
  · split at h
    · split at h
      · have := Option.some.inj h
        rename_i h2
        simp at h2
        omega
      · cases h
    · cases h
theorem q_pack {p b : Nat} (hp : p < 2 ^ 24) (hb : b < 256) : (nI p <<< ((8 : Int32) &&& 31)) ||| nI b = nI (p * 256 + b) := by
  apply Int32.toBitVec_inj.mp
  apply BitVec.eq_of_toNat_eq
  rw [Int32.toBitVec_or, BitVec.toNat_or, pk_shl _ _ 8 (by decide), pk_tn (by omega), pk_tn (by omega), pk_tn (by omega), Nat.mod_eq_of_lt (by omega)]
  have h := Nat.two_pow_add_eq_or_of_lt (i := 8) hb p
  rw [show p * 2 ^ 8 = 2 ^ 8 * p from Nat.mul_comm _ _, ← h, Nat.mul_comm]
def zpk (T : Nat → Nat) (k : Nat) : Nat → Nat
  | 0 => 0
  | j + 1 => zpk T k j * 256 + T (k + j)
theorem l5_pack {N n k L : Nat} {T : Nat → Nat} {s : zS} (h : zTx 5 403 T n s) (hk : k + L ≤ n) (hL : L ≤ 4) : ∀ d j M, j + d = L → d < M → zpk T k j < 256 ^ j → fX5_numberOf_L29 N 5 (nI k) (nI L) M (nI (zpk T k j)) (nI (k + j)) s = some (.inr (nI (zpk T k L), s)) := by
  intro d
  have hn := h.2.1
  induction d with
  | zero =>
    intro j M hj hM _
    obtain ⟨M, rfl⟩ : ∃ m, M = m + 1 := ⟨M - 1, by omega⟩
    have e : j = L := by omega
    subst e
    show fX5_numberOf_L29S N 5 (nI k) (nI j) _ _ _ s = _
    unfold fX5_numberOf_L29S
    rw [nI_add, if_pos (nI_le (Nat.le_refl _) (by omega))]
  | succ d ih =>
    intro j M hj hM hp
    obtain ⟨M, rfl⟩ : ∃ m, M = m + 1 := ⟨M - 1, by omega⟩
    have hb := h.2.2 (k + j) (by omega)
    have hp2 : zpk T k j < 2 ^ 24 := by
      have h3 : j ≤ 3 := by omega
      have := Nat.pow_le_pow_right (n := 256) (by decide) h3
      omega
    show fX5_numberOf_L29S N 5 (nI k) (nI L) (fX5_numberOf_L29 N 5 (nI k) (nI L) M) _ _ s = _
    unfold fX5_numberOf_L29S
    rw [nI_add, if_neg (nI_ge (by omega) (by omega)), if_pos (zga_l (by rfl) (show k + j < 3000 by omega) (by decide)), nI_clamp (by omega), hb.2, q_pack hp2 hb.1, nI_1]
    have h9 := ih (j + 1) M (by omega) (by omega) (by
      show zpk T k j * 256 + T (k + j) < 256 ^ (j + 1)
      rw [Nat.pow_succ]
      omega)
    exact h9
theorem l5_fam {N c : Nat} {m : Option Nat} {s : zS} (hc : c < 256) (hm : ∀ v, m = some v → v < 100) : fX5_ofFamily N (nI c) (cI m) s = some (zfam c m, s) := by
  cases m with
  | none => rfl
  | some m =>
    have h := hm m rfl
    have hneg : ∀ m, m < 100 → ¬ nI m = (-1) := by decide +kernel
    have ec : ∀ x, x < 256 → (nI c = nI x ↔ c = x) := fun x hx => nI_eq (by omega) (by omega)
    have lt : ∀ x, x < 256 → (nI x < nI m ↔ x < m) := fun x hx => nI_ltI (by omega) (by omega)
    unfold fX5_ofFamily zfam
    show (if nI m = (-1) then _ else if nI c = nI 97 then if nI 7 < nI m then _ else some (nI m + nI 10, s) else if nI c = nI 115 then if nI 1 < nI m then if nI 11 < nI m then _ else some (nI m + nI 16, s) else some (nI m + nI 8, s) else if nI c = nI 116 then if nI 2 < nI m then if nI 6 < nI m then _ else some (nI m + nI 25, s) else some (nI m + nI 5, s) else if nI c = nI 120 then if nI 31 < nI m then _ else _ else _) = _
    simp only [if_neg (hneg m h), ec 97 (by omega), ec 115 (by omega), ec 116 (by omega), ec 120 (by omega), lt 7 (by omega), lt 1 (by omega), lt 11 (by omega), lt 2 (by omega), lt 6 (by omega), lt 31 (by omega), nI_add]
    repeat' (first | refine q_ite (fun _ => ?_) (fun _ => ?_) | rfl)
theorem l5_mem {N n k L : Nat} {T : Nat → Nat} {s : zS} (h : zTx 5 403 T n s) (hN : 10 ≤ N) (hL : 1 ≤ L) (hk : k + L ≤ n) : fX5_memberAt N 5 (nI k) (nI L) s = some (cI (zmem T k L), s) := by
  obtain ⟨M, rfl⟩ : ∃ M, N = M + 10 := ⟨N - 10, by omega⟩
  have hn := h.2.1
  unfold fX5_memberAt
  rw [if_neg (show ¬ nI L < (1 : Int32) from show ¬ nI L < nI 1 from nI_nlt hL (by omega))]
  by_cases c2 : 2 < L
  · rw [if_pos (show (2 : Int32) < nI L from show nI 2 < nI L from nI_lt c2 (by omega))]
    unfold zmem
    rw [if_neg (by omega), if_neg (by omega)]
    rfl
  rw [if_neg (show ¬ (2 : Int32) < nI L from show ¬ nI 2 < nI L from nI_nlt (by omega) (by decide)), if_neg (nI_pos (by omega)), nI_add, if_pos (show nI (k + L) ≤ nI (zlen 5) from show nI (k + L) ≤ nI 3000 from nI_le (by omega) (by decide))]
  have h0 := h.2.2 k (by omega)
  have dig : ∀ b, b < 256 → fX8_isDigit (M + 10) (nI b) s = some (zb1 (zdg b), s) := fun b hb => by
    have h9 := b8_dig b (by omega)
    unfold bI at h9
    rw [if_pos hb] at h9
    rw [eX8_isDigit, h9]
  have bd : ∀ b, zdg b = true → 48 ≤ b ∧ b ≤ 57 := fun b h => by unfold zdg at h; exact of_decide_eq_true h
  have stp : ∀ (rec : Int32 → Int32 → zS → Option ((Int32 × zS) ⊕ (Int32 × zS))) (v : Int32) (i : Nat), i < k + L → fX5_memberAt_L29S (M + 10) 5 (nI k) (nI L) rec v (nI i) s = if zdg (T i) = true ∧ ¬ (1 < L ∧ T k = 48) then rec (v * 10 + nI (T i) - 48) (nI (i + 1)) s else some (.inl ((-1), s)) := by
    intro rec v i hi
    have hb := h.2.2 i (by omega)
    unfold fX5_memberAt_L29S
    rw [nI_add, nI_clamp (show i < 2 ^ 31 by omega), nI_clamp (show k < 2 ^ 31 by omega), hb.2, dig _ hb.1, nI_1, if_pos (zga_l (by rfl) (show i < 3000 by omega) (by decide)), if_neg (nI_ge (by omega) (by omega))]
    show (if zb1 (zdg (T i)) = 0 then some (.inl ((-1 : Int32), s)) else if nI L ≤ nI 1 then if zga (nI i) (zlen 5) = true then rec (v * 10 + s.2.1 5 i - 48) (nI (i + 1)) s else none else if zga (nI k) (zlen 5) = true then if s.2.1 5 k = 48 then some (.inl ((-1 : Int32), s)) else if zga (nI i) (zlen 5) = true then rec (v * 10 + s.2.1 5 i - 48) (nI (i + 1)) s else none else none) = _
    rw [hb.2, h0.2, if_pos (zga_l (by rfl) (show i < 3000 by omega) (by decide)), if_pos (zga_l (by rfl) (show k < 3000 by omega) (by decide))]
    by_cases cd : zdg (T i) = true
    · rw [if_neg (fun e => by rw [zb1_0.mp e] at cd; cases cd)]
      by_cases c1 : L ≤ 1
      · rw [if_pos (nI_le c1 (by omega)), if_pos ⟨cd, by omega⟩]
      · rw [if_neg (nI_ge (by omega) (by omega))]
        by_cases c48 : T k = 48
        · rw [if_pos (show nI (T k) = (48 : Int32) from show nI (T k) = nI 48 by rw [c48]), if_neg (fun z => z.2 ⟨by omega, c48⟩)]
        · rw [if_neg (show ¬ nI (T k) = (48 : Int32) from fun e => c48 ((nI_eq (b := 48) (by omega) (by decide)).mp e)), if_pos ⟨cd, fun z => c48 z.2⟩]
    · rw [if_pos (zb1_0.mpr (by simpa using cd)), if_neg (fun z => cd z.1)]
  have stx : ∀ (rec : Int32 → Int32 → zS → Option ((Int32 × zS) ⊕ (Int32 × zS))) (v : Int32), fX5_memberAt_L29S (M + 10) 5 (nI k) (nI L) rec v (nI (k + L)) s = some (.inr (v, s)) := by
    intro rec v
    unfold fX5_memberAt_L29S
    rw [nI_add, if_pos (nI_le (Nat.le_refl _) (by omega))]
  have hL2 : L = 1 ∨ L = 2 := by omega
  rcases hL2 with rfl | rfl
  · show zbl (fX5_memberAt_L29S (M + 10) 5 (nI k) (nI 1) (fX5_memberAt_L29 (M + 10) 5 (nI k) (nI 1) (M + 9)) 0 (nI k) s) _ _ = _
    rw [stp _ _ k (by omega)]
    unfold zmem
    rw [if_pos (show 1 = 1 from rfl)]
    by_cases cd : zdg (T k) = true
    · rw [if_pos ⟨cd, by omega⟩, if_pos cd]
      show zbl (fX5_memberAt_L29S (M + 10) 5 (nI k) (nI 1) (fX5_memberAt_L29 (M + 10) 5 (nI k) (nI 1) (M + 8)) (nI 0 * nI 10 + nI (T k) - nI 48) (nI (k + 1)) s) _ _ = _
      rw [stx]
      have := bd _ cd
      show some (nI 0 * nI 10 + nI (T k) - nI 48, s) = some (nI (T k - 48), s)
      rw [pk_mul, nI_add, pk_sub (by omega), show 0 * 10 + T k - 48 = T k - 48 by omega]
    · rw [if_neg (fun z => cd z.1), if_neg cd]
      rfl
  · show zbl (fX5_memberAt_L29S (M + 10) 5 (nI k) (nI 2) (fX5_memberAt_L29 (M + 10) 5 (nI k) (nI 2) (M + 9)) 0 (nI k) s) _ _ = _
    rw [stp _ _ k (by omega)]
    unfold zmem
    rw [if_neg (show ¬ 2 = 1 by omega), if_pos (show 2 = 2 from rfl)]
    by_cases cd : zdg (T k) = true ∧ ¬ T k = 48
    · rw [if_pos ⟨cd.1, fun z => cd.2 z.2⟩]
      show zbl (fX5_memberAt_L29S (M + 10) 5 (nI k) (nI 2) (fX5_memberAt_L29 (M + 10) 5 (nI k) (nI 2) (M + 8)) (nI 0 * nI 10 + nI (T k) - nI 48) (nI (k + 1)) s) _ _ = _
      rw [stp _ _ (k + 1) (by omega)]
      have h1 := bd _ cd.1
      by_cases ce : zdg (T (k + 1)) = true
      · have h2 := bd _ ce
        rw [if_pos ⟨ce, fun z => cd.2 z.2⟩, if_pos ⟨cd.1, cd.2, ce⟩]
        show zbl (fX5_memberAt_L29S (M + 10) 5 (nI k) (nI 2) (fX5_memberAt_L29 (M + 10) 5 (nI k) (nI 2) (M + 7)) ((nI 0 * nI 10 + nI (T k) - nI 48) * nI 10 + nI (T (k + 1)) - nI 48) (nI (k + 2)) s) _ _ = _
        rw [stx]
        show some ((nI 0 * nI 10 + nI (T k) - nI 48) * nI 10 + nI (T (k + 1)) - nI 48, s) = some (nI ((T k - 48) * 10 + (T (k + 1) - 48)), s)
        rw [pk_mul, nI_add, pk_sub (by omega), pk_mul, nI_add, pk_sub (by omega), show (0 * 10 + T k - 48) * 10 + T (k + 1) - 48 = (T k - 48) * 10 + (T (k + 1) - 48) by omega]
      · rw [if_neg (fun z => ce z.1), if_neg (fun z => ce z.2.2)]
        rfl
    · rw [if_neg (fun z => cd ⟨z.1, fun q => z.2 ⟨by omega, q⟩⟩), if_neg (fun z => cd ⟨z.1, z.2.1⟩)]
      rfl
theorem q_w4 {a b c d : Nat} (ha : a < 256) (hb : b < 256) (hc : c < 256) (hd : d < 256) : ((a * 256 + b) * 256 + c) * 256 + d = 2053468783 ↔ 4 = 4 ∧ a = 122 ∧ b = 101 ∧ c = 114 ∧ d = 111 := by omega
theorem e8_reg {N n k L : Nat} {T : Nat → Nat} {s : zS} (h : zTx 5 403 T n s) (hN : 10 ≤ N) (hk : k + L ≤ n) (hpos : 0 < T k) : fX5_numberOf N 5 (nI k) (nI L) s = some (zreg T k L, s) := by
  have hn := h.2.1
  unfold fX5_numberOf zreg
  by_cases c1 : L < 2
  · rw [if_pos (show nI L < (2 : Int32) from show nI L < nI 2 from nI_lt c1 (by decide)), if_pos (Or.inl c1)]
  rw [if_neg (show ¬ nI L < (2 : Int32) from show ¬ nI L < nI 2 from nI_nlt (by omega) (by omega))]
  by_cases c2 : 4 < L
  · rw [if_pos (show (4 : Int32) < nI L from show nI 4 < nI L from nI_lt c2 (by omega)), if_pos (Or.inr c2)]
  have hp := l5_pack (N := N) h hk (by omega) L 0 N (by omega) (by omega) (by show 0 < 1; omega)
  rw [if_neg (show ¬ (4 : Int32) < nI L from show ¬ nI 4 < nI L from nI_nlt (by omega) (by decide)), if_neg (nI_pos (by omega)), nI_add, if_pos (show nI (k + L) ≤ nI (zlen 5) from show nI (k + L) ≤ nI 3000 from nI_le (by omega) (by decide)), if_neg (show ¬ (L < 2 ∨ 4 < L) by omega)]
  have hp' : fX5_numberOf_L29 N 5 (nI k) (nI L) N 0 (nI k) s = some (.inr (nI (zpk T k L), s)) := hp
  rw [hp']
  have hmem := l5_mem (N := N) (k := k + 1) (L := L - 1) h hN (by omega) (by omega)
  have hfam := l5_fam (N := N) (c := T k) (m := zmem T (k + 1) (L - 1)) (s := s) (h.2.2 k (by omega)).1 (fun v hv => zmem_lt hv)
  have hlast : (if zga (nI k) (zlen 5) = true then zbn (fX5_memberAt N 5 (nI k + 1) (nI L - 1) s) (fun x8 s9 => zbn (fX5_ofFamily N (s.2.1 5 (nI k).toNatClampNeg) x8 s9) (fun x11 s12 => some (x11, s12))) else none) = some (zfam (T k) (zmem T (k + 1) (L - 1)), s) := by
    rw [if_pos (zga_l (by rfl) (show k < 3000 by omega) (by decide)), nI_1, show (nI L - 1 : Int32) = nI (L - 1) from pk_sub (b := 1) (by omega), hmem, nI_clamp (by omega), (h.2.2 k (by omega)).2]
    rw [zbn_s, hfam]
    rfl
  have b0 := (h.2.2 k (by omega)).1
  have b1 := (h.2.2 (k + 1) (by omega)).1
  have hv : (L = 2 ∧ zpk T k L = T k * 256 + T (k + 1)) ∨ (L = 3 ∧ T (k + 2) < 256 ∧ zpk T k L = (T k * 256 + T (k + 1)) * 256 + T (k + 2)) ∨ (L = 4 ∧ T (k + 2) < 256 ∧ T (k + 3) < 256 ∧ zpk T k L = ((T k * 256 + T (k + 1)) * 256 + T (k + 2)) * 256 + T (k + 3)) := by
    have hL : L = 2 ∨ L = 3 ∨ L = 4 := by omega
    rcases hL with rfl | rfl | rfl
    · exact Or.inl ⟨rfl, by simp [zpk]⟩
    · exact Or.inr (Or.inl ⟨rfl, (h.2.2 (k + 2) (by omega)).1, by simp [zpk]⟩)
    · exact Or.inr (Or.inr ⟨rfl, (h.2.2 (k + 2) (by omega)).1, (h.2.2 (k + 3) (by omega)).1, by simp [zpk]⟩)
  have hcs : ∀ x, x < 2 ^ 31 → (nI (zpk T k L) = nI x ↔ zpk T k L = x) := fun x hx => nI_inj32 (by omega) (by omega)
  show (if nI (zpk T k L) = nI 26224 then some (8, s) else if nI (zpk T k L) = nI 26480 then some (3, s) else if nI (zpk T k L) = nI 29281 then some (1, s) else if nI (zpk T k L) = nI 29552 then some (2, s) else if nI (zpk T k L) = nI 29808 then some (4, s) else if nI (zpk T k L) = nI 2053468783 then some (0, s) else if zga (nI k) (zlen 5) = true then _ else none) = _
  rw [hlast]
  simp only [hcs 26224 (by omega), hcs 26480 (by omega), hcs 29281 (by omega), hcs 29552 (by omega), hcs 29808 (by omega), hcs 2053468783 (by omega)]
  have w : ∀ x y, x < 256 → 0 < x → y < 256 → (zpk T k L = x * 256 + y ↔ L = 2 ∧ T k = x ∧ T (k + 1) = y) := by
    intro x y h1 hx h2
    rcases hv with ⟨rfl, e⟩ | ⟨rfl, g, e⟩ | ⟨rfl, g, g', e⟩
    · rw [e]; clear e hcs hp hp' hmem hfam hlast; omega
    · rw [e]; exact ⟨fun z => by omega, fun z => absurd z.1 (by decide)⟩
    · rw [e]; exact ⟨fun z => by omega, fun z => absurd z.1 (by decide)⟩
  have w1 : zpk T k L = 26224 ↔ L = 2 ∧ T k = 102 ∧ T (k + 1) = 112 := w 102 112 (by omega) (by omega) (by omega)
  have w2 : zpk T k L = 26480 ↔ L = 2 ∧ T k = 103 ∧ T (k + 1) = 112 := w 103 112 (by omega) (by omega) (by omega)
  have w3 : zpk T k L = 29281 ↔ L = 2 ∧ T k = 114 ∧ T (k + 1) = 97 := w 114 97 (by omega) (by omega) (by omega)
  have w4 : zpk T k L = 29552 ↔ L = 2 ∧ T k = 115 ∧ T (k + 1) = 112 := w 115 112 (by omega) (by omega) (by omega)
  have w5 : zpk T k L = 29808 ↔ L = 2 ∧ T k = 116 ∧ T (k + 1) = 112 := w 116 112 (by omega) (by omega) (by omega)
  have w6 : zpk T k L = 2053468783 ↔ L = 4 ∧ T k = 122 ∧ T (k + 1) = 101 ∧ T (k + 2) = 114 ∧ T (k + 3) = 111 := by
    rcases hv with ⟨rfl, e⟩ | ⟨rfl, g, e⟩ | ⟨rfl, g, g', e⟩
    · rw [e]; exact ⟨fun z => by omega, fun z => absurd z.1 (by decide)⟩
    · rw [e]; exact ⟨fun z => by omega, fun z => absurd z.1 (by decide)⟩
    · rw [e]; exact q_w4 b0 b1 g g'
  simp only [w1, w2, w3, w4, w5, w6]
  repeat' (first | refine q_ite (fun _ => ?_) (fun _ => ?_) | rfl)
