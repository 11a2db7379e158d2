theorem q_ite {c : Prop} {_ : Decidable c} {A B : Option (Int32 × zS)} {a b : Int32} {s : zS} (hA : c → A = some (a, s)) (hB : ¬ c → B = some (b, s)) : (if c then A else B) = some ((if c then a else b), s) := by
  by_cases h : c
  · rw [if_pos h, if_pos h]; exact hA h
  · rw [if_neg h, if_neg h]; exact hB h
def bI (b : Nat) : Int32 := if b < 256 then nI b else (-1)
def bM (b : Nat) : Int32 := if b < 256 then nI b else nI 10
def zB (T : Nat → Nat) (n i : Nat) : Nat := if i < n then T i else 256
theorem bI_eq {b : Nat} (c : Nat) (hb : b < 257) (hc : c < 256) : bI b = nI c ↔ b = c := by
  unfold bI
  by_cases h : b < 256
  · rw [if_pos h, nI_eq (by omega) (by omega)]
  · rw [if_neg h]
    refine ⟨fun e => ?_, fun e => by omega⟩
    have h2 : ∀ c, c < 256 → ¬ (-1 : Int32) = nI c := by decide +kernel
    exact absurd e (h2 c hc)
theorem bM_eq {b : Nat} (c : Nat) (hb : b < 257) (hc : c < 256) (h10 : c ≠ 10) : bM b = nI c ↔ b = c := by
  unfold bM
  by_cases h : b < 256
  · rw [if_pos h, nI_eq (by omega) (by omega)]
  · rw [if_neg h, nI_eq (by omega) (by omega)]
    omega
def zdg (b : Nat) : Bool := decide (48 ≤ b ∧ b ≤ 57)
def znm (b : Nat) : Bool := decide (97 ≤ b ∧ b ≤ 122 ∨ 65 ≤ b ∧ b ≤ 90 ∨ 48 ≤ b ∧ b ≤ 57 ∨ b = 95 ∨ b = 46 ∨ b = 36)
def zdv (b : Nat) : Nat := if 48 ≤ b ∧ b ≤ 57 then b - 48 else if 97 ≤ b ∧ b ≤ 102 then b - 87 else if 65 ≤ b ∧ b ≤ 70 then b - 55 else 16
def zkos (b : Nat) : Nat := if b = 37 then 16 else if b = 38 then 19 else if b = 40 then 9 else if b = 41 then 10 else if b = 42 then 14 else if b = 43 then 12 else if b = 44 then 8 else if b = 45 then 13 else if b = 47 then 15 else if b = 58 then 22 else if b = 94 then 20 else if b = 124 then 21 else if b = 126 then 23 else 24
def zb1 (b : Bool) : Int32 := if b then 1 else 0
def vX8_isDigit (p0 : Int32) : Int32 := if p0 < 48 then 0 else if 57 < p0 then 0 else 1
theorem eX8_isDigit (N : Nat) (p0 : Int32) (s : zS) : fX8_isDigit N p0 s = some (vX8_isDigit p0, s) := by
  unfold fX8_isDigit vX8_isDigit
  skip
  repeat' (first | refine q_ite (fun _ => ?_) (fun _ => ?_) | rfl)
def vX8_digitOf (p0 : Int32) : Int32 := if (vX8_isDigit p0) = 0 then if p0 < 97 then if p0 < 65 then 16 else if 70 < p0 then 16 else (p0 - 65) + 10 else if 102 < p0 then if p0 < 65 then 16 else if 70 < p0 then 16 else (p0 - 65) + 10 else (p0 - 97) + 10 else p0 - 48
theorem eX8_digitOf (N : Nat) (p0 : Int32) (s : zS) : fX8_digitOf N p0 s = some (vX8_digitOf p0, s) := by
  unfold fX8_digitOf vX8_digitOf
  simp only [eX8_isDigit, zbn]
  repeat' (first | refine q_ite (fun _ => ?_) (fun _ => ?_) | rfl)
def vX8_isNameByte_J24 (p0 : Int32) : Int32 := if (vX8_isDigit p0) = 0 then if p0 = 95 then 1 else if p0 = 46 then 1 else if p0 = 36 then 1 else 0 else 1
theorem eX8_isNameByte_J24 (N : Nat) (p0 : Int32) (s : zS) : fX8_isNameByte_J24 N p0 s = some (vX8_isNameByte_J24 p0, s) := by
  unfold fX8_isNameByte_J24 vX8_isNameByte_J24
  simp only [eX8_isDigit, zbn]
  repeat' (first | refine q_ite (fun _ => ?_) (fun _ => ?_) | rfl)
def vX8_isNameByte_J12 (p0 : Int32) : Int32 := if p0 < 65 then vX8_isNameByte_J24 p0 else if p0 ≤ 90 then 1 else vX8_isNameByte_J24 p0
theorem eX8_isNameByte_J12 (N : Nat) (p0 : Int32) (s : zS) : fX8_isNameByte_J12 N p0 s = some (vX8_isNameByte_J12 p0, s) := by
  unfold fX8_isNameByte_J12 vX8_isNameByte_J12
  simp only [eX8_isNameByte_J24, zbn]
  repeat' (first | refine q_ite (fun _ => ?_) (fun _ => ?_) | rfl)
def vX8_isNameByte (p0 : Int32) : Int32 := if p0 < 97 then vX8_isNameByte_J12 p0 else if p0 ≤ 122 then 1 else vX8_isNameByte_J12 p0
theorem eX8_isNameByte (N : Nat) (p0 : Int32) (s : zS) : fX8_isNameByte N p0 s = some (vX8_isNameByte p0, s) := by
  unfold fX8_isNameByte vX8_isNameByte
  simp only [eX8_isNameByte_J12, zbn]
  repeat' (first | refine q_ite (fun _ => ?_) (fun _ => ?_) | rfl)
def vX8_kindOfSign (p0 : Int32) : Int32 := if p0 = 37 then 16 else if p0 = 38 then 19 else if p0 = 40 then 9 else if p0 = 41 then 10 else if p0 = 42 then 14 else if p0 = 43 then 12 else if p0 = 44 then 8 else if p0 = 45 then 13 else if p0 = 47 then 15 else if p0 = 58 then 22 else if p0 = 94 then 20 else if p0 = 124 then 21 else if p0 = 126 then 23 else 24
theorem eX8_kindOfSign (N : Nat) (p0 : Int32) (s : zS) : fX8_kindOfSign N p0 s = some (vX8_kindOfSign p0, s) := by
  unfold fX8_kindOfSign vX8_kindOfSign
  skip
  repeat' (first | refine q_ite (fun _ => ?_) (fun _ => ?_) | rfl)
def vX10_isDigit (p0 : Int32) : Int32 := if p0 < 48 then 0 else if 57 < p0 then 0 else 1
theorem eX10_isDigit (N : Nat) (p0 : Int32) (s : zS) : fX10_isDigit N p0 s = some (vX10_isDigit p0, s) := by
  unfold fX10_isDigit vX10_isDigit
  skip
  repeat' (first | refine q_ite (fun _ => ?_) (fun _ => ?_) | rfl)
def vX10_isLetter_J12 (p0 : Int32) : Int32 := if p0 < 65 then if p0 = 95 then 1 else if p0 = 46 then 1 else 0 else if p0 ≤ 90 then 1 else if p0 = 95 then 1 else if p0 = 46 then 1 else 0
theorem eX10_isLetter_J12 (N : Nat) (p0 : Int32) (s : zS) : fX10_isLetter_J12 N p0 s = some (vX10_isLetter_J12 p0, s) := by
  unfold fX10_isLetter_J12 vX10_isLetter_J12
  skip
  repeat' (first | refine q_ite (fun _ => ?_) (fun _ => ?_) | rfl)
def vX10_isLetter (p0 : Int32) : Int32 := if p0 < 97 then vX10_isLetter_J12 p0 else if p0 ≤ 122 then 1 else vX10_isLetter_J12 p0
theorem eX10_isLetter (N : Nat) (p0 : Int32) (s : zS) : fX10_isLetter N p0 s = some (vX10_isLetter p0, s) := by
  unfold fX10_isLetter vX10_isLetter
  simp only [eX10_isLetter_J12, zbn]
  repeat' (first | refine q_ite (fun _ => ?_) (fun _ => ?_) | rfl)
def vX10_isInName (p0 : Int32) : Int32 := if (vX10_isLetter p0) = 0 then if (vX10_isDigit p0) = 0 then if p0 = 36 then 1 else 0 else 1 else 1
theorem eX10_isInName (N : Nat) (p0 : Int32) (s : zS) : fX10_isInName N p0 s = some (vX10_isInName p0, s) := by
  unfold fX10_isInName vX10_isInName
  simp only [eX10_isLetter, eX10_isDigit, zbn]
  repeat' (first | refine q_ite (fun _ => ?_) (fun _ => ?_) | rfl)
def vX10_digitOf (p0 : Int32) : Int32 := if (vX10_isDigit p0) = 0 then if p0 < 97 then if p0 < 65 then 99 else if 70 < p0 then 99 else p0 - 55 else if 102 < p0 then if p0 < 65 then 99 else if 70 < p0 then 99 else p0 - 55 else p0 - 87 else p0 - 48
theorem eX10_digitOf (N : Nat) (p0 : Int32) (s : zS) : fX10_digitOf N p0 s = some (vX10_digitOf p0, s) := by
  unfold fX10_digitOf vX10_digitOf
  simp only [eX10_isDigit, zbn]
  repeat' (first | refine q_ite (fun _ => ?_) (fun _ => ?_) | rfl)
theorem b8_dig : ∀ b, b < 257 → vX8_isDigit (bI b) = zb1 (zdg b) := by decide +kernel
theorem b8_nm : ∀ b, b < 257 → vX8_isNameByte (bI b) = zb1 (znm b) := by decide +kernel
theorem b8_dv : ∀ b, b < 257 → vX8_digitOf (bI b) = nI (zdv b) := by decide +kernel
theorem b8_kos : ∀ b, b < 257 → vX8_kindOfSign (bI b) = nI (zkos b) := by decide +kernel
theorem b10_dig : ∀ b, b < 257 → vX10_isDigit (bM b) = zb1 (zdg b) := by decide +kernel
theorem b10_let : ∀ b, b < 257 → vX10_isLetter (bM b) = zb1 (znm b && !zdg b && !decide (b = 36)) := by decide +kernel
theorem b10_nm : ∀ b, b < 257 → vX10_isInName (bM b) = zb1 (znm b) := by decide +kernel
theorem b10_dv : ∀ b, b < 257 → vX10_digitOf (bM b) = nI (if zdv b = 16 then 99 else zdv b) := by decide +kernel
theorem zdv_le : ∀ b, b < 257 → zdv b ≤ 16 := by decide +kernel
/-- the text: bytes T, n of them -/
def zTx (a k : Nat) (T : Nat → Nat) (n : Nat) (s : zS) : Prop := s.1 k = nI n ∧ n ≤ 2900 ∧ ∀ i, i < n → T i < 256 ∧ s.2.1 a i = nI (T i)
theorem zB_lt {a k n : Nat} {T : Nat → Nat} {s : zS} (h : zTx a k T n s) (i : Nat) : zB T n i < 257 := by
  unfold zB
  split
  · have := (h.2.2 i (by assumption)).1; omega
  · omega
theorem zTx_keep {a k n : Nat} {T : Nat → Nat} {s t : zS} {K A : List Nat} (h : zTx a k T n s) (hz : zeq K A s t) (hk : k ∉ K) (ha : a ∉ A) : zTx a k T n t := ⟨(hz.1 k hk).trans h.1, h.2.1, fun i hi => ⟨(h.2.2 i hi).1, by rw [hz.2.1 a ha]; exact (h.2.2 i hi).2⟩⟩
theorem e8_at {N n : Nat} {T : Nat → Nat} {s : zS} (h : zTx 5 403 T n s) (i : Nat) (hi : i < 2 ^ 30) : fX8_byteAt N (nI i) s = some (bI (zB T n i), s) := by
  unfold fX8_byteAt zB
  rw [if_neg (nI_pos (by omega)), h.1]
  have := h.2.1
  by_cases c : i < n
  · rw [if_neg (nI_ge c (by omega)), if_neg (zlen_ge (by rfl) (show i < 3000 by omega) (by decide)), if_pos (zga_l (by rfl) (show i < 3000 by omega) (by decide)), nI_clamp (by omega), (h.2.2 i c).2, if_pos c]
    unfold bI
    rw [if_pos (h.2.2 i c).1]
  · rw [if_pos (nI_le (by omega) (by omega)), if_neg c]
    rfl
theorem e10_at {N n : Nat} {T : Nat → Nat} {s : zS} (h : zTx 35 3303 T n s) (i : Nat) (hi : i < 2 ^ 30) : fX10_at N (nI i) s = some (bM (zB T n i), s) := by
  unfold fX10_at zB
  rw [h.1]
  have := h.2.1
  by_cases c : i < n
  · rw [if_neg (nI_ge c (by omega)), if_pos (zga_l (by rfl) (show i < 3000 by omega) (by decide)), nI_clamp (by omega), (h.2.2 i c).2, if_pos c]
    unfold bM
    rw [if_pos (h.2.2 i c).1]
  · rw [if_pos (nI_le (by omega) (by omega)), if_neg c]
    rfl
def zrun (p : Nat → Bool) (T : Nat → Nat) : Nat → Nat → Nat
  | 0, k => k
  | m + 1, k => if p (T k) then zrun p T m (k + 1) else k
theorem zrun_le (p : Nat → Bool) (T : Nat → Nat) : ∀ m k, k ≤ zrun p T m k ∧ zrun p T m k ≤ k + m
  | 0, k => ⟨Nat.le_refl _, Nat.le_refl _⟩
  | m + 1, k => by
    unfold zrun
    split
    · have := zrun_le p T m (k + 1); omega
    · omega
def zdval (b : Nat) (T : Nat → Nat) (k : Nat) : Nat → Nat
  | 0 => 0
  | l + 1 => zdval b T k l * b + zdv (T (k + l))
def zesc (b : Nat) : Option Nat := if b = 34 then some 34 else if b = 39 then some 39 else if b = 48 then some 0 else if b = 92 then some 92 else if b = 110 then some 10 else if b = 116 then some 9 else none
def zcode (T : Nat → Nat) (n a i : Nat) : Option Nat := if zB T n i = 92 then zesc (zB T n (i + 1)) else if zB T n i < 32 ∨ 126 < zB T n i ∨ zB T n i = a then none else some (zB T n i)
def zwid (T : Nat → Nat) (n i : Nat) : Nat := if zB T n i = 92 then 2 else 1
def cI (c : Option Nat) : Int32 := match c with
  | none => (-1)
  | some v => nI v
def vesc (x4 : Int32) : Int32 := if x4 = 34 then x4 else if x4 = 39 then x4 else if x4 = 48 then 0 else if x4 = 92 then x4 else if x4 = 110 then 10 else if x4 = 116 then 9 else (-1)
theorem b8_esc : ∀ b, b < 257 → vesc (bI b) = cI (zesc b) := by decide +kernel
theorem b8_cod : ∀ b, b < 257 → ∀ a, a = 34 ∨ a = 39 → (if bI b < 32 then (-1 : Int32) else if 126 < bI b then (-1) else if bI b = nI a then (-1) else bI b) = cI (if b < 32 ∨ 126 < b ∨ b = a then none else some b) := by
  have h34 : ∀ b, b < 257 → (if bI b < 32 then (-1 : Int32) else if 126 < bI b then (-1) else if bI b = nI 34 then (-1) else bI b) = cI (if b < 32 ∨ 126 < b ∨ b = 34 then none else some b) := by decide +kernel
  have h39 : ∀ b, b < 257 → (if bI b < 32 then (-1 : Int32) else if 126 < bI b then (-1) else if bI b = nI 39 then (-1) else bI b) = cI (if b < 32 ∨ 126 < b ∨ b = 39 then none else some b) := by decide +kernel
  intro b hb a ha
  rcases ha with rfl | rfl
  · exact h34 b hb
  · exact h39 b hb
theorem e8_code {N n : Nat} {T : Nat → Nat} {s : zS} (h : zTx 5 403 T n s) (i a : Nat) (hi : i < 2 ^ 29) (ha : a = 34 ∨ a = 39) : fX8_codeAt N (nI i) (nI a) s = some (cI (zcode T n a i), s) := by
  unfold fX8_codeAt zcode
  rw [e8_at h i (by omega)]
  show (if bI (zB T n i) = nI 92 then zbn (fX8_byteAt N (nI i + 1) s) _ else _) = _
  by_cases c : zB T n i = 92
  · rw [if_pos ((bI_eq 92 (zB_lt h i) (by omega)).mpr c), nI_1, e8_at h (i + 1) (by omega), if_pos c, ← b8_esc _ (zB_lt h (i + 1))]
    unfold vesc
    simp only [zbn]
    repeat' (first | refine q_ite (fun _ => ?_) (fun _ => ?_) | rfl)
  · rw [if_neg (fun e => c ((bI_eq 92 (zB_lt h i) (by omega)).mp e)), if_neg c, ← b8_cod _ (zB_lt h i) a ha]
    repeat' (first | refine q_ite (fun _ => ?_) (fun _ => ?_) | rfl)
theorem e8_wid {N n : Nat} {T : Nat → Nat} {s : zS} (h : zTx 5 403 T n s) (i : Nat) (hi : i < 2 ^ 29) : fX8_widthAt N (nI i) s = some (nI (zwid T n i), s) := by
  unfold fX8_widthAt zwid
  rw [e8_at h i (by omega)]
  show (if bI (zB T n i) = nI 92 then some ((2 : Int32), s) else some ((1 : Int32), s)) = _
  by_cases c : zB T n i = 92
  · rw [if_pos ((bI_eq 92 (zB_lt h i) (by omega)).mpr c), if_pos c]; rfl
  · rw [if_neg (fun e => c ((bI_eq 92 (zB_lt h i) (by omega)).mp e)), if_neg c]; rfl
