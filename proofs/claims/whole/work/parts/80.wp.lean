def zp {α : Type} (o : Option α) (Q : α → Prop) : Prop := ∃ a, o = some a ∧ Q a
theorem zp_some {α : Type} {a : α} {Q : α → Prop} (h : Q a) : zp (some a) Q := ⟨a, rfl, h⟩
theorem zp_mono {α : Type} {o : Option α} {P Q : α → Prop} (h : zp o P) (hQ : ∀ a, P a → Q a) : zp o Q := by
  obtain ⟨a, e, p⟩ := h
  exact ⟨a, e, hQ a p⟩
theorem zp_of {α : Type} {o : Option α} {a : α} {Q : α → Prop} (e : o = some a) (h : Q a) : zp o Q := ⟨a, e, h⟩
theorem zp_if {α : Type} {c : Prop} {_ : Decidable c} {A B : Option α} {Q : α → Prop} (h1 : c → zp A Q) (h2 : ¬ c → zp B Q) : zp (if c then A else B) Q := by
  by_cases q : c
  · rw [if_pos q]; exact h1 q
  · rw [if_neg q]; exact h2 q
theorem zp_pos {α : Type} {c : Prop} {_ : Decidable c} {A B : Option α} {Q : α → Prop} (q : c) (h : zp A Q) : zp (if c then A else B) Q := by
  rw [if_pos q]; exact h
theorem zp_neg {α : Type} {c : Prop} {_ : Decidable c} {A B : Option α} {Q : α → Prop} (q : ¬ c) (h : zp B Q) : zp (if c then A else B) Q := by
  rw [if_neg q]; exact h
theorem zp_bn {α β : Type} {o : Option (α × zS)} {k : α → zS → Option β} {Q : β → Prop} (h : zp o (fun q => zp (k q.1 q.2) Q)) : zp (zbn o k) Q := by
  obtain ⟨a, e, p⟩ := h
  subst e
  exact p
theorem zp_bne {α β : Type} {o : Option (α × zS)} {k : α → zS → Option β} {Q : β → Prop} {x : α} {s : zS} (e : o = some (x, s)) (h : zp (k x s) Q) : zp (zbn o k) Q := by
  subst e
  exact h
theorem zbn_s {α β : Type} {x : α} {s : zS} {k : α → zS → Option β} : zbn (some (x, s)) k = k x s := rfl
theorem zbl_r {α β γ : Type} {x : β} {kl : α → Option γ} {k : β → Option γ} : zbl (some (.inr x)) kl k = k x := rfl
theorem zbl_l {α β γ : Type} {x : α} {kl : α → Option γ} {k : β → Option γ} : zbl (some (.inl x)) kl k = kl x := rfl
theorem zp_bt {α β : Type} {o : Option (Option α × zS)} {kx : zS → Option β} {k : α → zS → Option β} {Q : β → Prop} (h : zp o (fun q => match q.1 with | none => zp (kx q.2) Q | some x => zp (k x q.2) Q)) : zp (zbt o kx k) Q := by
  obtain ⟨a, e, p⟩ := h
  subst e
  match a, p with
  | (none, s), p => exact p
  | (some x, s), p => exact p
theorem zp_bl {α β γ : Type} {o : Option (α ⊕ β)} {kl : α → Option γ} {k : β → Option γ} {Q : γ → Prop} (h : zp o (fun q => match q with | .inl x => zp (kl x) Q | .inr x => zp (k x) Q)) : zp (zbl o kl k) Q := by
  obtain ⟨a, e, p⟩ := h
  subst e
  match a, p with
  | .inl x, p => exact p
  | .inr x, p => exact p
theorem zp_blr {α β γ : Type} {o : Option (α ⊕ β)} {kl : α → Option γ} {k : β → Option γ} {Q : γ → Prop} (P : β → Prop) (h : zp o (fun q => ∃ x, q = .inr x ∧ P x)) (hk : ∀ x, P x → zp (k x) Q) : zp (zbl o kl k) Q := by
  obtain ⟨a, e, x, e2, p⟩ := h
  subst e
  subst e2
  exact hk x p
theorem zlp0 {β : Type} {S : (zS → Option β) → zS → Option β} (I : zS → Prop) (m : zS → Nat) (Q : β → Prop) (h : ∀ (rec : zS → Option β)  (s : zS), I  s → (∀  (t : zS), I  t → m  t < m  s → zp (rec  t) Q) → zp (S rec  s) Q) : ∀ (n : Nat)  (s : zS), I  s → m  s < n → zp ((Nat.rec (motive := fun _ => zS → Option β) (fun _ => none) (fun _ rec => S rec) n : zS → Option β)  s) Q := by
  intro n
  induction n with
  | zero => intro  s _ hm; exact absurd hm (Nat.not_lt_zero _)
  | succ n ih => intro  s hI hm; exact h _  s hI (fun  t hI' hm' => ih  t hI' (by omega))
theorem zlp1 {α1 β : Type} {S : (α1 → zS → Option β) → α1 → zS → Option β} (I : α1 → zS → Prop) (m : α1 → zS → Nat) (Q : β → Prop) (h : ∀ (rec : α1 → zS → Option β) (v1 : α1) (s : zS), I v1 s → (∀ (w1 : α1) (t : zS), I w1 t → m w1 t < m v1 s → zp (rec w1 t) Q) → zp (S rec v1 s) Q) : ∀ (n : Nat) (v1 : α1) (s : zS), I v1 s → m v1 s < n → zp ((Nat.rec (motive := fun _ => α1 → zS → Option β) (fun _ _ => none) (fun _ rec => S rec) n : α1 → zS → Option β) v1 s) Q := by
  intro n
  induction n with
  | zero => intro v1 s _ hm; exact absurd hm (Nat.not_lt_zero _)
  | succ n ih => intro v1 s hI hm; exact h _ v1 s hI (fun w1 t hI' hm' => ih w1 t hI' (by omega))
theorem zlp2 {α1 α2 β : Type} {S : (α1 → α2 → zS → Option β) → α1 → α2 → zS → Option β} (I : α1 → α2 → zS → Prop) (m : α1 → α2 → zS → Nat) (Q : β → Prop) (h : ∀ (rec : α1 → α2 → zS → Option β) (v1 : α1) (v2 : α2) (s : zS), I v1 v2 s → (∀ (w1 : α1) (w2 : α2) (t : zS), I w1 w2 t → m w1 w2 t < m v1 v2 s → zp (rec w1 w2 t) Q) → zp (S rec v1 v2 s) Q) : ∀ (n : Nat) (v1 : α1) (v2 : α2) (s : zS), I v1 v2 s → m v1 v2 s < n → zp ((Nat.rec (motive := fun _ => α1 → α2 → zS → Option β) (fun _ _ _ => none) (fun _ rec => S rec) n : α1 → α2 → zS → Option β) v1 v2 s) Q := by
  intro n
  induction n with
  | zero => intro v1 v2 s _ hm; exact absurd hm (Nat.not_lt_zero _)
  | succ n ih => intro v1 v2 s hI hm; exact h _ v1 v2 s hI (fun w1 w2 t hI' hm' => ih w1 w2 t hI' (by omega))
theorem zlp3 {α1 α2 α3 β : Type} {S : (α1 → α2 → α3 → zS → Option β) → α1 → α2 → α3 → zS → Option β} (I : α1 → α2 → α3 → zS → Prop) (m : α1 → α2 → α3 → zS → Nat) (Q : β → Prop) (h : ∀ (rec : α1 → α2 → α3 → zS → Option β) (v1 : α1) (v2 : α2) (v3 : α3) (s : zS), I v1 v2 v3 s → (∀ (w1 : α1) (w2 : α2) (w3 : α3) (t : zS), I w1 w2 w3 t → m w1 w2 w3 t < m v1 v2 v3 s → zp (rec w1 w2 w3 t) Q) → zp (S rec v1 v2 v3 s) Q) : ∀ (n : Nat) (v1 : α1) (v2 : α2) (v3 : α3) (s : zS), I v1 v2 v3 s → m v1 v2 v3 s < n → zp ((Nat.rec (motive := fun _ => α1 → α2 → α3 → zS → Option β) (fun _ _ _ _ => none) (fun _ rec => S rec) n : α1 → α2 → α3 → zS → Option β) v1 v2 v3 s) Q := by
  intro n
  induction n with
  | zero => intro v1 v2 v3 s _ hm; exact absurd hm (Nat.not_lt_zero _)
  | succ n ih => intro v1 v2 v3 s hI hm; exact h _ v1 v2 v3 s hI (fun w1 w2 w3 t hI' hm' => ih w1 w2 w3 t hI' (by omega))
theorem zlp4 {α1 α2 α3 α4 β : Type} {S : (α1 → α2 → α3 → α4 → zS → Option β) → α1 → α2 → α3 → α4 → zS → Option β} (I : α1 → α2 → α3 → α4 → zS → Prop) (m : α1 → α2 → α3 → α4 → zS → Nat) (Q : β → Prop) (h : ∀ (rec : α1 → α2 → α3 → α4 → zS → Option β) (v1 : α1) (v2 : α2) (v3 : α3) (v4 : α4) (s : zS), I v1 v2 v3 v4 s → (∀ (w1 : α1) (w2 : α2) (w3 : α3) (w4 : α4) (t : zS), I w1 w2 w3 w4 t → m w1 w2 w3 w4 t < m v1 v2 v3 v4 s → zp (rec w1 w2 w3 w4 t) Q) → zp (S rec v1 v2 v3 v4 s) Q) : ∀ (n : Nat) (v1 : α1) (v2 : α2) (v3 : α3) (v4 : α4) (s : zS), I v1 v2 v3 v4 s → m v1 v2 v3 v4 s < n → zp ((Nat.rec (motive := fun _ => α1 → α2 → α3 → α4 → zS → Option β) (fun _ _ _ _ _ => none) (fun _ rec => S rec) n : α1 → α2 → α3 → α4 → zS → Option β) v1 v2 v3 v4 s) Q := by
  intro n
  induction n with
  | zero => intro v1 v2 v3 v4 s _ hm; exact absurd hm (Nat.not_lt_zero _)
  | succ n ih => intro v1 v2 v3 v4 s hI hm; exact h _ v1 v2 v3 v4 s hI (fun w1 w2 w3 w4 t hI' hm' => ih w1 w2 w3 w4 t hI' (by omega))
theorem zlp5 {α1 α2 α3 α4 α5 β : Type} {S : (α1 → α2 → α3 → α4 → α5 → zS → Option β) → α1 → α2 → α3 → α4 → α5 → zS → Option β} (I : α1 → α2 → α3 → α4 → α5 → zS → Prop) (m : α1 → α2 → α3 → α4 → α5 → zS → Nat) (Q : β → Prop) (h : ∀ (rec : α1 → α2 → α3 → α4 → α5 → zS → Option β) (v1 : α1) (v2 : α2) (v3 : α3) (v4 : α4) (v5 : α5) (s : zS), I v1 v2 v3 v4 v5 s → (∀ (w1 : α1) (w2 : α2) (w3 : α3) (w4 : α4) (w5 : α5) (t : zS), I w1 w2 w3 w4 w5 t → m w1 w2 w3 w4 w5 t < m v1 v2 v3 v4 v5 s → zp (rec w1 w2 w3 w4 w5 t) Q) → zp (S rec v1 v2 v3 v4 v5 s) Q) : ∀ (n : Nat) (v1 : α1) (v2 : α2) (v3 : α3) (v4 : α4) (v5 : α5) (s : zS), I v1 v2 v3 v4 v5 s → m v1 v2 v3 v4 v5 s < n → zp ((Nat.rec (motive := fun _ => α1 → α2 → α3 → α4 → α5 → zS → Option β) (fun _ _ _ _ _ _ => none) (fun _ rec => S rec) n : α1 → α2 → α3 → α4 → α5 → zS → Option β) v1 v2 v3 v4 v5 s) Q := by
  intro n
  induction n with
  | zero => intro v1 v2 v3 v4 v5 s _ hm; exact absurd hm (Nat.not_lt_zero _)
  | succ n ih => intro v1 v2 v3 v4 v5 s hI hm; exact h _ v1 v2 v3 v4 v5 s hI (fun w1 w2 w3 w4 w5 t hI' hm' => ih w1 w2 w3 w4 w5 t hI' (by omega))
theorem zga_n {i n : Nat} (h : i < n) (hn : n < 2 ^ 31) : zga (nI i) n = true := by
  have h1 : ¬ nI i < 0 := nI_pos (by omega)
  have h2 : (nI i).toNatClampNeg = i := nI_clamp (by omega)
  unfold zga
  rw [h2, decide_eq_false h1, decide_eq_false (by omega)]
  rfl
theorem zga_x {x : Int32} {n : Nat} (i : Nat) (hx : x = nI i) (h : i < n) (hn : n < 2 ^ 31) : zga x n = true := by
  subst hx
  exact zga_n h hn
theorem zga_l {i a L : Nat} (hL : zlen a = L) (h : i < L) (h2 : L < 2 ^ 31) : zga (nI i) (zlen a) = true := by
  rw [hL]
  exact zga_n h h2
theorem zlen_ge {i a L : Nat} (hL : zlen a = L) (h : i < L) (h2 : L < 2 ^ 31) : ¬ nI (zlen a) ≤ nI i := by
  rw [hL]
  exact nI_ge h h2
theorem q_idx {k n w j : Nat} (hk : k < n) (hj : j < w) : k * w + j < n * w := Nat.lt_of_lt_of_le (show k * w + j < (k + 1) * w by rw [Nat.succ_mul]; omega) (Nat.mul_le_mul_right w hk)
/-- s' is s but for the fields K and the arrays A -/
def zeq (K A : List Nat) (s t : zS) : Prop := (∀ k, k ∉ K → t.1 k = s.1 k) ∧ (∀ a, a ∉ A → t.2.1 a = s.2.1 a) ∧ t.2.2 = s.2.2
theorem zeq_refl (K A : List Nat) (s : zS) : zeq K A s s := ⟨fun _ _ => rfl, fun _ _ => rfl, rfl⟩
theorem zeq_trans {K A : List Nat} {s t u : zS} (h1 : zeq K A s t) (h2 : zeq K A t u) : zeq K A s u := ⟨fun k hk => (h2.1 k hk).trans (h1.1 k hk), fun a ha => (h2.2.1 a ha).trans (h1.2.1 a ha), h2.2.2.trans h1.2.2⟩
theorem zeq_mono {K A K' A' : List Nat} {s t : zS} (h : zeq K A s t) (hK : ∀ k, k ∈ K → k ∈ K') (hA : ∀ k, k ∈ A → k ∈ A') : zeq K' A' s t := ⟨fun k hk => h.1 k (fun q => hk (hK k q)), fun a ha => h.2.1 a (fun q => ha (hA a q)), h.2.2⟩
theorem zeq_c {K A : List Nat} {s : zS} {k : Nat} {x : Int32} (h : k ∈ K) : zeq K A s (zsc s k x) := ⟨fun j hj => if_neg (fun e => hj (by rw [e]; exact h)), fun _ _ => rfl, rfl⟩
theorem zeq_r {K A : List Nat} {s : zS} {a : Nat} {i x : Int32} (h : a ∈ A) : zeq K A s (zsr s a i x) := ⟨fun _ _ => rfl, fun j hj => if_neg (fun e => hj (by rw [e]; exact h)), rfl⟩
theorem zsr_same {s : zS} {a : Nat} {i x : Int32} : (zsr s a i x).2.1 a = upd (s.2.1 a) i.toNatClampNeg x := if_pos rfl
theorem zsc_at {s : zS} {k : Nat} {x : Int32} : (zsc s k x).1 k = x := if_pos rfl
theorem zsc_ne {s : zS} {k j : Nat} {x : Int32} (h : j ≠ k) : (zsc s k x).1 j = s.1 j := if_neg h
def zby (x : Int32) : Prop := ∃ k : Nat, k < 256 ∧ x = nI k
theorem q_cell_in {N a : Nat} {s : zS} {p2 : Int32} (w n k j L : Nat) (h1 : s.1 (100 * a + 1) = nI w) (h3 : s.1 (100 * a + 3) = nI n) (hL : zlen (a + 1) = L) (hk : k < n) (hj : j < w) (hb : n * w ≤ L) (hL2 : L < 2 ^ 31) (hn : n < 2 ^ 31) (hw : w < 2 ^ 31) : fX6_cell N a (nI k) (nI j) p2 s = some (s.2.1 (a + 1) (k * w + j), s) := by
  have hi := q_idx hk hj
  unfold fX6_cell
  have e : nI k * nI w + nI j = nI (k * w + j) := by rw [pk_mul, nI_add]
  rw [h1, h3, hL, e, if_neg (nI_pos (by omega)), if_neg (nI_ge hk hn), if_neg (nI_pos (by omega)), if_neg (nI_ge hj hw), if_neg (nI_pos (by omega)), if_pos (nI_lt (by omega) hL2), if_pos (zga_n (by omega) hL2), nI_clamp (by omega)]
theorem q_cell_out {N a : Nat} {s : zS} {p0 p1 p2 : Int32} (h : p0 < 0 ∨ s.1 (100 * a + 3) ≤ p0 ∨ p1 < 0 ∨ s.1 (100 * a + 1) ≤ p1) : fX6_cell N a p0 p1 p2 s = some (p2, s) := by
  unfold fX6_cell
  by_cases c1 : p0 < 0
  · rw [if_pos c1]
  rw [if_neg c1]
  by_cases c2 : s.1 (100 * a + 3) ≤ p0
  · rw [if_pos c2]
  rw [if_neg c2]
  by_cases c3 : p1 < 0
  · rw [if_pos c3]
  rw [if_neg c3]
  by_cases c4 : s.1 (100 * a + 1) ≤ p1
  · rw [if_pos c4]
  rcases h with h | h | h | h
  · exact absurd h c1
  · exact absurd h c2
  · exact absurd h c3
  · exact absurd h c4
def zBR (b h n0 n1 n2 n3 nb nl : Nat) (c m : zS) : Prop :=
  (n0 ≤ 400 ∧ c.1 (100 * (b + 1) + 3) = nI n0 ∧ m.2.1 36 (4 * h) = nI n0 ∧ ∀ k j, k < n0 → j < 6 → c.2.1 (b + 2) (k * 6 + j) = m.2.1 37 (2400 * h + 6 * k + j)) ∧
  (n1 ≤ 800 ∧ c.1 (100 * (b + 3) + 3) = nI n1 ∧ m.2.1 36 (4 * h + 1) = nI n1 ∧ ∀ k j, k < n1 → j < 7 → c.2.1 (b + 4) (k * 8 + j) = m.2.1 38 (5600 * h + 7 * k + j)) ∧
  (n2 ≤ 2000 ∧ c.1 (100 * (b + 5) + 3) = nI n2 ∧ m.2.1 36 (4 * h + 2) = nI n2 ∧ ∀ k j, k < n2 → j < 2 → c.2.1 (b + 6) (k * 2 + j) = m.2.1 39 (4000 * h + 2 * k + j)) ∧
  (n3 ≤ 150 ∧ c.1 (100 * (b + 7) + 3) = nI n3 ∧ m.2.1 36 (4 * h + 3) = nI n3 ∧ ∀ k, k < n3 → ∃ p l : Nat, 1 ≤ l ∧ l ≤ 16 ∧ p + l ≤ nb ∧ c.2.1 (b + 8) (k * 2 + 0) = nI p ∧ c.2.1 (b + 8) (k * 2 + 1) = nI l ∧ m.2.1 41 (150 * h + k) = nI l ∧ ∀ i, i < l → c.2.1 (b + 9) (p + i) = m.2.1 40 (2400 * h + 16 * k + i)) ∧
  (nb ≤ 3000 ∧ c.1 (100 * b + 5) = nI nb ∧ nl ≤ 3000 ∧ ∀ k, k < n1 → ∃ p q l : Nat, p + l ≤ nb ∧ q + l ≤ nl ∧ c.2.1 (b + 4) (k * 8 + 7) = nI p ∧ c.2.1 (b + 4) (k * 8 + 6) = nI l ∧ (0 < l → m.2.1 49 (800 * h + k) = nI q) ∧ ∀ i, i < l → c.2.1 (b + 9) (p + i) = m.2.1 42 (3000 * h + q + i))
def zTbl (s : zS) : Prop := s.1 601 = nI 3 ∧ s.1 602 = nI 3001 ∧ ∀ b, zBk b → (s.1 (100 * (b + 1) + 1) = nI 6 ∧ s.1 (100 * (b + 1) + 2) = nI 400) ∧ (s.1 (100 * (b + 3) + 1) = nI 8 ∧ s.1 (100 * (b + 3) + 2) = nI 800) ∧ (s.1 (100 * (b + 5) + 1) = nI 2 ∧ s.1 (100 * (b + 5) + 2) = nI 2000) ∧ (s.1 (100 * (b + 7) + 1) = nI 2 ∧ s.1 (100 * (b + 7) + 2) = nI 150)
theorem zlen_b {b : Nat} (hb : zBk b) : zlen (b + 1 + 1) = 2400 ∧ zlen (b + 3 + 1) = 6400 ∧ zlen (b + 5 + 1) = 4000 ∧ zlen (b + 7 + 1) = 300 ∧ zlen (b + 9) = 3000 := by
  rcases hb with rfl | rfl <;> exact ⟨rfl, rfl, rfl, rfl, rfl⟩
