def zWk (T : Nat → Nat) (n k : Nat) (w : Nat × Int32 × Nat × Nat) : Prop :=
  (w.1 = 0 ∧ w.2.1 = 0 ∧ k ≤ w.2.2.1 ∧ ((w.2.2.1 = n ∧ w.2.2.2 = n) ∨ (w.2.2.1 < n ∧ w.2.2.2 = w.2.2.1 + 1))) ∨
  (w.1 = 24 ∧ k ≤ w.2.2.1 ∧ w.2.2.1 < n ∧ ∃ f : Nat, 1 ≤ f ∧ f ≤ 4 ∧ w.2.1 = nI f) ∨
  (k ≤ w.2.2.1 ∧ w.2.2.1 < w.2.2.2 ∧ w.2.2.2 ≤ n ∧ (((w.1 = 1 ∨ w.1 = 2) ∧ w.2.2.2 - w.2.2.1 ≤ 16 ∧ w.2.1 = nI (w.2.2.2 - w.2.2.1) ∧ (zreg T w.2.2.1 (w.2.2.2 - w.2.2.1) = (-1) ↔ w.1 = 1) ∧ ∀ j, w.2.2.1 ≤ j → j < w.2.2.2 → znm (T j) = true) ∨ (w.1 = 3 ∧ w.2.1 = 0) ∨ (w.1 = 4 ∧ ∃ v : Nat, v < 10 ∧ w.2.1 = nI v ∧ w.2.2.2 = w.2.2.1 + 1) ∨ (w.1 = 5 ∧ w.2.2.1 + 2 ≤ w.2.2.2) ∨ (w.1 = 6 ∧ w.2.2.1 + 2 ≤ w.2.2.2 ∧ ∃ v : Nat, v < 20 ∧ w.2.1 = nI v) ∨ (w.1 = 7 ∧ ∃ c : Nat, w.2.1 = nI c ∧ w.2.2.1 + c + 2 ≤ w.2.2.2) ∨ (8 ≤ w.1 ∧ w.1 ≤ 23 ∧ w.2.1 = 0 ∧ (w.1 = 17 ∨ w.1 = 18 → w.2.2.1 + 2 ≤ w.2.2.2))))
set_option maxHeartbeats 400000 in
theorem zkos_8 : ∀ b, b < 257 → zkos b = 24 ∨ (8 ≤ zkos b ∧ zkos b ≤ 23 ∧ zkos b ≠ 17 ∧ zkos b ≠ 18) := by decide +kernel
set_option maxHeartbeats 400000 in
theorem zdigs_k {T : Nat → Nat} {n b k fr : Nat} (h1 : fr = k ∨ fr = k + 2) (h2 : fr ≤ n) (h3 : k < n) (hb : fr = k → b ≤ 10) : zWk T n k (z4 k (zdigs T n b k fr)) := by
  have hle := zrun_le (fun x => decide (zdv x < b)) T (n - fr) fr
  have hall := zrun_all (fun x => decide (zdv x < b)) T (n - fr) fr fr (Nat.le_refl _)
  unfold zdigs
  obtain ⟨E, hE⟩ : ∃ E, E = zrun (fun x => decide (zdv x < b)) T (n - fr) fr := ⟨_, rfl⟩
  rw [← hE] at hle hall ⊢
  by_cases c : E = fr ∨ 4294967296 ≤ zdval b T fr (E - fr)
  · rw [if_pos c]
    exact Or.inr (Or.inl ⟨rfl, Nat.le_refl _, h3, 3, by omega, by omega, rfl⟩)
  rw [if_neg c]
  by_cases c1 : E - k = 1
  · rw [if_pos c1]
    have e1 : fr = k := by omega
    subst e1
    have e2 : E = fr + 1 := by omega
    have h9 : decide (zdv (T fr) < b) = true := hall (by omega)
    have h8 := of_decide_eq_true h9
    have h7 := hb rfl
    refine Or.inr (Or.inr ⟨Nat.le_refl _, by show fr < E; omega, by show E ≤ n; omega, Or.inr (Or.inr (Or.inl ⟨rfl, zdv (T fr), by omega, ?_, e2⟩))⟩)
    show nI (zdval b T fr (E - fr)) = _
    rw [show E - fr = 0 + 1 by omega]
    show nI (0 * b + zdv (T (fr + 0))) = _
    rw [Nat.zero_mul, Nat.zero_add, Nat.add_zero]
  · rw [if_neg c1]
    exact Or.inr (Or.inr ⟨Nat.le_refl _, by show k < E; omega, by show E ≤ n; omega, Or.inr (Or.inr (Or.inr (Or.inl ⟨rfl, by show k + 2 ≤ E; omega⟩)))⟩)
set_option maxHeartbeats 400000 in
theorem ztok_all {T : Nat → Nat} {n k : Nat} (hk : k < n) (hT : ∀ i, i < n → T i < 256) : zWk T n k (z4 k (ztok T n k)) := by
  have hz : ∀ c i, c ≠ 256 → zB T n i = c → i < n := fun c i hc hz => by
    unfold zB at hz
    split at hz <;> omega
  have hTk := hT k hk
  have bad : ∀ f : Nat, 1 ≤ f → f ≤ 4 → ∀ v : Int32, v = nI f → zWk T n k (z4 k (24, v, 0)) := fun f h1 h2 v hv => Or.inr (Or.inl ⟨rfl, Nat.le_refl _, hk, f, h1, h2, hv⟩)
  unfold ztok
  by_cases c0 : zdg (T k) = true
  · rw [if_pos c0]
    unfold znum
    by_cases c1 : T k = 48 ∧ zB T n (k + 1) = 120
    · rw [if_pos c1]
      exact zdigs_k (Or.inr rfl) (by have := hz 120 _ (by omega) c1.2; omega) hk (fun h => by omega)
    rw [if_neg c1]
    by_cases c2 : T k = 48 ∧ zB T n (k + 1) = 98 ∧ zdv (zB T n (k + 2)) < 2
    · rw [if_pos c2]
      exact zdigs_k (Or.inr rfl) (by have := hz 98 _ (by omega) c2.2.1; omega) hk (fun h => by omega)
    rw [if_neg c2]
    by_cases c3 : (zB T n (k + 1) = 98 ∨ zB T n (k + 1) = 102) ∧ znm (zB T n (k + 2)) = false
    · rw [if_pos c3]
      have h1 : k + 1 < n := by
        rcases c3.1 with c | c
        · exact hz 98 _ (by omega) c
        · exact hz 102 _ (by omega) c
      have hdd : 48 ≤ T k ∧ T k ≤ 57 := by unfold zdg at c0; exact of_decide_eq_true c0
      refine Or.inr (Or.inr ⟨Nat.le_refl _, by show k < k + 2; omega, by show k + 2 ≤ n; omega, Or.inr (Or.inr (Or.inr (Or.inr (Or.inl ⟨rfl, Nat.le_refl _, _, ?_, rfl⟩))))⟩)
      split <;> omega
    · rw [if_neg c3]
      exact zdigs_k (Or.inl rfl) (by omega) hk (fun _ => Nat.le_refl _)
  rw [if_neg c0]
  by_cases c1 : znm (T k) = true ∧ ¬ T k = 36
  · rw [if_pos c1]
    unfold znam
    have hle := zrun_le znm T (n - k) k
    have hall := zrun_all znm T (n - k) k
    have hlt : k < zrun znm T (n - k) k := by
      rw [show n - k = (n - (k + 1)) + 1 by omega]
      show k < (if znm (T k) = true then _ else _)
      rw [if_pos c1.1]
      have := zrun_le znm T (n - (k + 1)) (k + 1)
      omega
    obtain ⟨E, hE⟩ : ∃ E, E = zrun znm T (n - k) k := ⟨_, rfl⟩
    rw [← hE] at hle hlt hall ⊢
    by_cases c16 : 16 < E - k
    · rw [if_pos c16]
      exact bad 2 (by omega) (by omega) 2 rfl
    rw [if_neg c16]
    by_cases c46 : E - k = 1 ∧ T k = 46
    · rw [if_pos c46]
      exact Or.inr (Or.inr ⟨Nat.le_refl _, hlt, by show E ≤ n; omega, Or.inr (Or.inl ⟨rfl, rfl⟩)⟩)
    rw [if_neg c46]
    by_cases cr : zreg T k (E - k) = (-1)
    · rw [if_pos cr]
      exact Or.inr (Or.inr ⟨Nat.le_refl _, hlt, by show E ≤ n; omega, Or.inl ⟨Or.inl rfl, by show E - k ≤ 16; omega, rfl, ⟨fun _ => rfl, fun _ => cr⟩, fun j h1 h2 => hall j h1 h2⟩⟩)
    · rw [if_neg cr]
      exact Or.inr (Or.inr ⟨Nat.le_refl _, hlt, by show E ≤ n; omega, Or.inl ⟨Or.inr rfl, by show E - k ≤ 16; omega, rfl, ⟨fun h => absurd h cr, fun h => absurd (show (2 : Nat) = 1 from h) (by decide)⟩, fun j h1 h2 => hall j h1 h2⟩⟩)
  rw [if_neg c1]
  by_cases c2 : T k = 39
  · rw [if_pos c2]
    unfold zchr
    cases hc : zcode T n 39 (k + 1) with
    | none => exact bad 4 (by omega) (by omega) 4 rfl
    | some v =>
      show zWk T n k (z4 k (if zB T n (k + 1 + zwid T n (k + 1)) = 39 then (5, nI v, k + 1 + zwid T n (k + 1) + 1) else (24, 4, 0)))
      by_cases c9 : zB T n (k + 1 + zwid T n (k + 1)) = 39
      · rw [if_pos c9]
        have := hz 39 _ (by omega) c9
        exact Or.inr (Or.inr ⟨Nat.le_refl _, by show k < k + 1 + zwid T n (k + 1) + 1; omega, by show k + 1 + zwid T n (k + 1) + 1 ≤ n; omega, Or.inr (Or.inr (Or.inr (Or.inl ⟨rfl, by show k + 2 ≤ k + 1 + zwid T n (k + 1) + 1; omega⟩)))⟩)
      · rw [if_neg c9]
        exact bad 4 (by omega) (by omega) 4 rfl
  rw [if_neg c2]
  by_cases c3 : T k = 34
  · rw [if_pos c3]
    unfold zstr
    have hle := zslp_le (T := T) (n := n) (n - k) (k + 1) (by omega)
    by_cases c9 : zB T n (zslp T n (n - k) (k + 1)).2 = 34
    · rw [if_pos c9]
      have := hz 34 _ (by omega) c9
      exact Or.inr (Or.inr ⟨Nat.le_refl _, by show k < (zslp T n (n - k) (k + 1)).2 + 1; omega, by show (zslp T n (n - k) (k + 1)).2 + 1 ≤ n; omega, Or.inr (Or.inr (Or.inr (Or.inr (Or.inr (Or.inl ⟨rfl, _, rfl, by show k + (zslp T n (n - k) (k + 1)).1 + 2 ≤ (zslp T n (n - k) (k + 1)).2 + 1; omega⟩)))))⟩)
    · rw [if_neg c9]
      exact bad 4 (by omega) (by omega) 4 rfl
  rw [if_neg c3]
  unfold zsgn
  by_cases c9 : (T k = 60 ∨ T k = 62) ∧ zB T n (k + 1) = T k
  · rw [if_pos c9]
    have h1 : k + 1 < n := hz (T k) _ (by omega) c9.2
    by_cases c6 : T k = 60
    · rw [if_pos c6]
      exact Or.inr (Or.inr ⟨Nat.le_refl _, by show k < k + 2; omega, by show k + 2 ≤ n; omega, Or.inr (Or.inr (Or.inr (Or.inr (Or.inr (Or.inr ⟨by show 8 ≤ 17; omega, by show 17 ≤ 23; omega, rfl, fun _ => Nat.le_refl _⟩)))))⟩)
    · rw [if_neg c6]
      exact Or.inr (Or.inr ⟨Nat.le_refl _, by show k < k + 2; omega, by show k + 2 ≤ n; omega, Or.inr (Or.inr (Or.inr (Or.inr (Or.inr (Or.inr ⟨by show 8 ≤ 18; omega, by show 18 ≤ 23; omega, rfl, fun _ => Nat.le_refl _⟩)))))⟩)
  rw [if_neg c9]
  by_cases c24 : zkos (T k) = 24
  · rw [if_pos c24]
    exact bad 1 (by omega) (by omega) 1 rfl
  · rw [if_neg c24]
    have h8 := (zkos_8 (T k) (by omega)).resolve_left c24
    refine Or.inr (Or.inr ⟨Nat.le_refl _, by show k < k + 1; omega, by show k + 1 ≤ n; omega, Or.inr (Or.inr (Or.inr (Or.inr (Or.inr (Or.inr ⟨h8.1, h8.2.1, rfl, fun h => ?_⟩)))))⟩)
    exact absurd h (by show ¬ (zkos (T k) = 17 ∨ zkos (T k) = 18); omega)
set_option maxHeartbeats 400000 in
theorem zwd_all {T : Nat → Nat} {n k : Nat} (hk : k ≤ n) (hT : ∀ i, i < n → T i < 256) : zWk T n k (zwd T n k) := by
  have hsk : k ≤ zskp T n k := by
    have h1 := zrun_le zbk1 T (n - k) k
    unfold zskp
    split
    · have h2 := zrun_le zcm T (n - zrun zbk1 T (n - k) k) (zrun zbk1 T (n - k) k)
      omega
    · omega
  have up : ∀ w, zWk T n (zskp T n k) w → zWk T n k w := by
    intro w h
    rcases h with ⟨h1, h2, h3, h4⟩ | ⟨h1, h2, h3⟩ | ⟨h1, h2⟩
    · exact Or.inl ⟨h1, h2, by omega, h4⟩
    · exact Or.inr (Or.inl ⟨h1, by omega, h3⟩)
    · exact Or.inr (Or.inr ⟨by omega, h2⟩)
  unfold zwd
  by_cases c1 : n ≤ zskp T n k
  · rw [if_pos c1]
    exact Or.inl ⟨rfl, rfl, hk, Or.inl ⟨rfl, rfl⟩⟩
  rw [if_neg c1]
  by_cases c2 : T (zskp T n k) = 10
  · rw [if_pos c2]
    exact Or.inl ⟨rfl, rfl, hsk, Or.inr ⟨by show zskp T n k < n; omega, rfl⟩⟩
  · rw [if_neg c2]
    exact up _ (ztok_all (by omega) hT)
set_option maxHeartbeats 400000 in
theorem zw_k {T : Nat → Nat} {n : Nat} (hT : ∀ i, i < n → T i < 256) : ∀ L, (∀ j, j < L → ¬ zlst T n j) → ∀ i, i ≤ L → zps T n i ≤ n ∧ i ≤ zps T n i ∧ zWk T n (zps T n i) (zw T n i) := by
  intro L hL i
  induction i with
  | zero => intro _; exact ⟨Nat.zero_le _, Nat.le_refl _, zwd_all (Nat.zero_le _) hT⟩
  | succ i ih =>
    intro hi
    obtain ⟨h1, h2, h3⟩ := ih (by omega)
    have h4 := hL i (by omega)
    have h5 : zps T n (i + 1) ≤ n ∧ zps T n i < zps T n (i + 1) := by
      show (zw T n i).2.2.2 ≤ n ∧ zps T n i < (zw T n i).2.2.2
      unfold zlst at h4
      have h4a : ¬ (zw T n i).1 = 24 := fun z => h4 (Or.inl z)
      have h4b : ¬ (zw T n i).2.2.1 = n := fun z => h4 (Or.inr z)
      rcases h3 with ⟨g1, g2, g3, g4⟩ | ⟨g1, g2, g3⟩ | ⟨g1, g2, g3, g4⟩
      · omega
      · exact absurd g1 h4a
      · omega
    exact ⟨h5.1, by omega, zwd_all h5.1 hT⟩
