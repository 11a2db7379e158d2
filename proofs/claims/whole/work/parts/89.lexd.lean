theorem zcode_lt {T : Nat → Nat} {n a i v : Nat} (h : zcode T n a i = some v) : v < 127 ∧ i < n ∧ i + zwid T n i ≤ n := by
  unfold zcode at h
  unfold zwid
  split at h
  · rename_i c
    have h1 : i + 1 < n := by
      unfold zB at h
      split at h
      · assumption
      · unfold zesc at h
        simp at h
    rw [if_pos c]
    refine ⟨?_, by omega, by omega⟩
    unfold zesc at h
    repeat' split at h
    all_goals first | (have := Option.some.inj h; omega) | cases h
  · rename_i c
    rw [if_neg c]
    split at h
    · cases h
    · rename_i c2
      have := Option.some.inj h
      have h1 : i < n := by
        unfold zB at c2
        split at c2
        · assumption
        · omega
      omega
theorem cI_m {c : Option Nat} (h : ∀ v, c = some v → v < 256) : cI c = (-1) ↔ c = none := by
  cases c with
  | none => exact ⟨fun _ => rfl, fun _ => rfl⟩
  | some v =>
    have h2 : ∀ v, v < 256 → ¬ nI v = (-1) := by decide +kernel
    exact ⟨fun e => absurd e (h2 v (h v rfl)), fun e => by cases e⟩
theorem z_bad8 {N : Nat} {s t : zS} {x : Int32} {e : Nat} (hz : zeq [404, 405] [] s t) : zp (zbn (fX8_bad N x t) (fun x7 s8 => some (x7, s8))) (zR8 s (24, x, e)) := zp_some ⟨rfl, zeq_trans hz (zeq_c (by decide)), fun hh => absurd rfl hh, zsc_at⟩
theorem s8_chr {N n k : Nat} {T : Nat → Nat} {s : zS} (h : zTx 5 403 T n s) (hk : k < n) (e : s.1 404 = nI k) : zp (fX8_scanCharacter N s) (zR8 s (zchr T n k)) := by
  have hn := h.2.1
  unfold fX8_scanCharacter
  rw [e, nI_1]
  refine zp_bne (e8_code h (k + 1) 39 (by omega) (Or.inr rfl)) ?_
  rw [e, nI_1]
  refine zp_bne (e8_wid h (k + 1) (by omega)) ?_
  rw [nI_add, nI_1]
  have hw : zwid T n (k + 1) ≤ 2 := by unfold zwid; split <;> omega
  have hm := cI_m (c := zcode T n 39 (k + 1)) (fun v hv => by have := zcode_lt hv; omega)
  unfold zchr
  cases hc : zcode T n 39 (k + 1) with
  | none =>
    rw [hc] at hm
    exact zp_pos (hm.mpr rfl) (z_bad8 (zeq_refl _ _ _))
  | some v =>
    rw [hc] at hm
    refine zp_neg (fun z => by cases hm.mp z) (zp_bne (e8_at h _ (by omega)) ?_)
    show zp _ (zR8 s (if zB T n (k + 1 + zwid T n (k + 1)) = 39 then (5, nI v, k + 1 + zwid T n (k + 1) + 1) else (24, 4, 0)))
    by_cases c : zB T n (k + 1 + zwid T n (k + 1)) = 39
    · rw [if_pos c]
      exact zp_pos ((bI_eq 39 (zB_lt h _) (by omega)).mpr c) (zp_some ⟨rfl, zeq_trans (zeq_c (by decide)) (zeq_c (by decide)), fun _ => zsc_at, (zsc_ne (by decide)).trans zsc_at⟩)
    · rw [if_neg c]
      exact zp_neg (fun z => c ((bI_eq 39 (zB_lt h _) (by omega)).mp z)) (z_bad8 (zeq_refl _ _ _))
theorem zcode_out {T : Nat → Nat} {n a i : Nat} (h : n ≤ i) : zcode T n a i = none := by
  cases hc : zcode T n a i with
  | none => rfl
  | some v => have := zcode_lt hc; omega
theorem l8_str {N n : Nat} {T : Nat → Nat} {s : zS} (h : zTx 5 403 T n s) : ∀ m i M c, n ≤ i + m → i ≤ n + 1 → m < M → fX8_scanString_L9 N M (nI c) (nI i) s = some (.inr (nI (c + (zslp T n m i).1), nI (zslp T n m i).2, s)) := by
  intro m
  have hn := h.2.1
  have h1 := h.1
  induction m with
  | zero =>
    intro i M c hi hi2 hM
    obtain ⟨M, rfl⟩ : ∃ m, M = m + 1 := ⟨M - 1, by omega⟩
    show fX8_scanString_L9S N (fX8_scanString_L9 N M) (nI c) (nI i) s = _
    unfold fX8_scanString_L9S
    rw [h1, if_pos (nI_le (by omega) (by omega))]
    rfl
  | succ m ih =>
    intro i M c hi hi2 hM
    obtain ⟨M, rfl⟩ : ∃ m, M = m + 1 := ⟨M - 1, by omega⟩
    show fX8_scanString_L9S N (fX8_scanString_L9 N M) (nI c) (nI i) s = _
    unfold fX8_scanString_L9S zslp
    rw [h1]
    by_cases ci : i < n
    · rw [if_neg (nI_ge ci (by omega)), show (34 : Int32) = nI 34 from rfl, e8_code h i 34 (by omega) (Or.inl rfl), zbn_s]
      have hm := cI_m (c := zcode T n 34 i) (fun v hv => by have := zcode_lt hv; omega)
      cases hc : zcode T n 34 i with
      | none =>
        rw [if_pos (show cI none = (-1) from rfl), if_pos (show (none : Option Nat) = none from rfl)]
        rfl
      | some v =>
        rw [hc] at hm
        have h3 := (zcode_lt hc).2.2
        rw [if_neg (show ¬ cI (some v) = (-1) from fun z => by cases hm.mp z), if_neg (show ¬ (some v) = none from fun z => by cases z), e8_wid h i (by omega), zbn_s, nI_1, nI_add, ih _ M (c + 1) (by have : 1 ≤ zwid T n i := (by unfold zwid; split <;> omega); omega) (by omega) (by omega)]
        rw [show c + 1 + (zslp T n m (i + zwid T n i)).1 = c + ((zslp T n m (i + zwid T n i)).1 + 1) by omega]
    · rw [if_pos (nI_le (by omega) (by omega)), if_pos (zcode_out (by omega))]
      rfl
theorem zslp_le {T : Nat → Nat} {n : Nat} : ∀ m i, i ≤ n + 1 → (zslp T n m i).2 ≤ n + 1 ∧ i ≤ (zslp T n m i).2 ∧ (zslp T n m i).1 + i ≤ (zslp T n m i).2 := by
  intro m
  induction m with
  | zero => intro i hi; unfold zslp; omega
  | succ m ih =>
    intro i hi
    unfold zslp
    cases hc : zcode T n 34 i with
    | none => rw [if_pos rfl]; omega
    | some v =>
      rw [if_neg (fun z => by cases z)]
      have h3 := (zcode_lt hc).2.2
      have h4 : 1 ≤ zwid T n i := by unfold zwid; split <;> omega
      have := ih (i + zwid T n i) (by omega)
      show (zslp T n m (i + zwid T n i)).2 ≤ n + 1 ∧ i ≤ (zslp T n m (i + zwid T n i)).2 ∧ (zslp T n m (i + zwid T n i)).1 + 1 + i ≤ (zslp T n m (i + zwid T n i)).2
      omega
theorem s8_str {N n k : Nat} {T : Nat → Nat} {s : zS} (h : zTx 5 403 T n s) (hN : 3000 ≤ N) (hk : k < n) (e : s.1 404 = nI k) : zp (fX8_scanString N s) (zR8 s (zstr T n k)) := by
  have hn := h.2.1
  unfold fX8_scanString
  rw [e, nI_1, show (0 : Int32) = nI 0 from rfl, l8_str h (n - k) (k + 1) N 0 (by omega) (by omega) (by omega), zbl_r]
  show zp (fX8_scanString_J42 N _ _ s) _
  have hle := zslp_le (T := T) (n := n) (n - k) (k + 1) (by omega)
  unfold fX8_scanString_J42 zstr
  rw [Nat.zero_add, nI_1]
  refine zp_bne (e8_at h _ (by omega)) ?_
  by_cases c : zB T n (zslp T n (n - k) (k + 1)).2 = 34
  · rw [if_pos c]
    exact zp_pos ((bI_eq 34 (zB_lt h _) (by omega)).mpr c) (zp_some ⟨rfl, zeq_trans (zeq_c (by decide)) (zeq_c (by decide)), fun _ => zsc_at, (zsc_ne (by decide)).trans zsc_at⟩)
  · rw [if_neg c]
    exact zp_neg (fun z => c ((bI_eq 34 (zB_lt h _) (by omega)).mp z)) (z_bad8 (zeq_refl _ _ _))
theorem s8_sgn {N n k : Nat} {T : Nat → Nat} {s : zS} (h : zTx 5 403 T n s) (hk : k < n) (e : s.1 404 = nI k) (h0 : s.1 405 = 0) : zp (fX8_scanSign N (bI (T k)) s) (zR8 s (zsgn T n k)) := by
  have hn := h.2.1
  have hT := (h.2.2 k hk).1
  have b0 : ∀ c, c < 256 → (bI (T k) = nI c ↔ T k = c) := fun c hc => bI_eq c (by omega) hc
  have h50 : ¬ ((T k = 60 ∨ T k = 62) ∧ zB T n (k + 1) = T k) → zp (fX8_scanSign_J50 N (bI (T k)) s) (zR8 s (zsgn T n k)) := by
    intro g
    unfold fX8_scanSign_J50 zsgn
    rw [if_neg g]
    refine zp_bne (eX8_kindOfSign N _ s) ?_
    have hz : ∀ b, b < 257 → zkos b ≤ 24 := by decide +kernel
    have hz1 := hz (T k) (by omega)
    rw [b8_kos _ (by omega)]
    by_cases c : zkos (T k) = 24
    · rw [if_pos c]
      exact zp_pos (by rw [c]; rfl) (z_bad8 (zeq_refl _ _ _))
    · rw [if_neg c, e, nI_1]
      exact zp_neg (fun z => c ((nI_eq (b := 24) (by omega) (by decide)).mp z)) (zp_some ⟨rfl, zeq_c (by decide), fun _ => zsc_at, (zsc_ne (by decide)).trans h0⟩)
  have h12 : (T k = 60 ∨ T k = 62) → zp (fX8_scanSign_J12 N (bI (T k)) s) (zR8 s (zsgn T n k)) := by
    intro g
    unfold fX8_scanSign_J12
    have a2 : nI k + 2 = nI (k + 2) := nI_add k 2
    rw [e, nI_1]
    refine zp_bne (e8_at h (k + 1) (by omega)) ?_
    have hq : bI (zB T n (k + 1)) = bI (T k) ↔ zB T n (k + 1) = T k := by
      have h9 : bI (T k) = nI (T k) := if_pos hT
      rw [h9]
      exact bI_eq _ (zB_lt h _) hT
    by_cases c : zB T n (k + 1) = T k
    · refine zp_pos (hq.mpr c) ?_
      unfold zsgn
      rw [if_pos (show (T k = 60 ∨ T k = 62) ∧ zB T n (k + 1) = T k from ⟨g, c⟩), e, a2]
      by_cases c6 : T k = 60
      · rw [if_pos c6]
        exact zp_pos ((b0 60 (by omega)).mpr c6) (zp_some ⟨rfl, zeq_c (by decide), fun _ => zsc_at, (zsc_ne (by decide)).trans h0⟩)
      · rw [if_neg c6]
        exact zp_neg (fun z => c6 ((b0 60 (by omega)).mp z)) (zp_some ⟨rfl, zeq_c (by decide), fun _ => zsc_at, (zsc_ne (by decide)).trans h0⟩)
    · exact zp_neg (fun z => c (hq.mp z)) (h50 (fun z => c z.2))
  unfold fX8_scanSign
  by_cases c1 : T k = 60
  · exact zp_pos ((b0 60 (by omega)).mpr c1) (h12 (Or.inl c1))
  refine zp_neg (fun z => c1 ((b0 60 (by omega)).mp z)) ?_
  by_cases c2 : T k = 62
  · exact zp_pos ((b0 62 (by omega)).mpr c2) (h12 (Or.inr c2))
  exact zp_neg (fun z => c2 ((b0 62 (by omega)).mp z)) (h50 (fun z => z.1.elim c1 c2))
def zcm (b : Nat) : Bool := decide (32 ≤ b ∧ b ≤ 126 ∨ b = 9)
theorem l8_com {N n : Nat} {T : Nat → Nat} : ∀ m k M s, k + m = n → m < M → zTx 5 403 T n s → s.1 404 = nI k → zp (fX8_scanComment_L0 N M s) (fun q => ∃ t, q = .inr t ∧ zeq [404] [] s t ∧ t.1 404 = nI (zrun zcm T m k)) := by
  intro m
  induction m with
  | zero =>
    intro k M s hk hM h e
    have hn := h.2.1
    obtain ⟨M, rfl⟩ : ∃ m, M = m + 1 := ⟨M - 1, by omega⟩
    show zp (fX8_scanComment_L0S N (fX8_scanComment_L0 N M) s) _
    unfold fX8_scanComment_L0S
    rw [e, h.1]
    exact zp_pos (nI_le (by omega) (by omega)) (zp_some ⟨s, rfl, zeq_refl _ _ _, e⟩)
  | succ m ih =>
    intro k M s hk hM h e
    have hn := h.2.1
    have hT := (h.2.2 k (by omega)).1
    obtain ⟨M, rfl⟩ : ∃ m, M = m + 1 := ⟨M - 1, by omega⟩
    show zp (fX8_scanComment_L0S N (fX8_scanComment_L0 N M) s) _
    have g50 : zcm (T k) = true → zp (fX8_scanComment_J50 N (fX8_scanComment_L0 N M) s) (fun q => ∃ t, q = .inr t ∧ zeq [404] [] s t ∧ t.1 404 = nI (zrun zcm T (m + 1) k)) := by
      intro c
      unfold fX8_scanComment_J50 zrun
      rw [if_pos c, e, nI_1]
      have hz : zeq [404] [] s (zsc s 404 (nI (k + 1))) := zeq_c (by decide)
      refine zp_mono (ih (k + 1) M _ (by omega) (by omega) (zTx_keep h hz (by decide) List.not_mem_nil) zsc_at) (fun q hq => ?_)
      obtain ⟨t, h1, h2, h3⟩ := hq
      exact ⟨t, h1, zeq_trans hz h2, h3⟩
    have hat : fX8_byteAt N (nI k) s = some (nI (T k), s) := by
      rw [e8_at h k (by omega), zB_in (by omega)]
      unfold bI
      rw [if_pos hT]
    have g37 : ¬ (32 ≤ T k ∧ T k ≤ 126) → zp (fX8_scanComment_J37 N (fX8_scanComment_L0 N M) s) (fun q => ∃ t, q = .inr t ∧ zeq [404] [] s t ∧ t.1 404 = nI (zrun zcm T (m + 1) k)) := by
      intro c
      unfold fX8_scanComment_J37
      rw [e]
      refine zp_bne hat ?_
      by_cases c9 : T k = 9
      · exact zp_pos (show nI (T k) = nI 9 by rw [c9]) (g50 (by unfold zcm; rw [decide_eq_true]; exact Or.inr c9))
      · refine zp_neg (fun z => c9 ((nI_eq (b := 9) (by omega) (by decide)).mp z)) (zp_some ⟨s, rfl, zeq_refl _ _ _, ?_⟩)
        unfold zrun
        rw [if_neg (by unfold zcm; simp; omega)]
        exact e
    unfold fX8_scanComment_L0S
    rw [e, h.1]
    refine zp_neg (nI_ge (by omega) (by omega)) (zp_bne hat ?_)
    by_cases c1 : T k < 32
    · exact zp_pos (show nI (T k) < nI 32 from nI_lt c1 (by decide)) (g37 (by omega))
    refine zp_neg (show ¬ nI (T k) < nI 32 from nI_nlt (by omega) (by omega)) ?_
    rw [e]
    refine zp_bne hat ?_
    by_cases c2 : T k ≤ 126
    · exact zp_pos (show nI (T k) ≤ nI 126 from nI_le c2 (by decide)) (g50 (by unfold zcm; rw [decide_eq_true]; exact Or.inl ⟨by omega, c2⟩))
    · exact zp_neg (show ¬ nI (T k) ≤ nI 126 from nI_ge (by omega) (by omega)) (g37 (by omega))
def zone (T : Nat → Nat) (n k : Nat) : Nat × Int32 × Nat := if T k = 32 ∨ T k = 9 then (25, 0, k + 1) else if T k = 10 then (0, 0, k + 1) else if T k = 35 then (25, 0, zrun zcm T (n - k) k) else ztok T n k
theorem s8_one {N n k : Nat} {T : Nat → Nat} {s : zS} (h : zTx 5 403 T n s) (hN : 3000 ≤ N) (hk : k < n) (e : s.1 404 = nI k) (h0 : s.1 405 = 0) : zp (fX8_scanOne N s) (zR8 s (zone T n k)) := by
  have hn := h.2.1
  have hT := (h.2.2 k hk).1
  have b0 : ∀ c, c < 256 → (bI (T k) = nI c ↔ T k = c) := fun c hc => bI_eq c (by omega) hc
  unfold fX8_scanOne zone
  rw [e]
  refine zp_bne (e8_at h k (by omega)) ?_
  rw [zB_in hk, e, nI_1]
  by_cases c1 : T k = 32
  · rw [if_pos (show T k = 32 ∨ T k = 9 from Or.inl c1)]
    exact zp_pos ((b0 32 (by omega)).mpr c1) (zp_some ⟨rfl, zeq_c (by decide), fun _ => zsc_at, (zsc_ne (by decide)).trans h0⟩)
  refine zp_neg (fun z => c1 ((b0 32 (by omega)).mp z)) ?_
  by_cases c2 : T k = 9
  · rw [if_pos (show T k = 32 ∨ T k = 9 from Or.inr c2)]
    exact zp_pos ((b0 9 (by omega)).mpr c2) (zp_some ⟨rfl, zeq_c (by decide), fun _ => zsc_at, (zsc_ne (by decide)).trans h0⟩)
  refine zp_neg (fun z => c2 ((b0 9 (by omega)).mp z)) ?_
  rw [if_neg (show ¬ (T k = 32 ∨ T k = 9) by omega)]
  by_cases c3 : T k = 10
  · rw [if_pos c3]
    exact zp_pos ((b0 10 (by omega)).mpr c3) (zp_some ⟨rfl, zeq_c (by decide), fun _ => zsc_at, (zsc_ne (by decide)).trans h0⟩)
  refine zp_neg (fun z => c3 ((b0 10 (by omega)).mp z)) ?_
  rw [if_neg c3]
  by_cases c4 : T k = 35
  · rw [if_pos c4]
    refine zp_pos ((b0 35 (by omega)).mpr c4) ?_
    unfold fX8_scanComment
    refine zp_bn (zp_blr (fun t => zeq [404] [] s t ∧ t.1 404 = nI (zrun zcm T (n - k) k)) (zp_mono (l8_com (n - k) k N s (by omega) (by omega) h e) (fun q hq => ?_)) (fun t ht => ?_))
    · obtain ⟨t, q1, q2, q3⟩ := hq
      exact ⟨t, q1, q2, q3⟩
    · exact zp_some (zp_some ⟨rfl, zeq_mono ht.1 (by decide) (by decide), fun _ => ht.2, (ht.1.1 405 (by decide)).trans h0⟩)
  refine zp_neg (fun z => c4 ((b0 35 (by omega)).mp z)) ?_
  rw [if_neg c4]
  unfold ztok
  refine zp_bne (eX8_isDigit N _ s) ?_
  rw [b8_dig _ (by omega)]
  by_cases c5 : zdg (T k) = true
  · rw [if_pos c5]
    exact zp_neg (fun z => by rw [zb1_0.mp z] at c5; cases c5) (zR8_id (s8_num h hN hk e c5))
  refine zp_pos (zb1_0.mpr (by simpa using c5)) (zp_bne (eX8_isNameByte N _ s) ?_)
  rw [if_neg c5, b8_nm _ (by omega)]
  have h93 : ¬ (znm (T k) = true ∧ ¬ T k = 36) → zp (fX8_scanOne_J93 N (bI (T k)) s) (zR8 s (if znm (T k) = true ∧ ¬ T k = 36 then znam T n k else if T k = 39 then zchr T n k else if T k = 34 then zstr T n k else zsgn T n k)) := by
    intro g
    rw [if_neg g]
    unfold fX8_scanOne_J93
    by_cases d1 : T k = 39
    · rw [if_pos d1]
      exact zp_pos ((b0 39 (by omega)).mpr d1) (zR8_id (s8_chr h hk e))
    rw [if_neg d1]
    refine zp_neg (fun z => d1 ((b0 39 (by omega)).mp z)) ?_
    by_cases d2 : T k = 34
    · rw [if_pos d2]
      exact zp_pos ((b0 34 (by omega)).mpr d2) (zR8_id (s8_str h hN hk e))
    rw [if_neg d2]
    exact zp_neg (fun z => d2 ((b0 34 (by omega)).mp z)) (zR8_id (s8_sgn h hk e h0))
  by_cases c6 : znm (T k) = true
  · refine zp_neg (fun z => by rw [zb1_0.mp z] at c6; cases c6) ?_
    by_cases c7 : T k = 36
    · exact zp_pos ((b0 36 (by omega)).mpr c7) (h93 (fun z => z.2 c7))
    · rw [if_pos (show znm (T k) = true ∧ ¬ T k = 36 from ⟨c6, c7⟩)]
      refine zp_neg (fun z => c7 ((b0 36 (by omega)).mp z)) (zR8_id (s8_name h hN hk e ?_))
      unfold znm at c6
      have := of_decide_eq_true c6
      omega
  · exact zp_pos (zb1_0.mpr (by simpa using c6)) (h93 (fun z => c6 z.1))
