def vins (x4 : Int32) : Int32 := if x4 = 110 then 10 else if x4 = 116 then 9 else if x4 = 48 then 0 else if x4 = 92 then x4 else if x4 = 39 then x4 else if x4 = 34 then x4 else (-1)
set_option maxHeartbeats 200000 in
theorem b10_esc : ∀ b, b < 256 → vins (nI b) = cI (zesc b) := by decide +kernel
set_option maxHeartbeats 200000 in
theorem b10_cod : ∀ b, b < 256 → ∀ a, a = 34 ∨ a = 39 → (if nI b < 32 then (-1 : Int32) else if 127 ≤ nI b then (-1) else if nI b = nI a then (-1) else nI b) = cI (if b < 32 ∨ 126 < b ∨ b = a then none else some b) := by
  have h34 : ∀ b, b < 256 → (if nI b < 32 then (-1 : Int32) else if 127 ≤ nI b then (-1) else if nI b = nI 34 then (-1) else nI b) = cI (if b < 32 ∨ 126 < b ∨ b = 34 then none else some b) := by decide +kernel
  have h39 : ∀ b, b < 256 → (if nI b < 32 then (-1 : Int32) else if 127 ≤ nI b then (-1) else if nI b = nI 39 then (-1) else nI b) = cI (if b < 32 ∨ 126 < b ∨ b = 39 then none else some b) := by decide +kernel
  intro b hb a ha
  rcases ha with rfl | rfl
  · exact h34 b hb
  · exact h39 b hb
set_option maxHeartbeats 200000 in
theorem e10_ins {N n i a : Nat} {T : Nat → Nat} {s : zS} (h : zTx 35 3303 T n s) (hi : i < 2 ^ 29) (ha : a = 34 ∨ a = 39) : fX10_inside N (nI i) (nI a) s = some (cI (zcode T n a i), zsc s 3318 (nI (i + zwid T n i))) ∨ ∃ x, fX10_inside N (nI i) (nI a) s = some (cI (zcode T n a i), zsc (zsc s 3318 x) 3318 (nI (i + zwid T n i))) := by
  have hn := h.2.1
  unfold fX10_inside
  rw [e10_at h i (by omega), zbn_s, h.1, nI_1]
  have a2 : nI i + 2 = nI (i + 2) := nI_add i 2
  rw [a2]
  by_cases c : i < n
  · have hT := h.2.2 i c
    have hbm : bM (zB T n i) = nI (T i) := by
      rw [zB_in c]
      unfold bM
      rw [if_pos hT.1]
    rw [if_pos (nI_lt c (by omega)), hbm]
    unfold zcode zwid
    rw [zB_in c]
    by_cases c92 : T i = 92
    · right
      refine ⟨nI (i + 1), ?_⟩
      have hx1 : zTx 35 3303 T n (zsc s 3318 (nI (i + 1))) := zTx_keep h (zeq_c (K := [3318]) (A := []) (by decide)) (by decide) List.not_mem_nil
      rw [if_pos (show nI (T i) = (92 : Int32) by rw [c92]; rfl), e10_at hx1 (i + 1) (by omega), zbn_s, if_pos c92, if_pos c92, hx1.1]
      by_cases c1 : i + 1 < n
      · have hT1 := h.2.2 (i + 1) c1
        have hbm1 : bM (zB T n (i + 1)) = nI (T (i + 1)) := by
          rw [zB_in c1]
          unfold bM
          rw [if_pos hT1.1]
        rw [if_pos (nI_lt c1 (by omega)), hbm1, zB_in c1, ← b10_esc _ hT1.1]
        unfold vins
        repeat' (first | refine q_ite (fun _ => ?_) (fun _ => ?_) | rfl)
      · rw [if_neg (nI_nlt (by omega) (by omega))]
        unfold zB
        rw [if_neg c1]
        rfl
    · left
      rw [if_neg (show ¬ nI (T i) = (92 : Int32) from fun z => c92 ((nI_eq (b := 92) (by omega) (by decide)).mp z)), if_neg c92, if_neg c92, ← b10_cod _ hT.1 a ha]
      repeat' (first | refine q_ite (fun _ => ?_) (fun _ => ?_) | rfl)
  · left
    rw [if_neg (nI_nlt (by omega) (by omega)), zcode_out (by omega)]
    unfold zwid zB
    rw [if_neg c]
    rfl
set_option maxHeartbeats 200000 in
theorem s10_ins {N n i a : Nat} {T : Nat → Nat} {s : zS} (h : zTx 35 3303 T n s) (hi : i < 2 ^ 29) (ha : a = 34 ∨ a = 39) : ∃ t, fX10_inside N (nI i) (nI a) s = some (cI (zcode T n a i), t) ∧ zeq [3318] [] s t ∧ t.1 3318 = nI (i + zwid T n i) := by
  rcases e10_ins (N := N) h hi ha with h1 | ⟨x, h1⟩
  · exact ⟨_, h1, zeq_c (by decide), zsc_at⟩
  · exact ⟨_, h1, zeq_trans (zeq_c (by decide)) (zeq_c (by decide)), zsc_at⟩
set_option maxHeartbeats 200000 in
theorem s10_chr {N n k : Nat} {T : Nat → Nat} {s : zS} (h : zTx 35 3303 T n s) (hk : k < n) (ef : s.1 3317 = nI k) : zp (fX10_character N s) (zR10 T n s (z4 k (zchr T n k))) := by
  have hn := h.2.1
  obtain ⟨t, t1, t2, t3⟩ := s10_ins (N := N) (i := k + 1) (a := 39) h (by omega) (Or.inr rfl)
  have tz : zeq [3311, 3315, 3316, 3317, 3318] [48] s t := zeq_mono t2 (by decide) (by decide)
  have hx := zTx_keep h t2 (by decide) List.not_mem_nil
  have hw : zwid T n (k + 1) ≤ 2 := by unfold zwid; split <;> omega
  unfold fX10_character
  rw [ef, nI_1, show (39 : Int32) = nI 39 from rfl, t1, zbn_s, t3, hx.1]
  have bad : ∀ x, zp (fX10_character_J58 N (nI k) (zsc (zsc t 3315 2) 3316 x)) (zR10 T n s (24, 4, k, 0)) := by
    intro x
    unfold fX10_character_J58
    obtain ⟨t', q1, q2, q3, q4⟩ := z_bad10 (N := N) (T := T) (n := n) (k := k) (x := 4) (v := 4) rfl (zeq_trans tz (zeq_trans (zeq_c (k := 3315) (x := 2) (by decide)) (zeq_c (k := 3316) (x := x) (by decide))))
    refine zp_bne q1 (zp_neg (by rw [q3]; decide) (zp_some ⟨zeq_trans q2.1 (zeq_c (by decide)), ?_⟩))
    exact zMW_i 24 ((zsc_ne (by decide)).trans q2.2.1) ((zsc_ne (by decide)).trans q2.2.2.1) (fun h => absurd rfl h) (fun _ => (zsc_ne (by decide)).trans (q2.2.2.2.2.1 (by simp))) (fun _ h => absurd h (by decide)) (fun h => by cases h)
  have hm := cI_m (c := zcode T n 39 (k + 1)) (fun v hv => by have := zcode_lt hv; omega)
  unfold zchr
  cases hc : zcode T n 39 (k + 1) with
  | none =>
    rw [hc] at hm
    exact zp_pos (hm.mpr rfl) (bad _)
  | some v =>
    rw [hc] at hm
    refine zp_neg (fun z => by cases hm.mp z) ?_
    show zp _ (zR10 T n s (z4 k (if zB T n (k + 1 + zwid T n (k + 1)) = 39 then (5, nI v, k + 1 + zwid T n (k + 1) + 1) else (24, 4, 0))))
    by_cases c : k + 1 + zwid T n (k + 1) < n
    · have hT := hx.2.2 _ c
      rw [nI_clamp (by omega), hT.2]
      refine zp_neg (nI_ge c (by omega)) (zp_pos (zga_n (show k + 1 + zwid T n (k + 1) < 3000 by omega) (by decide)) ?_)
      rw [zB_in c]
      by_cases c9 : T (k + 1 + zwid T n (k + 1)) = 39
      · rw [if_pos c9, nI_1]
        refine zp_pos (show nI _ = nI 39 by rw [c9]) (zp_some ⟨zeq_trans tz (zeq_trans (zeq_c (by decide)) (zeq_trans (zeq_c (by decide)) (zeq_trans (zeq_c (by decide)) (zeq_c (by decide))))), ?_⟩)
        exact zMW_i 5 ((zsc_ne (by decide)).trans ((zsc_ne (by decide)).trans ((zsc_ne (by decide)).trans zsc_at))) zsc_at (fun _ => (zsc_ne (by decide)).trans zsc_at) (fun _ => (zsc_ne (by decide)).trans ((zsc_ne (by decide)).trans zsc_at)) (fun h => absurd h (by decide)) (fun h => absurd h (by decide))
      · rw [if_neg c9]
        exact zp_neg (fun z => c9 ((nI_eq (b := 39) (by omega) (by decide)).mp z)) (bad _)
    · have hb : ¬ zB T n (k + 1 + zwid T n (k + 1)) = 39 := by
        unfold zB
        rw [if_neg c]
        decide
      rw [if_neg hb]
      exact zp_pos (nI_le (by omega) (by omega)) (bad _)
set_option maxHeartbeats 200000 in
theorem l10_str {N n k : Nat} {T : Nat → Nat} : ∀ m i M c s, n ≤ i + m → i ≤ n + 1 → c + m ≤ n + 1 → m + 1 < M → zTx 35 3303 T n s → s.1 3315 = 4 → s.1 3311 = nI c → s.1 3317 = nI k → zp (fX10_stringWord_L22 N M (nI k) (nI i) s) (fun q => ∃ e t, q = .inr (nI e, t) ∧ e ≤ n + 2 ∧ zeq [3311, 3315, 3316, 3317, 3318] [48] s t ∧ ((zB T n (zslp T n m i).2 = 34 ∧ e = (zslp T n m i).2 ∧ t.1 3315 = 4 ∧ t.1 3317 = nI k ∧ t.1 3311 = nI (c + (zslp T n m i).1) ∧ (∀ j, j < c → t.2.1 48 j = s.2.1 48 j) ∧ ∀ j, j < (zslp T n m i).1 → t.2.1 48 (c + j) = cI (zcode T n 34 (zpo T n i j))) ∨ (¬ zB T n (zslp T n m i).2 = 34 ∧ t.1 3315 = 6 ∧ t.1 3316 = 4 ∧ t.1 3317 = nI k))) := by
  intro m
  have h34 : ∀ i, zB T n i = 34 → zcode T n 34 i = none := by
    intro i hi
    unfold zcode
    rw [if_neg (by omega), if_pos (by omega)]
  have bads : ∀ i M c s, i ≤ n + 1 → c ≤ n + 1 → 0 < M → zTx 35 3303 T n s → s.1 3315 = 4 → s.1 3311 = nI c → zcode T n 34 i = none → ¬ zB T n i = 34 → zp (fX10_stringWord_L22 N (M + 1) (nI k) (nI i) s) (fun q => ∃ e t, q = .inr (nI e, t) ∧ e ≤ n + 2 ∧ zeq [3311, 3315, 3316, 3317, 3318] [48] s t ∧ t.1 3315 = 6 ∧ t.1 3316 = 4 ∧ t.1 3317 = nI k) := by
    intro i M c s hi hc hM h h4 h11 hcode hb
    have hn := h.2.1
    obtain ⟨M, rfl⟩ : ∃ m, M = m + 1 := ⟨M - 1, by omega⟩
    show zp (fX10_stringWord_L22S N (fX10_stringWord_L22 N (M + 1)) (nI k) (nI i) s) _
    unfold fX10_stringWord_L22S
    refine zp_pos h4 (zp_bne (e10_at h i (by omega)) (zp_neg (fun z => hb ((bM_eq 34 (zB_lt h _) (by omega) (by omega)).mp z)) ?_))
    obtain ⟨t, t1, t2, t3⟩ := s10_ins (N := N) (i := i) (a := 34) h (by omega) (Or.inl rfl)
    rw [hcode] at t1
    refine zp_bne t1 (zp_pos rfl ?_)
    have tz : zeq [3311, 3315, 3316, 3317, 3318] [48] s t := zeq_mono t2 (by decide) (by decide)
    obtain ⟨t', q1, q2, q3, q4⟩ := z_bad10 (N := N) (T := T) (n := n) (k := k) (x := 4) (v := 4) rfl tz
    refine zp_bne q1 ?_
    unfold fX10_stringWord_J59
    have e11 : t'.1 3311 = nI c := by
      have hq : t' = zsc (zsc (zsc t 3315 6) 3316 4) 3317 (nI k) := (congrArg Prod.snd (Option.some.inj q1)).symm
      rw [hq]
      exact (zsc_ne (by decide)).trans ((zsc_ne (by decide)).trans ((zsc_ne (by decide)).trans ((t2.1 3311 (by decide)).trans h11)))
    rw [e11]
    refine zp_pos (zga_n (show c < 3001 by omega) (by decide)) ?_
    show zp (fX10_stringWord_L22S N (fX10_stringWord_L22 N M) (nI k) (t'.1 3318) _) _
    unfold fX10_stringWord_L22S
    rw [q4, t3]
    have hw : zwid T n i ≤ 2 := by unfold zwid; split <;> omega
    have hi2 : i + zwid T n i ≤ n + 2 := by
      by_cases c9 : i < n
      · omega
      · have : zwid T n i = 1 := by
          unfold zwid zB
          rw [if_neg c9]
          rfl
        omega
    refine zp_neg (by
      show ¬ (zsc (zsr t' 48 (nI c) (cI none)) 3311 _).1 3315 = 4
      rw [zsc_ne (by decide)]
      show ¬ t'.1 3315 = 4
      rw [q3]
      decide) (zp_some ⟨_, _, rfl, hi2, zeq_trans q2.1 (zeq_trans (zeq_r (by decide)) (zeq_c (by decide))), ?_, ?_, ?_⟩)
    · exact (zsc_ne (by decide)).trans q3
    · exact (zsc_ne (by decide)).trans (q2.2.2.2.2.1 (by simp))
    · exact (zsc_ne (by decide)).trans q2.2.2.1
  induction m with
  | zero =>
    intro i M c s hi hi2 hcm hM h h4 h11 h17
    obtain ⟨M, rfl⟩ : ∃ m, M = m + 1 := ⟨M - 1, by omega⟩
    have hb : ¬ zB T n i = 34 := by
      unfold zB
      rw [if_neg (by omega)]
      decide
    refine zp_mono (bads i M c s hi2 (by omega) (by omega) h h4 h11 (zcode_out (by omega)) hb) (fun q hq => ?_)
    obtain ⟨e, t, q1, q2, q3, q4, q5, q6⟩ := hq
    exact ⟨e, t, q1, q2, q3, Or.inr ⟨hb, q4, q5, q6⟩⟩
  | succ m ih =>
    intro i M c s hi hi2 hcm hM h h4 h11 h17
    have hn := h.2.1
    obtain ⟨M, rfl⟩ : ∃ m, M = m + 1 := ⟨M - 1, by omega⟩
    cases hc : zcode T n 34 i with
    | none =>
      have ez : zslp T n (m + 1) i = (0, i) := by
        unfold zslp
        rw [if_pos hc]
      rw [ez]
      by_cases hb : zB T n i = 34
      · show zp (fX10_stringWord_L22S N (fX10_stringWord_L22 N M) (nI k) (nI i) s) _
        unfold fX10_stringWord_L22S
        refine zp_pos h4 (zp_bne (e10_at h i (by omega)) (zp_pos ((bM_eq 34 (zB_lt h _) (by omega) (by omega)).mpr hb) (zp_some ⟨i, s, rfl, by omega, zeq_refl _ _ _, Or.inl ⟨hb, rfl, h4, h17, h11, fun _ _ => rfl, fun j hj => absurd hj (Nat.not_lt_zero _)⟩⟩)))
      · refine zp_mono (bads i M c s hi2 (by omega) (by omega) h h4 h11 hc hb) (fun q hq => ?_)
        obtain ⟨e, t, q1, q2, q3, q4, q5, q6⟩ := hq
        exact ⟨e, t, q1, q2, q3, Or.inr ⟨hb, q4, q5, q6⟩⟩
    | some v =>
      have hb : ¬ zB T n i = 34 := fun z => by rw [h34 i z] at hc; cases hc
      have h3 := zcode_lt hc
      have hw : 1 ≤ zwid T n i := by unfold zwid; split <;> omega
      have ez : zslp T n (m + 1) i = ((zslp T n m (i + zwid T n i)).1 + 1, (zslp T n m (i + zwid T n i)).2) := by
        show (if zcode T n 34 i = none then (0, i) else ((zslp T n m (i + zwid T n i)).1 + 1, (zslp T n m (i + zwid T n i)).2)) = _
        rw [if_neg (by rw [hc]; intro z; cases z)]
      rw [ez]
      show zp (fX10_stringWord_L22S N (fX10_stringWord_L22 N M) (nI k) (nI i) s) _
      unfold fX10_stringWord_L22S
      refine zp_pos h4 (zp_bne (e10_at h i (by omega)) (zp_neg (fun z => hb ((bM_eq 34 (zB_lt h _) (by omega) (by omega)).mp z)) ?_))
      obtain ⟨t, t1, t2, t3⟩ := s10_ins (N := N) (i := i) (a := 34) h (by omega) (Or.inl rfl)
      rw [hc] at t1
      have hneg : ∀ v, v < 127 → ¬ nI v = (-1) := by decide +kernel
      refine zp_bne t1 (zp_neg (hneg v h3.1) ?_)
      unfold fX10_stringWord_J59
      have e11 : t.1 3311 = nI c := (t2.1 3311 (by decide)).trans h11
      rw [e11, t3, nI_1]
      refine zp_pos (zga_n (show c < 3001 by omega) (by decide)) ?_
      have z2 : zeq [3311, 3318] [48] s (zsc (zsr t 48 (nI c) (cI (some v))) 3311 (nI (c + 1))) := zeq_trans (zeq_mono t2 (by decide) (by decide)) (zeq_trans (zeq_r (by decide)) (zeq_c (by decide)))
      refine zp_mono (ih (i + zwid T n i) M (c + 1) _ (by omega) (by omega) (by omega) (by omega) (zTx_keep h z2 (by decide) (by decide)) ((z2.1 3315 (by decide)).trans h4) zsc_at ((z2.1 3317 (by decide)).trans h17)) (fun q hq => ?_)
      obtain ⟨e, u, q1, q2, q3, q4⟩ := hq
      refine ⟨e, u, q1, q2, zeq_trans (zeq_mono z2 (by decide) (by decide)) q3, ?_⟩
      rcases q4 with ⟨p1, p2, p3, p4, p5, p6, p7⟩ | q4
      · refine Or.inl ⟨p1, p2, p3, p4, ?_, fun j hj => ?_, fun j hj => ?_⟩
        · rw [p5]
          exact congrArg nI (by show c + 1 + _ = c + (_ + 1); omega)
        · rw [p6 j (by omega)]
          show (zsr t 48 (nI c) (cI (some v))).2.1 48 j = _
          rw [zsr_n (by omega) (by omega), t2.2.1 48 List.not_mem_nil]
        · cases j with
          | zero =>
            rw [Nat.add_zero, p6 c (by omega)]
            show (zsr t 48 (nI c) (cI (some v))).2.1 48 c = cI (zcode T n 34 i)
            rw [zsr_a (by omega), hc]
          | succ j =>
            rw [zpo_s, ← p7 j (by have : j + 1 < (zslp T n m (i + zwid T n i)).1 + 1 := hj; omega)]
            exact congrArg _ (by omega)
      · exact Or.inr q4
set_option maxHeartbeats 200000 in
theorem s10_str {N n k : Nat} {T : Nat → Nat} {s : zS} (h : zTx 35 3303 T n s) (hN : 3000 ≤ N) (hk : k < n) (ef : s.1 3317 = nI k) : zp (fX10_stringWord N s) (zR10 T n s (z4 k (zstr T n k))) := by
  have hn := h.2.1
  unfold fX10_stringWord
  rw [ef, nI_1]
  have z0 : zeq [3311, 3315, 3316, 3317, 3318] [48] s (zsc (zsc s 3315 4) 3311 0) := zeq_trans (zeq_c (by decide)) (zeq_c (by decide))
  refine zp_blr (fun x => ∃ e t, x = (nI e, t) ∧ zp (some ((), zsc t 3318 (nI (e + 1)))) (zR10 T n s (z4 k (zstr T n k)))) (zp_mono (l10_str (N := N) (n := n) (T := T) (k := k) (n - k) (k + 1) N 0 _ (by omega) (by omega) (by omega) (by omega) (zTx_keep h z0 (by decide) (by decide)) ((zsc_ne (by decide)).trans zsc_at) zsc_at ((zsc_ne (by decide)).trans ((zsc_ne (by decide)).trans ef))) (fun q hq => ?_)) (fun x hx => ?_)
  · obtain ⟨e, t, q1, q2, q3, q4⟩ := hq
    have hle := zslp_le (T := T) (n := n) (n - k) (k + 1) (by omega)
    refine ⟨_, q1, e, t, rfl, zp_some ⟨zeq_trans z0 (zeq_trans q3 (zeq_c (by decide))), ?_⟩⟩
    unfold zstr
    rcases q4 with ⟨p1, p2, p3, p4, p5, p6, p7⟩ | ⟨p1, p2, p3, p4⟩
    · rw [if_pos p1]
      refine zMW_i 7 ((zsc_ne (by decide)).trans p3) ((zsc_ne (by decide)).trans p4) (fun _ => zsc_at.trans (by rw [p2]; rfl)) (fun h => absurd h (by decide)) (fun h => absurd h (by decide)) (fun _ => ⟨_, ?_, rfl, (zsc_ne (by decide)).trans (p5.trans (by rw [Nat.zero_add])), fun j hj => ?_⟩)
      · omega
      · show t.2.1 48 j = _
        have h9 := p7 j hj
        rw [Nat.zero_add] at h9
        exact h9
    · rw [if_neg p1]
      exact zMW_i 24 ((zsc_ne (by decide)).trans p2) ((zsc_ne (by decide)).trans p4) (fun h => absurd rfl h) (fun _ => (zsc_ne (by decide)).trans p3) (fun _ h => absurd h (by decide)) (fun h => by cases h)
  · obtain ⟨e, t, rfl, hx⟩ := hx
    show zp (some ((), zsc t 3318 (nI e + 1))) _
    rw [nI_1]
    exact hx
set_option maxHeartbeats 200000 in
theorem s10_sgn {N n k : Nat} {T : Nat → Nat} {s : zS} (h : zTx 35 3303 T n s) (hk : k < n) (ef : s.1 3317 = nI k) : zp (fX10_signWord N (nI (T k)) s) (zR10 T n s (z4 k (zsgn T n k))) := by
  have hn := h.2.1
  have hT := (h.2.2 k hk).1
  have a2 : nI k + 2 = nI (k + 2) := nI_add k 2
  have b0 : ∀ c, c < 256 → (nI (T k) = nI c ↔ T k = c) := fun c hc => nI_eq (by omega) (by omega)
  obtain ⟨s0, hs0⟩ : ∃ s0, s0 = zsc (zsc (zsc s 3315 5) 3316 (nI (T k))) 3318 (nI (k + 1)) := ⟨_, rfl⟩
  have z0 : zeq [3311, 3315, 3316, 3317, 3318] [48] s s0 := by
    rw [hs0]
    exact zeq_trans (zeq_c (by decide)) (zeq_trans (zeq_c (by decide)) (zeq_c (by decide)))
  have f15 : s0.1 3315 = 5 := by rw [hs0]; exact (zsc_ne (by decide)).trans ((zsc_ne (by decide)).trans zsc_at)
  have f16 : s0.1 3316 = nI (T k) := by rw [hs0]; exact (zsc_ne (by decide)).trans zsc_at
  have f17 : s0.1 3317 = nI k := by rw [hs0]; exact (zsc_ne (by decide)).trans ((zsc_ne (by decide)).trans ((zsc_ne (by decide)).trans ef))
  have f18 : s0.1 3318 = nI (k + 1) := by rw [hs0]; exact zsc_at
  have hx0 : zTx 35 3303 T n s0 := zTx_keep h z0 (by decide) (by decide)
  have g32 : (T k = 60 ∨ T k = 62) → zp (fX10_signWord_J32 N (nI (T k)) s0) (zR10 T n s (z4 k (zsgn T n k))) := by
    intro g
    unfold fX10_signWord_J32
    rw [f17, nI_1]
    refine zp_bne (e10_at hx0 (k + 1) (by omega)) ?_
    have hq : bM (zB T n (k + 1)) = nI (T k) ↔ zB T n (k + 1) = T k := bM_eq _ (zB_lt h _) hT (by omega)
    unfold zsgn
    by_cases c : zB T n (k + 1) = T k
    · refine zp_pos (hq.mpr c) ?_
      rw [if_pos (show (T k = 60 ∨ T k = 62) ∧ zB T n (k + 1) = T k from ⟨g, c⟩)]
      unfold fX10_signWord_J55
      rw [f15, f17, a2]
      refine zp_neg (by decide) ?_
      by_cases c6 : T k = 60
      · rw [if_pos c6]
        exact zp_pos ((b0 60 (by omega)).mpr c6) (zp_some ⟨zeq_trans z0 (zeq_trans (zeq_c (by decide)) (zeq_c (by decide))), zMW_i 17 ((zsc_ne (by decide)).trans ((zsc_ne (by decide)).trans f15)) ((zsc_ne (by decide)).trans ((zsc_ne (by decide)).trans f17)) (fun _ => zsc_at) (fun h => absurd h (by decide)) (fun _ _ => (zsc_ne (by decide)).trans zsc_at) (fun h => absurd h (by decide))⟩)
      · rw [if_neg c6]
        exact zp_neg (fun z => c6 ((b0 60 (by omega)).mp z)) (zp_some ⟨zeq_trans z0 (zeq_trans (zeq_c (by decide)) (zeq_c (by decide))), zMW_i 18 ((zsc_ne (by decide)).trans ((zsc_ne (by decide)).trans f15)) ((zsc_ne (by decide)).trans ((zsc_ne (by decide)).trans f17)) (fun _ => zsc_at) (fun h => absurd h (by decide)) (fun _ _ => (zsc_ne (by decide)).trans zsc_at) (fun h => absurd h (by decide))⟩)
    · refine zp_neg (fun z => c (hq.mp z)) ?_
      have hk24 : zkos (T k) = 24 := by rcases g with g | g <;> rw [g] <;> rfl
      rw [if_neg (show ¬ ((T k = 60 ∨ T k = 62) ∧ zB T n (k + 1) = T k) from fun z => c z.2), if_pos hk24, f17]
      obtain ⟨t', q1, q2, q3, q4⟩ := z_bad10 (N := N) (T := T) (n := n) (k := k) (x := 1) (v := 1) rfl z0
      refine zp_bne q1 ?_
      unfold fX10_signWord_J55
      refine zp_pos q3 (zp_some ⟨zeq_trans q2.1 (zeq_trans (zeq_c (by decide)) (zeq_c (by decide))), zMW_i 24 ((zsc_ne (by decide)).trans ((zsc_ne (by decide)).trans q2.2.1)) ((zsc_ne (by decide)).trans ((zsc_ne (by decide)).trans q2.2.2.1)) (fun h => absurd rfl h) (fun _ => (zsc_ne (by decide)).trans zsc_at) (fun _ h => absurd h (by decide)) (fun h => by cases h)⟩)
  have good : ∀ c, T k = c → ¬ (c = 60 ∨ c = 62) → ¬ zkos c = 24 → zsg (zkos c) = c → 8 ≤ zkos c → zkos c ≤ 23 → zp (some ((), s0)) (zR10 T n s (z4 k (zsgn T n k))) := by
    intro c hc c0 c1 c2 c3 c4
    unfold zsgn
    rw [hc, if_neg (fun z => c0 z.1), if_neg c1]
    refine zp_some ⟨z0, zMW_i (zkos c) (f15.trans ?_) f17 (fun _ => f18.trans ?_) (fun h => by omega) (fun _ _ => f16.trans (by rw [c2, hc])) (fun h => by omega)⟩
    · unfold zMs
      rw [if_neg (by omega), if_neg (by omega), if_neg (by omega), if_neg (by omega), if_neg (by omega), if_neg (by omega), if_neg (by omega)]
      rfl
    · rw [if_neg (by omega)]
  unfold fX10_signWord
  rw [ef, nI_1, ← hs0]
  by_cases c60 : T k = 60
  · exact zp_pos ((b0 60 (by omega)).mpr c60) (g32 (Or.inl c60))
  refine zp_neg (fun z => c60 ((b0 60 (by omega)).mp z)) ?_
  by_cases c62 : T k = 62
  · exact zp_pos ((b0 62 (by omega)).mpr c62) (g32 (Or.inr c62))
  refine zp_neg (fun z => c62 ((b0 62 (by omega)).mp z)) ?_
  by_cases c44 : T k = 44
  · exact zp_pos ((b0 44 (by omega)).mpr c44) (good 44 c44 (by decide) (by decide) (by decide) (by decide) (by decide))
  refine zp_neg (fun z => c44 ((b0 44 (by omega)).mp z)) ?_
  by_cases c40 : T k = 40
  · exact zp_pos ((b0 40 (by omega)).mpr c40) (good 40 c40 (by decide) (by decide) (by decide) (by decide) (by decide))
  refine zp_neg (fun z => c40 ((b0 40 (by omega)).mp z)) ?_
  by_cases c41 : T k = 41
  · exact zp_pos ((b0 41 (by omega)).mpr c41) (good 41 c41 (by decide) (by decide) (by decide) (by decide) (by decide))
  refine zp_neg (fun z => c41 ((b0 41 (by omega)).mp z)) ?_
  by_cases c58 : T k = 58
  · exact zp_pos ((b0 58 (by omega)).mpr c58) (good 58 c58 (by decide) (by decide) (by decide) (by decide) (by decide))
  refine zp_neg (fun z => c58 ((b0 58 (by omega)).mp z)) ?_
  by_cases c43 : T k = 43
  · exact zp_pos ((b0 43 (by omega)).mpr c43) (good 43 c43 (by decide) (by decide) (by decide) (by decide) (by decide))
  refine zp_neg (fun z => c43 ((b0 43 (by omega)).mp z)) ?_
  by_cases c45 : T k = 45
  · exact zp_pos ((b0 45 (by omega)).mpr c45) (good 45 c45 (by decide) (by decide) (by decide) (by decide) (by decide))
  refine zp_neg (fun z => c45 ((b0 45 (by omega)).mp z)) ?_
  by_cases c42 : T k = 42
  · exact zp_pos ((b0 42 (by omega)).mpr c42) (good 42 c42 (by decide) (by decide) (by decide) (by decide) (by decide))
  refine zp_neg (fun z => c42 ((b0 42 (by omega)).mp z)) ?_
  by_cases c47 : T k = 47
  · exact zp_pos ((b0 47 (by omega)).mpr c47) (good 47 c47 (by decide) (by decide) (by decide) (by decide) (by decide))
  refine zp_neg (fun z => c47 ((b0 47 (by omega)).mp z)) ?_
  by_cases c37 : T k = 37
  · exact zp_pos ((b0 37 (by omega)).mpr c37) (good 37 c37 (by decide) (by decide) (by decide) (by decide) (by decide))
  refine zp_neg (fun z => c37 ((b0 37 (by omega)).mp z)) ?_
  by_cases c38 : T k = 38
  · exact zp_pos ((b0 38 (by omega)).mpr c38) (good 38 c38 (by decide) (by decide) (by decide) (by decide) (by decide))
  refine zp_neg (fun z => c38 ((b0 38 (by omega)).mp z)) ?_
  by_cases c124 : T k = 124
  · exact zp_pos ((b0 124 (by omega)).mpr c124) (good 124 c124 (by decide) (by decide) (by decide) (by decide) (by decide))
  refine zp_neg (fun z => c124 ((b0 124 (by omega)).mp z)) ?_
  by_cases c94 : T k = 94
  · exact zp_pos ((b0 94 (by omega)).mpr c94) (good 94 c94 (by decide) (by decide) (by decide) (by decide) (by decide))
  refine zp_neg (fun z => c94 ((b0 94 (by omega)).mp z)) ?_
  by_cases c126 : T k = 126
  · exact zp_pos ((b0 126 (by omega)).mpr c126) (good 126 c126 (by decide) (by decide) (by decide) (by decide) (by decide))
  refine zp_neg (fun z => c126 ((b0 126 (by omega)).mp z)) ?_
  have hk24 : zkos (T k) = 24 := by
    unfold zkos
    rw [if_neg c37, if_neg c38, if_neg c40, if_neg c41, if_neg c42, if_neg c43, if_neg c44, if_neg c45, if_neg c47, if_neg c58, if_neg c94, if_neg c124, if_neg c126]
  unfold zsgn
  rw [if_neg (show ¬ ((T k = 60 ∨ T k = 62) ∧ zB T n (k + 1) = T k) from fun z => z.1.elim c60 c62), if_pos hk24]
  obtain ⟨t', q1, q2, q3, q4⟩ := z_bad10 (N := N) (T := T) (n := n) (k := k) (x := 1) (v := 1) rfl z0
  exact zp_bne q1 (zp_some q2)
set_option maxHeartbeats 200000 in
theorem l10_blk {N n : Nat} {T : Nat → Nat} {s : zS} (h : zTx 35 3303 T n s) : ∀ m k M, k + m = n → m < M → fX10_next_L5 N M (nI k) s = some (.inr (nI (zrun zbk1 T m k), s)) := by
  intro m
  have hn := h.2.1
  have h1 := h.1
  induction m with
  | zero =>
    intro k M hk hM
    obtain ⟨M, rfl⟩ : ∃ m, M = m + 1 := ⟨M - 1, by omega⟩
    show fX10_next_L5S N (fX10_next_L5 N M) (nI k) s = _
    unfold fX10_next_L5S
    rw [h1, if_pos (nI_le (by omega) (by omega))]
    rfl
  | succ m ih =>
    intro k M hk hM
    obtain ⟨M, rfl⟩ : ∃ m, M = m + 1 := ⟨M - 1, by omega⟩
    have hT := h.2.2 k (by omega)
    show fX10_next_L5S N (fX10_next_L5 N M) (nI k) s = _
    unfold fX10_next_L5S zrun
    have zg : zga (nI k) (zlen 35) = true := zga_l (by rfl) (show k < 3000 by omega) (by decide)
    have b0 : ∀ c, c < 256 → (nI (T k) = nI c ↔ T k = c) := fun c hc => nI_eq (by omega) (by omega)
    rw [h1, if_neg (nI_ge (by omega) (by omega)), if_pos zg, nI_clamp (by omega), hT.2, nI_1, if_pos zg]
    have hd : zbk1 (T k) = true ↔ T k = 32 ∨ T k = 9 := by unfold zbk1; exact decide_eq_true_iff
    by_cases c1 : T k = 32
    · rw [if_pos (show nI (T k) = (32 : Int32) from (b0 32 (by omega)).mpr c1), if_pos (hd.mpr (Or.inl c1))]
      exact ih (k + 1) M (by omega) (by omega)
    rw [if_neg (show ¬ nI (T k) = (32 : Int32) from fun z => c1 ((b0 32 (by omega)).mp z))]
    by_cases c2 : T k = 9
    · rw [if_pos (show nI (T k) = (9 : Int32) from (b0 9 (by omega)).mpr c2), if_pos (hd.mpr (Or.inr c2))]
      exact ih (k + 1) M (by omega) (by omega)
    · rw [if_neg (show ¬ nI (T k) = (9 : Int32) from fun z => c2 ((b0 9 (by omega)).mp z)), if_neg (fun z => (hd.mp z).elim c1 c2)]
set_option maxHeartbeats 200000 in
theorem zcm_bad : ∀ b, b < 256 → zcm b = false → ¬ b = 10 → zdg b = false ∧ znm b = false ∧ ¬ b = 39 ∧ ¬ b = 34 ∧ ¬ b = 60 ∧ ¬ b = 62 ∧ zkos b = 24 := by
  have h : ∀ b, b < 256 → zcm b = true ∨ b = 10 ∨ (zdg b = false ∧ znm b = false ∧ ¬ b = 39 ∧ ¬ b = 34 ∧ ¬ b = 60 ∧ ¬ b = 62 ∧ zkos b = 24) := by decide +kernel
  intro b hb h1 h2
  rcases h b hb with h3 | h3 | h3
  · rw [h1] at h3; cases h3
  · exact absurd h3 h2
  · exact h3
set_option maxHeartbeats 200000 in
theorem l10_com {N n : Nat} {T : Nat → Nat} {s : zS} (h : zTx 35 3303 T n s) : ∀ m k M, k + m = n → m < M → ((zrun zcm T m k = n ∨ T (zrun zcm T m k) = 10) ∧ fX10_next_L60 N M (nI k) s = some (.inr (nI (zrun zcm T m k), s))) ∨ (¬ (zrun zcm T m k = n ∨ T (zrun zcm T m k) = 10) ∧ ∃ t, fX10_next_L60 N M (nI k) s = some (.inl ((), t)) ∧ zR10 T n s (24, 1, zrun zcm T m k, 0) ((), t)) := by
  intro m
  have hn := h.2.1
  have h1 := h.1
  induction m with
  | zero =>
    intro k M hk hM
    obtain ⟨M, rfl⟩ : ∃ m, M = m + 1 := ⟨M - 1, by omega⟩
    refine Or.inl ⟨Or.inl (by show k = n; omega), ?_⟩
    show fX10_next_L60S N (fX10_next_L60 N M) (nI k) s = _
    unfold fX10_next_L60S
    rw [h1, if_pos (nI_le (by omega) (by omega))]
    rfl
  | succ m ih =>
    intro k M hk hM
    obtain ⟨M, rfl⟩ : ∃ m, M = m + 1 := ⟨M - 1, by omega⟩
    have hT := h.2.2 k (by omega)
    have zg : zga (nI k) (zlen 35) = true := zga_l (by rfl) (show k < 3000 by omega) (by decide)
    have b0 : ∀ c, c < 256 → (nI (T k) = nI c ↔ T k = c) := fun c hc => nI_eq (by omega) (by omega)
    have hd : zcm (T k) = true ↔ 32 ≤ T k ∧ T k ≤ 126 ∨ T k = 9 := by unfold zcm; exact decide_eq_true_iff
    have eL : fX10_next_L60 N (M + 1) (nI k) s = if T k = 10 then some (.inr (nI k, s)) else if zcm (T k) = true then fX10_next_L60 N M (nI (k + 1)) s else zbn (fX10_bad N 1 (nI k) s) (fun _ t => some (.inl ((), t))) := by
      show fX10_next_L60S N (fX10_next_L60 N M) (nI k) s = _
      unfold fX10_next_L60S
      rw [h1, if_neg (nI_ge (by omega) (by omega)), nI_clamp (by omega), hT.2, nI_1]
      simp only [zg, ↓reduceIte]
      by_cases c10 : T k = 10
      · rw [if_pos (show nI (T k) = (10 : Int32) from (b0 10 (by omega)).mpr c10), if_pos c10]
      rw [if_neg (show ¬ nI (T k) = (10 : Int32) from fun z => c10 ((b0 10 (by omega)).mp z)), if_neg c10]
      by_cases c1 : T k < 32
      · rw [if_pos (show nI (T k) < (32 : Int32) from nI_lt (b := 32) c1 (by decide))]
        by_cases c9 : T k = 9
        · rw [if_pos (show nI (T k) = (9 : Int32) from (b0 9 (by omega)).mpr c9), if_pos (hd.mpr (Or.inr c9))]
        · rw [if_neg (show ¬ nI (T k) = (9 : Int32) from fun z => c9 ((b0 9 (by omega)).mp z)), if_neg (fun z => by have := hd.mp z; omega)]
      · rw [if_neg (show ¬ nI (T k) < (32 : Int32) from nI_nlt (b := 32) (by omega) (by omega))]
        by_cases c2 : T k ≤ 126
        · rw [if_pos (show nI (T k) ≤ (126 : Int32) from nI_le (b := 126) c2 (by decide)), if_pos (hd.mpr (Or.inl ⟨by omega, c2⟩))]
        · rw [if_neg (show ¬ nI (T k) ≤ (126 : Int32) from nI_ge (a := 126) (by omega) (by omega)), if_neg (show ¬ nI (T k) = (9 : Int32) from fun z => by have := (b0 9 (by omega)).mp z; omega), if_neg (fun z => by have := hd.mp z; omega)]
    rw [eL]
    unfold zrun
    by_cases c10 : T k = 10
    · rw [if_pos c10, if_neg (fun z => by have := hd.mp z; omega)]
      exact Or.inl ⟨Or.inr c10, rfl⟩
    rw [if_neg c10]
    by_cases cc : zcm (T k) = true
    · rw [if_pos cc, if_pos cc]
      exact ih (k + 1) M (by omega) (by omega)
    · rw [if_neg cc, if_neg cc]
      refine Or.inr ⟨by omega, ?_⟩
      obtain ⟨t', q1, q2, -⟩ := z_bad10 (N := N) (T := T) (n := n) (k := k) (x := 1) (v := 1) rfl (zeq_refl _ _ s)
      exact ⟨t', by rw [q1]; rfl, q2⟩
set_option maxHeartbeats 200000 in
theorem s10_125 {N n p : Nat} {T : Nat → Nat} {s : zS} (h : zTx 35 3303 T n s) (hN : 3000 ≤ N) (hp : p ≤ n) : zp (fX10_next_J125 N (nI p) s) (zR10 T n s (if n ≤ p then (0, 0, n, n) else if T p = 10 then (0, 0, p, p + 1) else z4 p (ztok T n p))) := by
  have hn := h.2.1
  unfold fX10_next_J125
  rw [h.1]
  have z0 : zeq [3311, 3315, 3316, 3317, 3318] [48] s (zsc (zsc s 3317 (nI p)) 3318 (nI p)) := zeq_trans (zeq_c (by decide)) (zeq_c (by decide))
  by_cases c : p < n
  · have hT := h.2.2 p c
    have b0 : ∀ c, c < 256 → (nI (T p) = nI c ↔ T p = c) := fun c hc => nI_eq (by omega) (by omega)
    have zg : zga (nI p) (zlen 35) = true := zga_l (by rfl) (show p < 3000 by omega) (by decide)
    rw [if_neg (show ¬ n ≤ p by omega), nI_clamp (by omega), hT.2]
    refine zp_neg (fun z => by have := (nI_eq (by omega) (by omega)).mp z; omega) (zp_pos zg ?_)
    by_cases c10 : T p = 10
    · rw [if_pos c10]
      exact zp_pos ((b0 10 (by omega)).mpr c10) (zp_some ⟨zeq_trans z0 (zeq_c (by decide)), zMW_i 0 zsc_at ((zsc_ne (by decide)).trans ((zsc_ne (by decide)).trans zsc_at)) (fun _ => (zsc_ne (by decide)).trans zsc_at) (fun h => absurd h (by decide)) (fun h => absurd h (by decide)) (fun h => absurd h (by decide))⟩)
    rw [if_neg c10]
    refine zp_neg (fun z => c10 ((b0 10 (by omega)).mp z)) (zp_pos zg ?_)
    obtain ⟨s0, hs0⟩ : ∃ s0, s0 = zsc (zsc s 3317 (nI p)) 3318 (nI p) := ⟨_, rfl⟩
    rw [← hs0] at z0 ⊢
    have f17 : s0.1 3317 = nI p := by rw [hs0]; exact (zsc_ne (by decide)).trans zsc_at
    have f18 : s0.1 3318 = nI p := by rw [hs0]; exact zsc_at
    have hx0 : zTx 35 3303 T n s0 := zTx_keep h z0 (by decide) (by decide)
    have lift : ∀ {o : Option (Unit × zS)} {w}, zp o (zR10 T n s0 w) → zp (zbn o (fun _ t => some ((), t))) (zR10 T n s w) := fun {o} {w} hh => zp_bn (zp_mono hh (fun q hq => zp_some ⟨zeq_trans z0 hq.1, hq.2⟩))
    unfold ztok
    refine zp_bne (eX10_isLetter N _ s0) ?_
    have hl := b10_let (T p) (by omega)
    have hdg := b10_dig (T p) (by omega)
    unfold bM at hl hdg
    rw [if_pos hT.1] at hl hdg
    rw [hl]
    by_cases cd : zdg (T p) = true
    · rw [if_pos cd]
      refine zp_pos (zb1_0.mpr (by rw [cd]; simp)) (zp_bne (eX10_isDigit N _ s0) ?_)
      rw [hdg]
      exact zp_neg (fun z => by rw [zb1_0.mp z] at cd; cases cd) (lift (s10_num hx0 hN c f17 cd))
    rw [if_neg cd]
    have cd' : zdg (T p) = false := by simpa using cd
    by_cases cn : znm (T p) = true ∧ ¬ T p = 36
    · rw [if_pos cn]
      exact zp_neg (fun z => by have := zb1_0.mp z; rw [cn.1, cd'] at this; simp at this; exact cn.2 this) (lift (s10_name hx0 hN c f18 f17))
    rw [if_neg cn]
    refine zp_pos (zb1_0.mpr ?_) (zp_bne (eX10_isDigit N _ s0) ?_)
    · cases hz : znm (T p) with
      | false => rfl
      | true =>
        have h36 : T p = 36 := by
          by_cases c36 : T p = 36
          · exact c36
          · exact absurd ⟨hz, c36⟩ cn
        rw [h36]
        rfl
    rw [hdg]
    refine zp_pos (zb1_0.mpr cd') ?_
    by_cases d1 : T p = 39
    · rw [if_pos d1]
      exact zp_pos ((b0 39 (by omega)).mpr d1) (lift (s10_chr hx0 c f17))
    rw [if_neg d1]
    refine zp_neg (fun z => d1 ((b0 39 (by omega)).mp z)) ?_
    by_cases d2 : T p = 34
    · rw [if_pos d2]
      exact zp_pos ((b0 34 (by omega)).mpr d2) (lift (s10_str hx0 hN c f17))
    rw [if_neg d2]
    exact zp_neg (fun z => d2 ((b0 34 (by omega)).mp z)) (lift (s10_sgn hx0 c f17))
  · have e : p = n := by omega
    subst e
    rw [if_pos (Nat.le_refl _)]
    exact zp_pos rfl (zp_some ⟨zeq_trans z0 (zeq_c (by decide)), zMW_i 0 zsc_at ((zsc_ne (by decide)).trans ((zsc_ne (by decide)).trans zsc_at)) (fun _ => (zsc_ne (by decide)).trans zsc_at) (fun h => absurd h (by decide)) (fun h => absurd h (by decide)) (fun h => absurd h (by decide))⟩)
set_option maxHeartbeats 200000 in
theorem s10_next {N n k : Nat} {T : Nat → Nat} {s : zS} (h : zTx 35 3303 T n s) (hN : 3000 ≤ N) (hk : k ≤ n) (e : s.1 3318 = nI k) : zp (fX10_next N s) (zR10 T n s (zwd T n k)) := by
  have hn := h.2.1
  unfold fX10_next
  rw [e, l10_blk h (n - k) k N (by omega) (by omega), zbl_r]
  show zp (fX10_next_J41 N (nI (zrun zbk1 T (n - k) k)) s) _
  have hle := zrun_le zbk1 T (n - k) k
  unfold zwd zskp
  obtain ⟨p, hp⟩ : ∃ p, p = zrun zbk1 T (n - k) k := ⟨_, rfl⟩
  rw [← hp] at hle ⊢
  unfold fX10_next_J41
  rw [h.1]
  by_cases c : p < n
  · have hT := h.2.2 p c
    rw [nI_clamp (by omega), hT.2]
    refine zp_neg (nI_ge c (by omega)) (zp_pos (zga_n (show p < 3000 by omega) (by decide)) ?_)
    by_cases c35 : T p = 35
    · rw [if_pos (show p < n ∧ T p = 35 from ⟨c, c35⟩)]
      refine zp_pos (show nI (T p) = nI 35 by rw [c35]) ?_
      have hle2 := zrun_le zcm T (n - p) p
      rcases l10_com (N := N) h (n - p) p N (by omega) (by omega) with ⟨g1, g2⟩ | ⟨g1, t, g2, g3⟩
      · rw [g2, zbl_r]
        exact s10_125 h hN (by omega)
      · rw [g2, zbl_l]
        have hst := zrun_stop zcm T (n - p) p (by omega)
        have hb := zcm_bad (T (zrun zcm T (n - p) p)) (h.2.2 _ (by omega)).1 hst (by omega)
        obtain ⟨r1, r2, r3, r4, r5, r6, r7⟩ := hb
        have et : ztok T n (zrun zcm T (n - p) p) = (24, 1, 0) := by
          unfold ztok
          rw [if_neg (by rw [r1]; decide), if_neg (by rw [r2]; simp), if_neg r3, if_neg r4]
          unfold zsgn
          rw [if_neg (fun z => z.1.elim r5 r6), if_pos r7]
        rw [if_neg (show ¬ n ≤ zrun zcm T (n - p) p by omega), if_neg (show ¬ T (zrun zcm T (n - p) p) = 10 by omega), et]
        exact zp_some g3
    · rw [if_neg (show ¬ (p < n ∧ T p = 35) from fun z => c35 z.2)]
      exact zp_neg (fun z => c35 ((nI_eq (b := 35) (by omega) (by decide)).mp z)) (s10_125 h hN (by omega))
  · rw [if_neg (show ¬ (p < n ∧ T p = 35) from fun z => c z.1)]
    exact zp_pos (nI_le (by omega) (by omega)) (s10_125 h hN (by omega))
