def zMs (kd : Nat) : Nat := if kd = 0 then 0 else if kd = 1 ∨ kd = 2 then 1 else if kd = 3 then 7 else if kd = 4 ∨ kd = 5 then 2 else if kd = 6 then 3 else if kd = 7 then 4 else if kd = 24 then 6 else 5
def zsg (kd : Nat) : Nat := if kd = 8 then 44 else if kd = 9 then 40 else if kd = 10 then 41 else if kd = 12 then 43 else if kd = 13 then 45 else if kd = 14 then 42 else if kd = 15 then 47 else if kd = 16 then 37 else if kd = 17 then 300 else if kd = 18 then 301 else if kd = 19 then 38 else if kd = 20 then 94 else if kd = 21 then 124 else if kd = 22 then 58 else if kd = 23 then 126 else 0
def zpo (T : Nat → Nat) (n i : Nat) : Nat → Nat
  | 0 => i
  | j + 1 => zpo T n i j + zwid T n (zpo T n i j)
theorem zpo_s (T : Nat → Nat) (n i : Nat) : ∀ j, zpo T n i (j + 1) = zpo T n (i + zwid T n i) j
  | 0 => rfl
  | j + 1 => by
    have h := zpo_s T n i j
    show zpo T n i (j + 1) + zwid T n (zpo T n i (j + 1)) = zpo T n (i + zwid T n i) j + zwid T n (zpo T n (i + zwid T n i) j)
    rw [h]
def zMW (T : Nat → Nat) (n : Nat) (w : Nat × Int32 × Nat × Nat) (t : zS) : Prop := t.1 3315 = nI (zMs w.1) ∧ t.1 3317 = nI w.2.2.1 ∧ (w.1 ≠ 24 → t.1 3318 = nI (if w.1 = 0 then w.2.2.1 else w.2.2.2)) ∧ (w.1 = 4 ∨ w.1 = 5 ∨ w.1 = 6 ∨ w.1 = 24 → t.1 3316 = w.2.1) ∧ (8 ≤ w.1 → w.1 ≤ 23 → t.1 3316 = nI (zsg w.1)) ∧ (w.1 = 7 → ∃ c : Nat, c ≤ n ∧ w.2.1 = nI c ∧ t.1 3311 = nI c ∧ ∀ j, j < c → t.2.1 48 j = cI (zcode T n 34 (zpo T n (w.2.2.1 + 1) j)))
theorem zMW_i {T : Nat → Nat} {n p e : Nat} {v : Int32} {t : zS} (kd : Nat) (h1 : t.1 3315 = nI (zMs kd)) (h2 : t.1 3317 = nI p) (h3 : kd ≠ 24 → t.1 3318 = nI (if kd = 0 then p else e)) (h4 : kd = 4 ∨ kd = 5 ∨ kd = 6 ∨ kd = 24 → t.1 3316 = v) (h5 : 8 ≤ kd → kd ≤ 23 → t.1 3316 = nI (zsg kd)) (h6 : kd = 7 → ∃ c : Nat, c ≤ n ∧ v = nI c ∧ t.1 3311 = nI c ∧ ∀ j, j < c → t.2.1 48 j = cI (zcode T n 34 (zpo T n (p + 1) j))) : zMW T n (kd, v, p, e) t := ⟨h1, h2, h3, h4, h5, h6⟩
def zR10 (T : Nat → Nat) (n : Nat) (s : zS) (w : Nat × Int32 × Nat × Nat) (q : Unit × zS) : Prop := zeq [3311, 3315, 3316, 3317, 3318] [48] s q.2 ∧ zMW T n w q.2
abbrev z4 (k : Nat) (w : Nat × Int32 × Nat) : Nat × Int32 × Nat × Nat := (w.1, w.2.1, k, w.2.2)
theorem zR10_id {T : Nat → Nat} {n : Nat} {s t : zS} {o : Option (Unit × zS)} {w : Nat × Int32 × Nat × Nat} (h : zp o (zR10 T n s w)) : zp (zbn o (fun _ t => some ((), t))) (zR10 T n s w) := zp_bn (zp_mono h (fun q hq => zp_some hq))
theorem zlg_lt {x y : Int64} : lg_cmp x y < 0 ↔ x < y := by
  unfold lg_cmp
  by_cases c : x > y
  · rw [if_pos c]
    exact ⟨fun h => absurd h (by decide), fun h => absurd h (Int64.lt_asymm c)⟩
  · rw [if_neg c]
    by_cases e : x = y
    · rw [if_pos e]
      exact ⟨fun h => absurd h (by decide), fun h => absurd h (by rw [e]; exact Int64.lt_irrefl)⟩
    · rw [if_neg e]
      refine ⟨fun _ => ?_, fun _ => by decide⟩
      rcases Int64.lt_or_le x y with h | h
      · exact h
      · exact absurd (Int64.le_antisymm (Int64.not_lt.mp c) h) e
theorem zlg_ge {x y : Int64} : 0 ≤ lg_cmp x y ↔ ¬ x < y := by
  rw [← zlg_lt]
  exact ⟨fun h => Int32.not_lt.mpr h, fun h => Int32.not_lt.mp h⟩
theorem z_bad10 {N n k : Nat} {T : Nat → Nat} {s t : zS} {x v : Int32} (hx : x = v) (hz : zeq [3311, 3315, 3316, 3317, 3318] [48] s t) : ∃ t', fX10_bad N x (nI k) t = some ((), t') ∧ zR10 T n s (24, v, k, 0) ((), t') ∧ t'.1 3315 = 6 ∧ t'.1 3318 = t.1 3318 := by
  subst hx
  refine ⟨_, rfl, ⟨zeq_trans hz (zeq_trans (zeq_c (by decide)) (zeq_trans (zeq_c (by decide)) (zeq_c (by decide)))), zMW_i 24 ((zsc_ne (by decide)).trans ((zsc_ne (by decide)).trans zsc_at)) zsc_at (fun h => absurd rfl h) (fun _ => (zsc_ne (by decide)).trans zsc_at) (fun _ h => absurd h (by decide)) (fun h => by cases h)⟩, (zsc_ne (by decide)).trans ((zsc_ne (by decide)).trans zsc_at), (zsc_ne (by decide)).trans ((zsc_ne (by decide)).trans (zsc_ne (by decide)))⟩
theorem l10_name {N n : Nat} {T : Nat → Nat} : ∀ m k M s, k + m = n → m < M → zTx 35 3303 T n s → s.1 3318 = nI k → zp (fX10_nameWord_L0 N M s) (fun q => ∃ t, q = .inr t ∧ zeq [3318] [] s t ∧ t.1 3318 = nI (zrun znm T m k)) := by
  intro m
  induction m with
  | zero =>
    intro k M s hk hM h e
    have hn := h.2.1
    obtain ⟨M, rfl⟩ : ∃ m, M = m + 1 := ⟨M - 1, by omega⟩
    show zp (fX10_nameWord_L0S N (fX10_nameWord_L0 N M) s) _
    unfold fX10_nameWord_L0S
    rw [e, h.1]
    exact zp_pos (nI_le (by omega) (by omega)) (zp_some ⟨s, rfl, zeq_refl _ _ _, e⟩)
  | succ m ih =>
    intro k M s hk hM h e
    have hn := h.2.1
    have hT := h.2.2 k (by omega)
    obtain ⟨M, rfl⟩ : ∃ m, M = m + 1 := ⟨M - 1, by omega⟩
    show zp (fX10_nameWord_L0S N (fX10_nameWord_L0 N M) s) _
    unfold fX10_nameWord_L0S zrun
    rw [e, h.1, nI_clamp (by omega), hT.2]
    refine zp_neg (nI_ge (by omega) (by omega)) (zp_pos (zga_n (show k < 3000 by omega) (by decide)) (zp_bne (eX10_isInName N _ s) ?_))
    have hb := b10_nm (T k) (by omega)
    unfold bM at hb
    rw [if_pos hT.1] at hb
    rw [hb]
    by_cases c : znm (T k) = true
    · rw [if_pos c]
      refine zp_neg (fun z => by rw [zb1_0.mp z] at c; cases c) ?_
      rw [e, nI_1]
      have hz : zeq [3318] [] s (zsc s 3318 (nI (k + 1))) := zeq_c (by decide)
      refine zp_mono (ih (k + 1) M _ (by omega) (by omega) (zTx_keep h hz (by decide) List.not_mem_nil) zsc_at) (fun q hq => ?_)
      obtain ⟨t, h1, h2, h3⟩ := hq
      exact ⟨t, h1, zeq_trans hz h2, h3⟩
    · rw [if_neg c]
      exact zp_pos (zb1_0.mpr (by simpa using c)) (zp_some ⟨s, rfl, zeq_refl _ _ _, e⟩)
theorem s10_name {N n k : Nat} {T : Nat → Nat} {s : zS} (h : zTx 35 3303 T n s) (hN : 3000 ≤ N) (hk : k < n) (e : s.1 3318 = nI k) (ef : s.1 3317 = nI k) : zp (fX10_nameWord N s) (zR10 T n s (z4 k (znam T n k))) := by
  have hn := h.2.1
  have hT := h.2.2 k hk
  unfold fX10_nameWord
  refine zp_blr (fun t => zeq [3318] [] s t ∧ t.1 3318 = nI (zrun znm T (n - k) k)) (zp_mono (l10_name (n - k) k N s (by omega) (by omega) h e) (fun q hq => ?_)) (fun t ht => ?_)
  · obtain ⟨t, h1, h2, h3⟩ := hq
    exact ⟨t, h1, h2, h3⟩
  obtain ⟨hz, ht⟩ := ht
  have hle := zrun_le znm T (n - k) k
  have hf : t.1 3317 = nI k := (hz.1 3317 (by decide)).trans ef
  have hz2 : zeq [3311, 3315, 3316, 3317, 3318] [48] s t := zeq_mono hz (by decide) (by decide)
  have h35 : t.2.1 35 k = nI (T k) := by rw [hz.2.1 35 List.not_mem_nil]; exact hT.2
  unfold fX10_nameWord_J39 znam
  obtain ⟨E, hE⟩ : ∃ E, E = zrun znm T (n - k) k := ⟨_, rfl⟩
  rw [← hE] at ht hle ⊢
  rw [ht, hf, pk_sub hle.1, nI_clamp (by omega), h35]
  have g72 : ¬ (E - k = 1 ∧ T k = 46) → zp (fX10_nameWord_J72 N t) (zR10 T n s (z4 k (if 16 < E - k then (24, 2, 0) else if E - k = 1 ∧ T k = 46 then (3, 0, E) else ((if zreg T k (E - k) = (-1) then 1 else 2), nI (E - k), E)))) := by
    intro g
    unfold fX10_nameWord_J72
    rw [ht, hf, pk_sub hle.1]
    by_cases c16 : 16 < E - k
    · rw [if_pos c16]
      refine zp_neg (show ¬ nI (E - k) ≤ nI 16 from nI_ge c16 (by omega)) ?_
      obtain ⟨t', q1, q2, -⟩ := z_bad10 (N := N) (T := T) (n := n) (k := k) (v := 2) rfl (zeq_trans hz2 (zeq_c (k := 3315) (x := 1) (by decide)))
      exact zp_bne q1 (zp_some q2)
    · rw [if_neg c16, if_neg g]
      refine zp_pos (show nI (E - k) ≤ nI 16 from nI_le (by omega) (by decide)) (zp_some ⟨zeq_trans hz2 (zeq_c (by decide)), ?_⟩)
      by_cases cr : zreg T k (E - k) = (-1)
      · rw [if_pos cr]
        exact zMW_i 1 zsc_at ((zsc_ne (by decide)).trans hf) (fun _ => (zsc_ne (by decide)).trans ht) (fun h => absurd h (by decide)) (fun h => absurd h (by decide)) (fun h => absurd h (by decide))
      · rw [if_neg cr]
        exact zMW_i 2 zsc_at ((zsc_ne (by decide)).trans hf) (fun _ => (zsc_ne (by decide)).trans ht) (fun h => absurd h (by decide)) (fun h => absurd h (by decide)) (fun h => absurd h (by decide))
  by_cases c1 : E - k = 1
  · refine zp_pos (show nI (E - k) = nI 1 by rw [c1]) (zp_pos (zga_n (show k < 3000 by omega) (by decide)) ?_)
    by_cases c46 : T k = 46
    · refine zp_pos (show nI (T k) = nI 46 by rw [c46]) (zp_pos (show nI (E - k) ≤ nI 16 from nI_le (by omega) (by decide)) (zp_some ⟨zeq_trans hz2 (zeq_c (by decide)), ?_⟩))
      rw [if_neg (show ¬ 16 < E - k by omega), if_pos (show E - k = 1 ∧ T k = 46 from ⟨c1, c46⟩)]
      exact zMW_i 3 zsc_at ((zsc_ne (by decide)).trans hf) (fun _ => (zsc_ne (by decide)).trans ht) (fun h => absurd h (by decide)) (fun h => absurd h (by decide)) (fun h => absurd h (by decide))
    · exact zp_neg (fun z => c46 ((nI_eq (b := 46) (by omega) (by decide)).mp z)) (g72 (fun z => c46 z.2))
  · exact zp_neg (fun z => c1 ((nI_eq (b := 1) (by omega) (by decide)).mp z)) (g72 (fun z => c1 z.1))
