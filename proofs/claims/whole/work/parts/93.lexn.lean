def zvv (val X : Nat) : Prop := (X = val ∧ val < 4294967296) ∨ (4294967296 ≤ val ∧ 4294967296 ≤ X ∧ X < 2 ^ 38)
set_option maxHeartbeats 200000 in
theorem l10_digs {N n b fr : Nat} {T : Nat → Nat} (hb : b ≤ 16) (hb2 : 2 ≤ b) : ∀ m k M s X, k + m = n → fr ≤ k → m < M → zTx 35 3303 T n s → s.1 3318 = nI k → zvv (zdval b T fr (k - fr)) X → zp (fX10_numberWord_L212 N M (nI b) (lN X) s) (fun q => ∃ t X', q = .inr (nI b, lN X', t) ∧ zeq [3318] [] s t ∧ t.1 3318 = nI (zrun (fun x => decide (zdv x < b)) T m k) ∧ zvv (zdval b T fr (zrun (fun x => decide (zdv x < b)) T m k - fr)) X') := by
  have hcd : ∀ c, c ≤ 16 → (nI b ≤ nI (if c = 16 then 99 else c) ↔ ¬ c < b) := by
    intro c hc
    rw [nI_leI (by omega) (by split <;> omega)]
    split <;> omega
  intro m
  induction m with
  | zero =>
    intro k M s X hk hf hM h e hX
    have hn := h.2.1
    obtain ⟨M, rfl⟩ : ∃ m, M = m + 1 := ⟨M - 1, by omega⟩
    show zp (fX10_numberWord_L212S N (fX10_numberWord_L212 N M) (nI b) (lN X) s) _
    unfold fX10_numberWord_L212S
    rw [e]
    refine zp_bne (e10_at h k (by omega)) (zp_bne (eX10_digitOf N _ s) ?_)
    rw [b10_dv _ (zB_lt h k)]
    have hz : zdv (zB T n k) = 16 := by
      unfold zB
      rw [if_neg (by omega)]
      rfl
    exact zp_pos ((hcd _ (by omega)).mpr (by omega)) (zp_some ⟨s, X, rfl, zeq_refl _ _ _, e, hX⟩)
  | succ m ih =>
    intro k M s X hk hf hM h e hX
    have hn := h.2.1
    obtain ⟨M, rfl⟩ : ∃ m, M = m + 1 := ⟨M - 1, by omega⟩
    show zp (fX10_numberWord_L212S N (fX10_numberWord_L212 N M) (nI b) (lN X) s) _
    unfold fX10_numberWord_L212S zrun
    rw [e]
    have hB := zB_lt h k
    have hd := zdv_le _ hB
    refine zp_bne (e10_at h k (by omega)) (zp_bne (eX10_digitOf N _ s) ?_)
    rw [b10_dv _ hB]
    rw [zB_in (by omega)] at hd hB ⊢
    have e1 : zdval b T fr (k + 1 - fr) = zdval b T fr (k - fr) * b + zdv (T k) := by
      rw [show k + 1 - fr = (k - fr) + 1 by omega]
      show zdval b T fr (k - fr) * b + zdv (T (fr + (k - fr))) = _
      rw [show fr + (k - fr) = k by omega]
    by_cases c : zdv (T k) < b
    · rw [if_pos (show decide (zdv (T k) < b) = true from decide_eq_true c)]
      refine zp_neg (fun z => (hcd _ hd).mp z c) ?_
      have hz : zeq [3318] [] s (zsc s 3318 (nI (k + 1))) := zeq_c (by decide)
      have fin : ∀ X', zvv (zdval b T fr (k + 1 - fr)) X' → zp (fX10_numberWord_L212 N M (nI b) (lN X') (zsc s 3318 (nI (k + 1)))) (fun q => ∃ t X', q = .inr (nI b, lN X', t) ∧ zeq [3318] [] s t ∧ t.1 3318 = nI (zrun (fun x => decide (zdv x < b)) T m (k + 1)) ∧ zvv (zdval b T fr (zrun (fun x => decide (zdv x < b)) T m (k + 1) - fr)) X') := by
        intro X' hX'
        refine zp_mono (ih (k + 1) M _ X' (by omega) (by omega) (by omega) (zTx_keep h hz (by decide) List.not_mem_nil) zsc_at hX') (fun q hq => ?_)
        obtain ⟨t, X2, h1, h2, h3, h4⟩ := hq
        exact ⟨t, X2, h1, zeq_trans hz h2, h3, h4⟩
      have hXl : X < 2 ^ 38 := by
        rcases hX with ⟨q1, q2⟩ | ⟨q1, q2, q3⟩ <;> omega
      have hlt : lN X < (4294967296 : Int64) ↔ X < 4294967296 := pk_lLT (b := 4294967296) (by omega) (by decide)
      by_cases c2 : X < 4294967296
      · refine zp_pos (zlg_lt.mpr (hlt.mpr c2)) (zp_bne (by rw [e]; exact e10_at h k (by omega)) (zp_bne (eX10_digitOf N _ s) ?_))
        rw [b10_dv _ (zB_lt h k), zB_in (by omega), if_neg (show ¬ zdv (T k) = 16 by omega), e, nI_1, nI_l (by omega), nI_l (by omega), lN_mul, lN_add]
        refine fin _ ?_
        rcases hX with ⟨q1, q2⟩ | ⟨q1, q2, q3⟩
        · rw [e1, Nat.mul_comm b, ← q1]
          unfold zvv
          have : X * b ≤ 4294967296 * 16 := Nat.mul_le_mul (by omega) hb
          omega
        · omega
      · refine zp_neg (fun z => c2 (hlt.mp (zlg_lt.mp z))) ?_
        rw [e, nI_1]
        refine fin _ ?_
        rcases hX with ⟨q1, q2⟩ | ⟨q1, q2, q3⟩
        · omega
        · refine Or.inr ⟨?_, q2, q3⟩
          rw [e1]
          have : zdval b T fr (k - fr) * 1 ≤ zdval b T fr (k - fr) * b := Nat.mul_le_mul_left _ (by omega)
          omega
    · rw [if_neg (show ¬ decide (zdv (T k) < b) = true by simpa using c)]
      exact zp_pos ((hcd _ hd).mpr c) (zp_some ⟨s, X, rfl, zeq_refl _ _ _, e, hX⟩)
set_option maxHeartbeats 200000 in
theorem s10_digs {N n b k fr : Nat} {T : Nat → Nat} {s s0 : zS} {p0 p1 : Int32} (hb : b = 2 ∨ b = 10 ∨ b = 16) (h : zTx 35 3303 T n s) (hN : 3000 ≤ N) (hk : k ≤ fr) (hf : fr ≤ n) (ef : s.1 3317 = nI k) (hz0 : zeq [3311, 3315, 3316, 3317, 3318] [48] s0 s) (h0 : p0 = nI b) (h1 : p1 = nI fr) (hfr : fr = k + 2 ∨ fr = k) (h16 : b = 16 ↔ fr = k + 2 ∧ ¬ b = 2) (hne : ¬ b = 16 → fr < n ∧ zdv (T fr) < b) : zp (fX10_numberWord_J207 N p0 p1 s) (zR10 T n s0 (z4 k (zdigs T n b k fr))) := by
  subst h0
  subst h1
  have hn := h.2.1
  unfold fX10_numberWord_J207
  have hz : zeq [3318] [] s (zsc s 3318 (nI fr)) := zeq_c (by decide)
  have hl := l10_digs (N := N) (fr := fr) (T := T) (b := b) (by omega) (by omega) (n - fr) fr N (zsc s 3318 (nI fr)) 0 (by omega) (Nat.le_refl _) (by omega) (zTx_keep h hz (by decide) List.not_mem_nil) zsc_at (Or.inl ⟨by rw [Nat.sub_self]; rfl, by rw [Nat.sub_self]; show 0 < 4294967296; omega⟩)
  have hl' : zp (fX10_numberWord_L212 N N (nI b) 0 (zsc s 3318 (nI fr))) _ := hl
  refine zp_bl (zp_mono hl' (fun q hq => ?_))
  obtain ⟨t, X, rfl, g1, g2, g3⟩ := hq
  have hle := zrun_le (fun x => decide (zdv x < b)) T (n - fr) fr
  have hrun : ¬ b = 16 → zrun (fun x => decide (zdv x < b)) T (n - fr) fr ≠ fr := by
    intro q
    obtain ⟨q1, q2⟩ := hne q
    rw [show n - fr = (n - (fr + 1)) + 1 by omega]
    show (if decide (zdv (T fr) < b) = true then zrun (fun x => decide (zdv x < b)) T (n - (fr + 1)) (fr + 1) else _) ≠ fr
    rw [if_pos (decide_eq_true q2)]
    have := zrun_le (fun x => decide (zdv x < b)) T (n - (fr + 1)) (fr + 1)
    omega
  unfold zdigs
  obtain ⟨E, hE⟩ : ∃ E, E = zrun (fun x => decide (zdv x < b)) T (n - fr) fr := ⟨_, rfl⟩
  rw [← hE] at g2 g3 hle hrun ⊢
  obtain ⟨V, hV⟩ : ∃ V, V = zdval b T fr (E - fr) := ⟨_, rfl⟩
  rw [← hV] at g3 ⊢
  show zp (if 0 ≤ lg_cmp (lN X) 4294967296 then zbn (fX10_bad N 3 (t.1 3317) (zsc (zsc t 3315 2) 3316 (lN X).toInt32)) (fun x24 s25 => some ((), s25)) else if nI b = 16 then if t.1 3318 = t.1 3317 + 2 then zbn (fX10_bad N 3 (t.1 3317) (zsc (zsc t 3315 2) 3316 (lN X).toInt32)) (fun x27 s28 => some ((), s28)) else some ((), zsc (zsc t 3315 2) 3316 (lN X).toInt32) else some ((), zsc (zsc t 3315 2) 3316 (lN X).toInt32)) _
  have ht : t.1 3317 = nI k := (g1.1 3317 (by decide)).trans ((zsc_ne (by decide)).trans ef)
  have a2 : nI k + 2 = nI (k + 2) := nI_add k 2
  rw [g2, ht, a2]
  have hXl : X < 2 ^ 38 := by
    rcases g3 with ⟨q1, q2⟩ | ⟨q1, q2, q3⟩ <;> omega
  have hlt : lN X < (4294967296 : Int64) ↔ X < 4294967296 := pk_lLT (b := 4294967296) (by omega) (by decide)
  have zz : zeq [3311, 3315, 3316, 3317, 3318] [48] s0 (zsc (zsc t 3315 2) 3316 (lN X).toInt32) := zeq_trans hz0 (zeq_trans (zeq_mono (zeq_trans hz g1) (by decide) (by decide)) (zeq_trans (zeq_c (by decide)) (zeq_c (by decide))))
  obtain ⟨t', q1, q2, -⟩ := z_bad10 (N := N) (T := T) (n := n) (k := k) (x := 3) (v := 3) rfl zz
  by_cases c1 : 4294967296 ≤ V
  · rw [if_pos (show E = fr ∨ 4294967296 ≤ V from Or.inr c1)]
    have hX : ¬ X < 4294967296 := by
      rcases g3 with ⟨w1, w2⟩ | ⟨w1, w2, w3⟩ <;> omega
    exact zp_pos (zlg_ge.mpr (fun z => hX (hlt.mp z))) (zp_bne q1 (zp_some q2))
  have hX : X = V := by
    rcases g3 with ⟨w1, w2⟩ | ⟨w1, w2, w3⟩ <;> omega
  subst hX
  refine zp_neg (fun z => zlg_ge.mp z (hlt.mpr (by omega))) ?_
  have good : ¬ E = fr → zp (some ((), zsc (zsc t 3315 2) 3316 (lN X).toInt32)) (zR10 T n s0 (z4 k (if E = fr ∨ 4294967296 ≤ X then (24, 3, 0) else ((if E - k = 1 then 4 else 5), nI X, E)))) := by
    intro g
    rw [if_neg (show ¬ (E = fr ∨ 4294967296 ≤ X) by omega)]
    refine zp_some ⟨zz, ?_⟩
    have m1 : (zsc (zsc t 3315 2) 3316 (lN X).toInt32).1 3315 = nI 2 := (zsc_ne (by decide)).trans zsc_at
    have m2 : (zsc (zsc t 3315 2) 3316 (lN X).toInt32).1 3317 = nI k := (zsc_ne (by decide)).trans ((zsc_ne (by decide)).trans ht)
    have m3 : (zsc (zsc t 3315 2) 3316 (lN X).toInt32).1 3318 = nI E := (zsc_ne (by decide)).trans ((zsc_ne (by decide)).trans g2)
    have m4 : (zsc (zsc t 3315 2) 3316 (lN X).toInt32).1 3316 = nI X := zsc_at.trans (lN_i X)
    by_cases c : E - k = 1
    · rw [if_pos c]
      exact zMW_i 4 m1 m2 (fun _ => m3) (fun _ => m4) (fun h => absurd h (by decide)) (fun h => absurd h (by decide))
    · rw [if_neg c]
      exact zMW_i 5 m1 m2 (fun _ => m3) (fun _ => m4) (fun h => absurd h (by decide)) (fun h => absurd h (by decide))
  by_cases c16 : b = 16
  · refine zp_pos (show nI b = nI 16 by rw [c16]) ?_
    have hfr2 : fr = k + 2 := (h16.mp c16).1
    rw [← hfr2]
    by_cases cE : E = fr
    · rw [if_pos (show E = fr ∨ 4294967296 ≤ X from Or.inl cE)]
      exact zp_pos (by rw [cE]) (zp_bne q1 (zp_some q2))
    · exact zp_neg (fun z => cE ((nI_eq (by omega) (by omega)).mp z)) (good cE)
  · exact zp_neg (fun z => c16 ((nI_eq (b := 16) (by omega) (by decide)).mp z)) (good (hrun c16))
set_option maxHeartbeats 200000 in
theorem zdv_d : ∀ b, b < 257 → (zdv b < 2 ↔ b = 48 ∨ b = 49) ∧ (zdg b = true → zdv b < 10) := by decide +kernel
set_option maxHeartbeats 200000 in
theorem s10_num {N n k : Nat} {T : Nat → Nat} {s : zS} (h : zTx 35 3303 T n s) (hN : 3000 ≤ N) (hk : k < n) (ef : s.1 3317 = nI k) (hd : zdg (T k) = true) : zp (fX10_numberWord N s) (zR10 T n s (z4 k (znum T n k))) := by
  have hn := h.2.1
  have hT := h.2.2 k hk
  have hdd : 48 ≤ T k ∧ T k ≤ 57 := by unfold zdg at hd; exact of_decide_eq_true hd
  have b1 : ∀ c, c < 256 → c ≠ 10 → (bM (zB T n (k + 1)) = nI c ↔ zB T n (k + 1) = c) := fun c hc h10 => bM_eq c (zB_lt h _) hc h10
  have b2 : ∀ c, c < 256 → c ≠ 10 → (bM (zB T n (k + 2)) = nI c ↔ zB T n (k + 2) = c) := fun c hc h10 => bM_eq c (zB_lt h _) hc h10
  have b0 : ∀ c, c < 256 → (nI (T k) = nI c ↔ T k = c) := fun c hc => nI_eq (by omega) (by omega)
  have x1 : ∀ c, c ≠ 256 → zB T n (k + 1) = c → k + 2 ≤ n := fun c hc hz => by
    unfold zB at hz
    split at hz <;> omega
  have z0 : zeq [3311, 3315, 3316, 3317, 3318] [48] s s := zeq_refl _ _ _
  have a2 : nI k + 2 = nI (k + 2) := nI_add k 2
  have g0 : zga (nI k) (zlen 35) = true := zga_l (by rfl) (show k < 3000 by omega) (by decide)
  have hat1 : fX10_at N (nI (k + 1)) s = some (bM (zB T n (k + 1)), s) := e10_at h (k + 1) (by omega)
  have hat2 : fX10_at N (nI (k + 2)) s = some (bM (zB T n (k + 2)), s) := e10_at h (k + 2) (by omega)
  have h10 : ¬ (T k = 48 ∧ zB T n (k + 1) = 120) → ¬ (T k = 48 ∧ zB T n (k + 1) = 98 ∧ zdv (zB T n (k + 2)) < 2) → ¬ ((zB T n (k + 1) = 98 ∨ zB T n (k + 1) = 102) ∧ znm (zB T n (k + 2)) = false) → zp (fX10_numberWord_J187 N 10 s) (zR10 T n s (z4 k (znum T n k))) := by
    intro g1 g2 g3
    unfold fX10_numberWord_J187 znum
    rw [if_neg g1, if_neg g2, if_neg g3, ef]
    exact zp_pos rfl (s10_digs (b := 10) (by omega) h hN (Nat.le_refl _) (by omega) ef z0 rfl rfl (Or.inr rfl) (by omega) (fun _ => ⟨hk, (zdv_d _ (by omega)).2 hd⟩))
  have g96 : ¬ (T k = 48 ∧ zB T n (k + 1) = 120) → ¬ (T k = 48 ∧ zB T n (k + 1) = 98 ∧ zdv (zB T n (k + 2)) < 2) → zp (fX10_numberWord_J96 N 10 s) (zR10 T n s (z4 k (znum T n k))) := by
    intro g1 g2
    have g125 : (zB T n (k + 1) = 98 ∨ zB T n (k + 1) = 102) → zp (fX10_numberWord_J125 N 10 (bM (zB T n (k + 1))) s) (zR10 T n s (z4 k (znum T n k))) := by
      intro g3
      unfold fX10_numberWord_J125
      rw [ef, a2]
      refine zp_bne hat2 (zp_bne (eX10_isInName N _ s) ?_)
      rw [b10_nm _ (zB_lt h (k + 2)), ef, nI_clamp (by omega), hT.2, a2]
      by_cases c : znm (zB T n (k + 2)) = false
      · refine zp_pos (zb1_0.mpr c) (zp_pos g0 ?_)
        unfold znum
        rw [if_neg g1, if_neg g2, if_pos (show (zB T n (k + 1) = 98 ∨ zB T n (k + 1) = 102) ∧ znm (zB T n (k + 2)) = false from ⟨g3, c⟩)]
        by_cases c102 : zB T n (k + 1) = 102
        · rw [if_pos c102]
          refine zp_pos ((b1 102 (by omega) (by omega)).mpr c102) (zp_some ⟨zeq_trans (zeq_c (by decide)) (zeq_trans (zeq_c (by decide)) (zeq_c (by decide))), zMW_i 6 ((zsc_ne (by decide)).trans ((zsc_ne (by decide)).trans zsc_at)) ((zsc_ne (by decide)).trans ((zsc_ne (by decide)).trans ((zsc_ne (by decide)).trans ef))) (fun _ => zsc_at) (fun _ => (zsc_ne (by decide)).trans (zsc_at.trans ?_)) (fun h => absurd h (by decide)) (fun h => absurd h (by decide))⟩)
          show nI 2 * (nI (T k) - nI 48) + nI 1 = _
          rw [pk_sub (by omega), pk_mul, nI_add]
        · rw [if_neg c102]
          refine zp_neg (fun z => c102 ((b1 102 (by omega) (by omega)).mp z)) (zp_some ⟨zeq_trans (zeq_c (by decide)) (zeq_trans (zeq_c (by decide)) (zeq_c (by decide))), zMW_i 6 ((zsc_ne (by decide)).trans ((zsc_ne (by decide)).trans zsc_at)) ((zsc_ne (by decide)).trans ((zsc_ne (by decide)).trans ((zsc_ne (by decide)).trans ef))) (fun _ => zsc_at) (fun _ => (zsc_ne (by decide)).trans (zsc_at.trans ?_)) (fun h => absurd h (by decide)) (fun h => absurd h (by decide))⟩)
          show nI 2 * (nI (T k) - nI 48) + nI 0 = _
          rw [pk_sub (by omega), pk_mul, nI_add]
      · exact zp_neg (fun z => c (zb1_0.mp z)) (h10 g1 g2 (fun z => c z.2))
    unfold fX10_numberWord_J96
    rw [ef, nI_1]
    refine zp_bne hat1 (zp_pos rfl ?_)
    by_cases c1 : zB T n (k + 1) = 98
    · exact zp_pos ((b1 98 (by omega) (by omega)).mpr c1) (g125 (Or.inl c1))
    refine zp_neg (fun z => c1 ((b1 98 (by omega) (by omega)).mp z)) ?_
    by_cases c2 : zB T n (k + 1) = 102
    · exact zp_pos ((b1 102 (by omega) (by omega)).mpr c2) (g125 (Or.inr c2))
    exact zp_neg (fun z => c2 ((b1 102 (by omega) (by omega)).mp z)) (h10 g1 g2 (fun z => z.1.elim c1 c2))
  have g35 : ¬ (T k = 48 ∧ zB T n (k + 1) = 120) → zp (fX10_numberWord_J35 N 10 s) (zR10 T n s (z4 k (znum T n k))) := by
    intro g1
    unfold fX10_numberWord_J35
    rw [ef, nI_clamp (by omega), hT.2, nI_1]
    refine zp_pos g0 ?_
    by_cases c1 : T k = 48
    · refine zp_pos ((b0 48 (by omega)).mpr c1) (zp_bne hat1 ?_)
      by_cases c2 : zB T n (k + 1) = 98
      · refine zp_pos ((b1 98 (by omega) (by omega)).mpr c2) ?_
        rw [ef, a2]
        refine zp_bne hat2 ?_
        have h94 : zdv (zB T n (k + 2)) < 2 → zp (fX10_numberWord_J94 N s) (zR10 T n s (z4 k (znum T n k))) := by
          intro c3
          have hk2 : k + 2 < n := by
            have h9 := (zdv_d _ (zB_lt h (k + 2))).1.mp c3
            unfold zB at h9
            split at h9
            · assumption
            · omega
          unfold fX10_numberWord_J94 fX10_numberWord_J96
          rw [ef, nI_1]
          refine zp_bne hat1 (zp_neg (by decide) ?_)
          unfold fX10_numberWord_J187 znum
          rw [if_neg g1, if_pos (show T k = 48 ∧ zB T n (k + 1) = 98 ∧ zdv (zB T n (k + 2)) < 2 from ⟨c1, c2, c3⟩), ef, a2]
          exact zp_neg (by decide) (s10_digs (b := 2) (by omega) h hN (by omega) (by omega) ef z0 rfl rfl (Or.inl rfl) (by omega) (fun _ => ⟨hk2, by rw [← zB_in (T := T) hk2]; exact c3⟩))
        by_cases c48 : zB T n (k + 2) = 48
        · exact zp_pos ((b2 48 (by omega) (by omega)).mpr c48) (h94 ((zdv_d _ (zB_lt h _)).1.mpr (Or.inl c48)))
        refine zp_neg (fun z => c48 ((b2 48 (by omega) (by omega)).mp z)) ?_
        rw [ef, a2]
        refine zp_bne hat2 ?_
        by_cases c49 : zB T n (k + 2) = 49
        · exact zp_pos ((b2 49 (by omega) (by omega)).mpr c49) (h94 ((zdv_d _ (zB_lt h _)).1.mpr (Or.inr c49)))
        · exact zp_neg (fun z => c49 ((b2 49 (by omega) (by omega)).mp z)) (g96 g1 (fun z => ((zdv_d _ (zB_lt h _)).1.mp z.2.2).elim c48 c49))
      · exact zp_neg (fun z => c2 ((b1 98 (by omega) (by omega)).mp z)) (g96 g1 (fun z => c2 z.2.1))
    · exact zp_neg (fun z => c1 ((b0 48 (by omega)).mp z)) (g96 g1 (fun z => c1 z.1))
  unfold fX10_numberWord
  rw [ef, nI_clamp (by omega), hT.2, nI_1]
  refine zp_pos g0 ?_
  by_cases c1 : T k = 48
  · refine zp_pos ((b0 48 (by omega)).mpr c1) (zp_bne hat1 ?_)
    by_cases c2 : zB T n (k + 1) = 120
    · refine zp_pos ((b1 120 (by omega) (by omega)).mpr c2) ?_
      unfold fX10_numberWord_J35
      rw [ef, nI_clamp (by omega), hT.2, nI_1]
      refine zp_pos g0 (zp_pos ((b0 48 (by omega)).mpr c1) (zp_bne hat1 (zp_neg (fun z => by have := (b1 98 (by omega) (by omega)).mp z; omega) ?_)))
      unfold fX10_numberWord_J96
      rw [ef, nI_1]
      refine zp_bne hat1 (zp_neg (by decide) ?_)
      unfold fX10_numberWord_J187 znum
      rw [if_pos (show T k = 48 ∧ zB T n (k + 1) = 120 from ⟨c1, c2⟩), ef, a2]
      exact zp_neg (by decide) (s10_digs (b := 16) (by omega) h hN (by omega) (x1 120 (by omega) c2) ef z0 rfl rfl (Or.inl rfl) (by omega) (fun q => absurd rfl q))
    · exact zp_neg (fun z => c2 ((b1 120 (by omega) (by omega)).mp z)) (g35 (fun z => c2 z.2))
  · exact zp_neg (fun z => c1 ((b0 48 (by omega)).mp z)) (g35 (fun z => c1 z.1))
