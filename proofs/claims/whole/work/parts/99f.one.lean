def vcan (p0 : Int32) : Int32 := if p0 = 1 then 1 else if p0 = 2 then 0 else if p0 = 3 then 1 else if p0 = 4 then 1 else if p0 = 5 then 1 else if p0 = 6 then 1 else if p0 = 7 then 0 else if p0 = 8 then 0 else if p0 = 9 then 1 else if p0 = 10 then 0 else if p0 = 11 then 0 else if p0 = 12 then 0 else if p0 = 13 then 1 else if p0 = 14 then 0 else if p0 = 15 then 0 else if p0 = 16 then 0 else if p0 = 17 then 0 else if p0 = 18 then 0 else if p0 = 19 then 0 else if p0 = 20 then 0 else if p0 = 21 then 0 else if p0 = 22 then 0 else if p0 = 23 then 1 else 0
def zcan (kd : Nat) : Bool := decide (kd = 1 ∨ kd = 3 ∨ kd = 4 ∨ kd = 5 ∨ kd = 6 ∨ kd = 9 ∨ kd = 13 ∨ kd = 23)
set_option maxHeartbeats 400000 in
theorem vcan_k : ∀ kd, kd < 25 → vcan (nI kd) = zb1 (zcan kd) := by decide +kernel
set_option maxHeartbeats 400000 in
theorem q_can {N kd : Nat} {s : zS} (hk : kd < 25) : fX3_canBeginExpression N (nI kd) s = some (zb1 (zcan kd), s) := by
  rw [← vcan_k kd hk]
  unfold fX3_canBeginExpression vcan
  repeat' (first | refine q_ite (fun _ => ?_) (fun _ => ?_) | rfl)
abbrev zRF (c : zS) (x : Int32) : zS := zsc (zsc c 309 x) 310 (c.1 305)
set_option maxHeartbeats 400000 in
theorem q_check {N kd d : Nat} {c : zS} (h4 : c.1 304 = nI kd) (hk : kd < 25) (hd : d < 100) : fX3_checkOne N (nI d) c = if kd = 2 then some (none, zRF c 6) else if zcan kd = false then some (none, zRF c 5) else if d ≤ 20 then some (some (), c) else some (none, zRF c 7) := by
  unfold fX3_checkOne
  rw [h4, q_can hk, zbn_s]
  by_cases c2 : kd = 2
  · rw [if_pos (show nI kd = 2 by rw [c2]; rfl), if_pos c2]
    rfl
  rw [if_neg (show ¬ nI kd = (2 : Int32) from fun z => c2 ((nI_eq (b := 2) (by omega) (by decide)).mp z)), if_neg c2]
  by_cases c3 : zcan kd = false
  · rw [if_pos (zb1_0.mpr c3), if_pos c3]
    rfl
  rw [if_neg (fun z => c3 (zb1_0.mp z)), if_neg c3]
  by_cases c4 : d ≤ 20
  · rw [if_pos (show nI d ≤ (20 : Int32) from nI_le (b := 20) c4 (by decide)), if_pos c4]
  · rw [if_neg (show ¬ nI d ≤ (20 : Int32) from nI_ge (a := 20) (by omega) (by omega)), if_neg c4]
    rfl
def zso2 (kd : Nat) : Nat := if kd = 1 then 1 else if kd = 3 then 3 else if kd = 6 then 2 else if kd = 13 then 10 else if kd = 23 then 11 else 0
set_option maxHeartbeats 400000 in
theorem q_ahd {N kd : Nat} {s : zS} (hk : kd < 25) : fX3_sortAhead N (nI kd) s = some (nI (zso2 kd), s) := by
  have e : ∀ x, x < 26 → (nI kd = nI x ↔ kd = x) := fun x hx => nI_eq (by omega) (by omega)
  have hv : (if kd = 1 then (1 : Int32) else if kd = 3 then 3 else if kd = 6 then 2 else if kd = 13 then 10 else if kd = 23 then 11 else 0) = nI (zso2 kd) := by
    have h : ∀ kd, kd < 25 → (if kd = 1 then (1 : Int32) else if kd = 3 then 3 else if kd = 6 then 2 else if kd = 13 then 10 else if kd = 23 then 11 else 0) = nI (zso2 kd) := by decide +kernel
    exact h kd hk
  unfold fX3_sortAhead
  show (if nI kd = nI 1 then some ((1 : Int32), s) else if nI kd = nI 3 then some (3, s) else if nI kd = nI 6 then some (2, s) else if nI kd = nI 13 then some (10, s) else if nI kd = nI 23 then some (11, s) else some (0, s)) = _
  simp only [e 1 (by omega), e 3 (by omega), e 6 (by omega), e 13 (by omega), e 23 (by omega)]
  rw [← hv]
  repeat' (first | refine q_ite (fun _ => ?_) (fun _ => ?_) | rfl)
def zSo (T : Nat → Nat) (n b L N i n3 nb : Nat) (lc : List (Int32 × Int32)) (F k d op : Nat) (U rest : List Nat) (c m : zS) (oc : Option (Option Unit × zS)) : Prop := ∃ (i' n3' nb' k' fl : Nat) (el : List ((Int32 × Int32) × Nat)) (c' m' : zS), i < i' ∧ oc = some (some (), c') ∧ (∀ M, zXL N (M + (i' - i)) 1 m = zXL N M 0 m') ∧ zEXP T n b L i' n3' nb' (lc ++ el.map Prod.fst) (lc ++ el.map Prod.fst ++ zi0 U) F k' (d - U.length) op rest c' m' ∧ (zw T n i').1 ≠ 24 ∧ n3 ≤ n3' ∧ nb ≤ nb' ∧ (k < k' ∧ k' = k + el.length) ∧ zFx2 b n3 nb c m c' m' ∧ zXp fl (el.map Prod.fst) ∧ (∀ q, q ∈ el → zItA b n3' c' q.1 q.2) ∧ (el.map Prod.snd).sum + 5 * (zw T n i).2.2.1 ≤ 5 * (zw T n i').2.2.1 ∧ el.length ≤ i' - i
def zKo (N b n3 nb J : Nat) (c m : zS) (oc : Option (Option Unit × zS)) : Prop := ∃ (c' m' : zS) (fn fp j : Nat), oc = some (none, c') ∧ j ≤ J ∧ (∀ M, zXL N (M + j) 1 m = some (.inl (0, m'))) ∧ zFF fn fp c' m' ∧ zFx2 b n3 nb c m c' m'
set_option maxHeartbeats 400000 in
theorem zRF_F {b n3 nb : Nat} {c m : zS} {x : Int32} : zFx2 b n3 nb c m (zRF c x) m := zFx2_c (K := [309, 310]) (zeq_trans (zeq_c (by decide)) (zeq_c (by decide))) (fun k hk => by unfold zKX; simp only [List.mem_cons, List.not_mem_nil, or_false] at hk ⊢; omega)
set_option maxHeartbeats 400000 in
theorem zMf_F {b n3 nb : Nat} {c m : zS} {x y : Int32} : zFx2 b n3 nb c m c (zsc (zsc m 3320 x) 3321 y) := zFx2_m (K := [3320, 3321]) (A := []) (zeq_trans (zeq_c (by decide)) (zeq_c (by decide))) (by decide) (by simp)
set_option maxHeartbeats 400000 in
theorem zFF_i {fn fp : Nat} {c m : zS} {x y z w : Int32} (h1 : 1 ≤ fn) (h2 : fn ≤ 8) (hx : x = nI fn) (hy : y = nI fp) (hz : z = nI fn) (hw : w = nI fp) : zFF fn fp (zsc (zsc c 309 x) 310 y) (zsc (zsc m 3320 z) 3321 w) := ⟨h1, h2, ((zsc_ne (by decide)).trans zsc_at).trans hx, zsc_at.trans hy, ((zsc_ne (by decide)).trans zsc_at).trans hz, zsc_at.trans hw⟩
set_option maxHeartbeats 400000 in
theorem RO_check {N n b L i n3 nb F k d op : Nat} {T : Nat → Nat} {lc lm : List (Int32 × Int32)} {τ : List Nat} {c m : zS} {rc0 : Int32 → zS → Option (Option Unit × zS)} {rc1 : Int32 → Int32 → zS → Option (Option Unit × zS)} (hx : zCx T n L N) (h : zEXP T n b L i n3 nb lc lm F k d op τ c m) (h24 : (zw T n i).1 ≠ 24) : zKo N b n3 nb 1 c m (fX3_readOneS N rc0 rc1 (nI d) c) ∨ (zcan (zw T n i).1 = true ∧ d ≤ 20 ∧ fX3_checkOne N (nI d) c = some (some (), c) ∧ fX10_wanted N m = fX10_wanted_J105 N (if (zw T n i).1 = 13 ∨ (zw T n i).1 = 23 then 1 else 0) m) := by
  obtain ⟨h1, hi, h2, h3, h4, h5, h6, h7, h8, h9, h10, l1, l2, l3, l4, l5⟩ := h
  have hW := cx_w hx hi
  have hlt := zw_lt hW
  obtain ⟨-, -, -, -, -, -, g6, g7, g8⟩ := h1
  have hchk := q_check (N := N) (d := d) g7 hlt (by omega)
  have fin : ∀ (x : Nat) (y : Int32), 1 ≤ x → x ≤ 8 → y = nI x → fX3_checkOne N (nI d) c = some (none, zRF c y) → fX10_wanted N m = some (0, zsc (zsc m 3320 (nI x)) 3321 (nI (zw T n i).2.2.1)) → zKo N b n3 nb 1 c m (fX3_readOneS N rc0 rc1 (nI d) c) := by
    intro x y hx1 hx2 hy e1 e2
    refine ⟨zRF c y, _, x, (zw T n i).2.2.1, 1, ?_, Nat.le_refl _, fun M => ?_, zFF_i hx1 hx2 hy g8 rfl rfl, zFx2_trans zRF_F zMf_F (Nat.le_refl _) (Nat.le_refl _)⟩
    · unfold fX3_readOneS
      rw [e1, zbt_n]
    · rw [x_1, e2, zbn_s, if_pos rfl]
  by_cases c2 : (zw T n i).1 = 2
  · rw [if_pos c2] at hchk
    exact Or.inl (fin 6 6 (by omega) (by omega) rfl hchk (w_reg h2 hW c2))
  rw [if_neg c2] at hchk
  by_cases c3 : zcan (zw T n i).1 = false
  · rw [if_pos c3] at hchk
    have c3' : ¬ ((zw T n i).1 = 1 ∨ (zw T n i).1 = 3 ∨ (zw T n i).1 = 4 ∨ (zw T n i).1 = 5 ∨ (zw T n i).1 = 6 ∨ (zw T n i).1 = 9 ∨ (zw T n i).1 = 13 ∨ (zw T n i).1 = 23) := of_decide_eq_false c3
    have e := w_bad (N := N) h2 hW (by omega)
    rw [if_neg h24] at e
    exact Or.inl (fin 5 5 (by omega) (by omega) rfl hchk e)
  rw [if_neg c3] at hchk
  have c3' : zcan (zw T n i).1 = true := by simpa using c3
  have hok := w_ok (N := N) h2 hW (of_decide_eq_true c3')
  by_cases c4 : d ≤ 20
  · rw [if_pos c4] at hchk
    exact Or.inr ⟨c3', c4, hchk, hok⟩
  · rw [if_neg c4] at hchk
    refine Or.inl (fin 7 7 (by omega) (by omega) rfl hchk ?_)
    rw [hok]
    unfold fX10_wanted_J105
    rw [h9, if_neg (show ¬ nI d ≤ (20 : Int32) from nI_ge (a := 20) (by omega) (by omega)), q_fail (x := 7) (y := 7) h2 rfl, zbn_s, if_neg h24]
