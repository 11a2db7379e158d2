def zKX (b : Nat) : List Nat := [303, 304, 305, 308, 309, 310, 100 * (b + 5) + 3, 100 * (b + 7) + 3, 100 * b + 5]
abbrev zKY : List Nat := [3311, 3315, 3316, 3317, 3318, 3320, 3321, 3323, 3324, 3325, 3326, 3327]
def zFx2 (b n3 nb : Nat) (c m c' m' : zS) : Prop := zeq (zKX b) [b + 6, b + 8, b + 9] c c' ∧ (∀ x, x < n3 * 2 → c'.2.1 (b + 8) x = c.2.1 (b + 8) x) ∧ (∀ x, x < nb → c'.2.1 (b + 9) x = c.2.1 (b + 9) x) ∧ zeq zKY [36, 39, 40, 41, 43, 48] m m' ∧ zFM m m' ∧ ∀ j, j ≠ 2 → j ≠ 3 → m'.2.1 36 j = m.2.1 36 j
set_option maxHeartbeats 400000 in
theorem zFx2_refl (b n3 nb : Nat) (c m : zS) : zFx2 b n3 nb c m c m := ⟨zeq_refl _ _ _, fun _ _ => rfl, fun _ _ => rfl, zeq_refl _ _ _, zFM_refl _, fun _ _ _ => rfl⟩
set_option maxHeartbeats 400000 in
theorem zFx2_trans {b n3 nb n3' nb' : Nat} {c m c1 m1 c2 m2 : zS} (h1 : zFx2 b n3 nb c m c1 m1) (h2 : zFx2 b n3' nb' c1 m1 c2 m2) (h3 : n3 ≤ n3') (h4 : nb ≤ nb') : zFx2 b n3 nb c m c2 m2 := by
  obtain ⟨a1, a2, a3, a4, a5, a6⟩ := h1
  obtain ⟨b1, b2, b3, b4, b5, b6⟩ := h2
  exact ⟨zeq_trans a1 b1, fun x hx => (b2 x (by omega)).trans (a2 x hx), fun x hx => (b3 x (by omega)).trans (a3 x hx), zeq_trans a4 b4, zFM_trans a5 b5, fun j hj hk => (b6 j hj hk).trans (a6 j hj hk)⟩
set_option maxHeartbeats 400000 in
theorem zFx2_c {b n3 nb : Nat} {c m c' : zS} {K : List Nat} (h : zeq K [] c c') (hK : ∀ k, k ∈ K → k ∈ zKX b) : zFx2 b n3 nb c m c' m := ⟨zeq_mono h hK (fun _ h => absurd h List.not_mem_nil), fun x _ => by rw [h.2.1 _ List.not_mem_nil], fun x _ => by rw [h.2.1 _ List.not_mem_nil], zeq_refl _ _ _, zFM_refl _, fun _ _ _ => rfl⟩
set_option maxHeartbeats 400000 in
theorem zFx2_m {b n3 nb : Nat} {c m m' : zS} {K A : List Nat} (h : zeq K A m m') (hK : ∀ k, k ∈ K → k ∈ zKY) (hA : ∀ a, a ∈ A → a = 43 ∨ a = 48) : zFx2 b n3 nb c m c m' := ⟨zeq_refl _ _ _, fun _ _ => rfl, fun _ _ => rfl, zeq_mono h hK (fun a ha => (hA a ha).elim (fun e => by rw [e]; decide) (fun e => by rw [e]; decide)), zFM_eq h (fun k hk => by
  have h1 : ∀ k, k ∈ zKY → k ∈ zKM := by decide
  exact h1 k (hK k hk)) hA, fun j _ _ => by rw [h.2.1 36 (fun z => (hA 36 z).elim (by decide) (by decide))]⟩
def zEXP (T : Nat → Nat) (n b L i n3 nb : Nat) (lc lm : List (Int32 × Int32)) (F k d op : Nat) (τ : List Nat) (c m : zS) : Prop := zPC T n b L i c ∧ i ≤ L ∧ zPM T n i m ∧ zPN b n3 nb c m ∧ nb ≤ (zw T n i).2.2.1 ∧ zIC b lc c ∧ zIM lm m ∧ zSK τ m ∧ (c.1 307 = nI F ∧ c.1 308 = nI k ∧ m.1 3324 = nI (F + k) ∧ m.1 3325 = nI k ∧ k ≤ 60) ∧ m.1 3326 = nI d ∧ m.1 3327 = nI op ∧ (lm.length + τ.length ≤ i ∧ lc.length ≤ i ∧ F ≤ i ∧ op ≤ i ∧ d ≤ 22)
set_option maxHeartbeats 400000 in
theorem zsg_inj : ∀ a, a < 24 → ∀ b, b < 24 → 8 ≤ a → a ≠ 11 → zsg a = zsg b → a = b := by
  have h : ∀ a, a < 24 → ∀ b, b < 24 → ¬ (8 ≤ a ∧ a ≠ 11 ∧ zsg a = zsg b) ∨ a = b := by decide +kernel
  intro a ha b hb h1 h2 h3
  rcases h a ha b hb with h4 | h4
  · exact absurd ⟨h1, h2, h3⟩ h4
  · exact h4
set_option maxHeartbeats 400000 in
theorem zMs_5 : ∀ kd, kd < 25 → (nI (zMs kd) = 5 ↔ 8 ≤ kd ∧ kd ≤ 23) := by decide +kernel
set_option maxHeartbeats 400000 in
theorem zw_lt {T : Nat → Nat} {n i k : Nat} (h : zWk T n k (zw T n i)) : (zw T n i).1 < 25 := by
  rcases h with ⟨g1, -⟩ | ⟨g1, -⟩ | ⟨-, -, -, g4⟩
  · omega
  · omega
  · rcases g4 with ⟨q, -⟩ | ⟨q, -⟩ | ⟨q, -⟩ | ⟨q, -⟩ | ⟨q, -⟩ | ⟨q, -⟩ | ⟨q, q2, -⟩ <;> omega
set_option maxHeartbeats 400000 in
theorem q_sign {N n i kx : Nat} {T : Nat → Nat} {m : zS} {x : Int32} (h : zPM T n i m) (hlt : (zw T n i).1 < 25) (hx : x = nI (zsg kx)) (h8 : 8 ≤ kx ∧ kx ≤ 23 ∧ kx ≠ 11) : fX10_isSign N x m = some (zb1 (decide ((zw T n i).1 = kx)), m) := by
  subst hx
  obtain ⟨h1, h2, h3⟩ := h
  unfold fX10_isSign
  rw [h2.1]
  by_cases c : 8 ≤ (zw T n i).1 ∧ (zw T n i).1 ≤ 23
  · have hzs : ∀ a, a < 24 → zsg a < 400 := by decide +kernel
    have hs1 := hzs (zw T n i).1 (by omega)
    have hs2 := hzs kx (by omega)
    rw [if_pos ((zMs_5 _ hlt).mpr c), h2.2.2.2.2.1 c.1 c.2]
    by_cases e : (zw T n i).1 = kx
    · rw [e, if_pos rfl, decide_eq_true rfl]
      rfl
    · rw [if_neg (fun z => e (zsg_inj kx (by omega) _ (by omega) h8.1 h8.2.2 ((nI_eq (by omega) (by omega)).mp z).symm).symm), decide_eq_false e]
      rfl
  · rw [if_neg (fun z => c ((zMs_5 _ hlt).mp z)), decide_eq_false (by omega)]
    rfl
set_option maxHeartbeats 400000 in
theorem q_sign_t {N n i kx : Nat} {T : Nat → Nat} {m : zS} {x : Int32} (h : zPM T n i m) (hx : x = nI (zsg kx)) (h8 : 8 ≤ kx ∧ kx ≤ 23 ∧ kx ≠ 11) (e : (zw T n i).1 = kx) : fX10_isSign N x m = some (1, m) := by
  rw [q_sign h (by omega) hx h8, decide_eq_true e]
  rfl
set_option maxHeartbeats 400000 in
theorem q_sign_f {N n i kx : Nat} {T : Nat → Nat} {m : zS} {x : Int32} (h : zPM T n i m) (hlt : (zw T n i).1 < 25) (hx : x = nI (zsg kx)) (h8 : 8 ≤ kx ∧ kx ≤ 23 ∧ kx ≠ 11) (e : ¬ (zw T n i).1 = kx) : fX10_isSign N x m = some (0, m) := by
  rw [q_sign h hlt hx h8, decide_eq_false e]
  rfl
def vop (x : Int32) : Int32 := if x = 37 then 16 else if x = 38 then 19 else if x = 42 then 14 else if x = 43 then 12 else if x = 45 then 13 else if x = 47 then 15 else if x = 94 then 20 else if x = 124 then 21 else if x = 300 then 17 else if x = 301 then 18 else 0
set_option maxHeartbeats 400000 in
theorem vop_k : ∀ kd, kd < 24 → 8 ≤ kd → vop (nI (zsg kd)) = nI (if 12 ≤ kd ∧ kd ≤ 21 then kd else 0) := by
  have h : ∀ kd, kd < 24 → ¬ 8 ≤ kd ∨ vop (nI (zsg kd)) = nI (if 12 ≤ kd ∧ kd ≤ 21 then kd else 0) := by decide +kernel
  intro kd h1 h2
  exact (h kd h1).resolve_left (fun z => z h2)
set_option maxHeartbeats 400000 in
theorem q_oper {N n i : Nat} {T : Nat → Nat} {m : zS} (h : zPM T n i m) (hlt : (zw T n i).1 < 25) : fX10_operator N m = some (nI (if 12 ≤ (zw T n i).1 ∧ (zw T n i).1 ≤ 21 then (zw T n i).1 else 0), m) := by
  obtain ⟨h1, h2, h3⟩ := h
  unfold fX10_operator
  rw [h2.1]
  by_cases c : 8 ≤ (zw T n i).1 ∧ (zw T n i).1 ≤ 23
  · rw [if_pos ((zMs_5 _ hlt).mpr c), h2.2.2.2.2.1 c.1 c.2, ← vop_k _ (by omega) c.1]
    unfold vop
    repeat' (first | refine q_ite (fun _ => ?_) (fun _ => ?_) | rfl)
  · rw [if_neg (fun z => c ((zMs_5 _ hlt).mp z)), if_neg (by omega)]
    rfl
set_option maxHeartbeats 400000 in
theorem zw_adv {T : Nat → Nat} {n L i : Nat} (hT : ∀ j, j < n → T j < 256) (hlst : ∀ j, j < L → ¬ zlst T n j) (hi : i < L) : (zw T n i).2.2.2 ≤ (zw T n (i + 1)).2.2.1 ∧ (zw T n i).2.2.1 < (zw T n i).2.2.2 ∧ (zw T n (i + 1)).2.2.1 ≤ n := by
  have h1 := zw_k hT L hlst i (by omega)
  have h2 := zw_k hT L hlst (i + 1) (by omega)
  have h4 := hlst i hi
  have h4a : ¬ (zw T n i).1 = 24 := fun z => h4 (Or.inl z)
  have h4b : ¬ (zw T n i).2.2.1 = n := fun z => h4 (Or.inr z)
  have e : zps T n (i + 1) = (zw T n i).2.2.2 := rfl
  have a1 : zps T n (i + 1) ≤ (zw T n (i + 1)).2.2.1 ∧ (zw T n (i + 1)).2.2.1 ≤ n := by
    rcases h2.2.2 with ⟨g1, g2, g3, g4⟩ | ⟨g1, g2, g3, -⟩ | ⟨g1, g2, g3, g4⟩ <;> omega
  have a2 : (zw T n i).2.2.1 < (zw T n i).2.2.2 := by
    rcases h1.2.2 with ⟨g1, g2, g3, g4⟩ | ⟨g1, g2, g3, -⟩ | ⟨g1, g2, g3, g4⟩ <;> omega
  omega
set_option maxHeartbeats 400000 in
theorem q_next {N n L i : Nat} {T : Nat → Nat} {m : zS} (hT : ∀ j, j < n → T j < 256) (hlst : ∀ j, j < L → ¬ zlst T n j) (hN : 3000 ≤ N) (hi : i < L) (hx : zTx 35 3303 T n m) (hto : m.1 3318 = nI (zw T n i).2.2.2) (hf : m.1 3320 = nI 0) : ∃ m', fX10_next N m = some ((), m') ∧ zPM T n (i + 1) m' ∧ zeq [3311, 3315, 3316, 3317, 3318] [48] m m' := by
  have h1 := zw_k hT L hlst (i + 1) (by omega)
  obtain ⟨q, eq, q1, q2⟩ := s10_next (N := N) (k := zps T n (i + 1)) hx hN h1.1 hto
  exact ⟨q.2, eq, ⟨zTx_keep hx q1 (by decide) (by decide), q2, (q1.1 3320 (by decide)).trans hf⟩, q1⟩
set_option maxHeartbeats 400000 in
theorem zPM_to {T : Nat → Nat} {n i : Nat} {m : zS} (h : zPM T n i m) (h1 : (zw T n i).1 ≠ 24) (h0 : (zw T n i).1 ≠ 0) : m.1 3318 = nI (zw T n i).2.2.2 := (h.2.1.2.2.1 h1).trans (by rw [if_neg h0])
set_option maxHeartbeats 400000 in
theorem q_count {N F k : Nat} {c : zS} (h7 : c.1 307 = nI F) (h8 : c.1 308 = nI k) (hF : F ≤ 1900) (hk : k ≤ 60) : (k < 60 ∧ fX3_countItem N c = some (some (), zsc c 308 (nI (k + 1)))) ∨ (k = 60 ∧ fX3_countItem N c = some (none, zsc (zsc (zsc c 308 (nI (k + 1))) 309 8) 310 (c.1 305))) := by
  unfold fX3_countItem
  rw [h7, h8, nI_1]
  by_cases c60 : k < 60
  · left
    refine ⟨c60, ?_⟩
    rw [if_neg (show ¬ (60 : Int32) < nI (k + 1) from nI_nlt (a := 60) (by omega) (by decide)), nI_add, if_pos (show nI (F + (k + 1)) ≤ (2000 : Int32) from nI_le (b := 2000) (by omega) (by decide))]
  · right
    refine ⟨by omega, ?_⟩
    rw [if_pos (show (60 : Int32) < nI (k + 1) from nI_lt (a := 60) (by omega) (by omega))]
    rfl
set_option maxHeartbeats 400000 in
theorem q_tally {N n i F k : Nat} {T : Nat → Nat} {m : zS} (h : zPM T n i m) (h4 : m.1 3324 = nI (F + k)) (h5 : m.1 3325 = nI k) (hF : F ≤ 1900) (hk : k ≤ 60) : (k < 60 ∧ fX10_tally N m = some (1, zsc (zsc m 3324 (nI (F + k + 1))) 3325 (nI (k + 1)))) ∨ (k = 60 ∧ fX10_tally N m = some (0, zsc (zsc m 3320 (if (zw T n i).1 = 24 then (zw T n i).2.1 else nI 8)) 3321 (nI (zw T n i).2.2.1))) := by
  unfold fX10_tally
  rw [h4, h5, if_neg (show ¬ nI (F + k) = (2000 : Int32) from fun z => by have := (nI_eq (b := 2000) (by omega) (by decide)).mp z; omega), nI_1, nI_1]
  by_cases c60 : k < 60
  · left
    exact ⟨c60, by rw [if_neg (show ¬ nI k = (60 : Int32) from fun z => by have := (nI_eq (b := 60) (by omega) (by decide)).mp z; omega)]⟩
  · right
    have e : k = 60 := by omega
    refine ⟨e, ?_⟩
    rw [if_pos (show nI k = 60 by rw [e]; rfl), q_fail (x := 8) (y := 8) h rfl, zbn_s]
    rfl
