def zG (T : Nat → Nat) (p e j : Nat) : Nat := if p + j < e then T (p + j) else 0
set_option maxHeartbeats 400000 in
theorem e10_byte {N n p e : Nat} {T : Nat → Nat} {m : zS} {x : Int32} (j : Nat) (hx : x = nI j) (h : zTx 35 3303 T n m) (hp : m.1 3317 = nI p) (he : m.1 3318 = nI e) (hen : e ≤ n) (hpe : p ≤ e) (hj : j < 100) : fX10_byteOf N x m = some (nI (zG T p e j), m) := by
  subst hx
  have hn := h.2.1
  unfold fX10_byteOf zG
  rw [hp, he, nI_add]
  by_cases c : p + j < e
  · rw [if_neg (nI_ge c (by omega)), if_pos (zga_l (by rfl) (show p + j < 3000 by omega) (by decide)), nI_clamp (by omega), (h.2.2 _ (by omega)).2, if_pos c]
  · rw [if_pos (nI_le (by omega) (by omega)), if_neg c]
    rfl
set_option maxHeartbeats 400000 in
theorem e10_is {N n p e : Nat} {T : Nat → Nat} {m : zS} {x y z w : Int32} (a b c d : Nat) (hx : x = nI a) (hy : y = nI b) (hz : z = nI c) (hw : w = nI d) (ha : a < 256) (hb : b < 256) (hc : c < 256) (hd : d < 256) (h : zTx 35 3303 T n m) (hp : m.1 3317 = nI p) (he : m.1 3318 = nI e) (hen : e ≤ n) (hpe : p ≤ e) : fX10_is N x y z w m = some (zb1 (decide (zG T p e 0 = a ∧ zG T p e 1 = b ∧ zG T p e 2 = c ∧ zG T p e 3 = d ∧ (d = 0 ∨ zG T p e 4 = 0))), m) := by
  subst hx; subst hy; subst hz; subst hw
  have hG : ∀ j, zG T p e j < 256 := by
    intro j
    unfold zG
    split
    · exact (h.2.2 _ (by omega)).1
    · omega
  have eq : ∀ j x, x < 256 → (nI (zG T p e j) = nI x ↔ zG T p e j = x) := fun j x hx => nI_eq (by have := hG j; omega) (by omega)
  have by_ : ∀ (j : Nat) (x : Int32), j < 100 → x = nI j → fX10_byteOf N x m = some (nI (zG T p e j), m) := fun j x hj hx => e10_byte j hx h hp he hen hpe hj
  unfold fX10_is
  rw [by_ 0 0 (by omega) rfl, zbn_s, by_ 1 1 (by omega) rfl]
  by_cases c0 : zG T p e 0 = a
  case neg =>
    rw [if_neg (fun q => c0 ((eq 0 a ha).mp q)), decide_eq_false (fun q => c0 q.1)]
    rfl
  rw [if_pos ((eq 0 a ha).mpr c0), zbn_s, by_ 2 2 (by omega) rfl]
  by_cases c1 : zG T p e 1 = b
  case neg =>
    rw [if_neg (fun q => c1 ((eq 1 b hb).mp q)), decide_eq_false (fun q => c1 q.2.1)]
    rfl
  rw [if_pos ((eq 1 b hb).mpr c1), zbn_s, by_ 3 3 (by omega) rfl]
  by_cases c2 : zG T p e 2 = c
  case neg =>
    rw [if_neg (fun q => c2 ((eq 2 c hc).mp q)), decide_eq_false (fun q => c2 q.2.2.1)]
    rfl
  rw [if_pos ((eq 2 c hc).mpr c2), zbn_s]
  by_cases c3 : zG T p e 3 = d
  case neg =>
    rw [if_neg (fun q => c3 ((eq 3 d hd).mp q)), decide_eq_false (fun q => c3 q.2.2.2.1)]
    rfl
  rw [if_pos ((eq 3 d hd).mpr c3)]
  by_cases c4 : d = 0
  · rw [if_pos (show nI d = 0 by rw [c4]; rfl), decide_eq_true ⟨c0, c1, c2, c3, Or.inl c4⟩]
    rfl
  · rw [if_neg (show ¬ nI d = 0 from nI_ne0 (by omega) (by omega)), by_ 4 4 (by omega) rfl, zbn_s]
    by_cases c5 : zG T p e 4 = 0
    · rw [if_pos (show nI (zG T p e 4) = 0 by rw [c5]; rfl), decide_eq_true ⟨c0, c1, c2, c3, Or.inr c5⟩]
      rfl
    · rw [if_neg (show ¬ nI (zG T p e 4) = 0 from fun q => c5 ((eq 4 0 (by omega)).mp q)), decide_eq_false (fun q => q.2.2.2.2.elim c4 c5)]
      rfl
set_option maxHeartbeats 400000 in
theorem e10_200 {N n p e v : Nat} {T : Nat → Nat} {m : zS} (h : zTx 35 3303 T n m) (hp : m.1 3317 = nI p) (he : m.1 3318 = nI e) (hen : e ≤ n) (hpe : p < e) (hv : v < 100) : fX10_register_J200 N (nI v) m = some (zfam (T p) (some v), m) := by
  have hT := (h.2.2 p (by omega)).1
  have hg : zG T p e 0 = T p := if_pos (by omega)
  unfold fX10_register_J200
  rw [e10_byte (x := 0) 0 rfl h hp he hen (by omega) (by omega), zbn_s, hg]
  have ec : ∀ x, x < 256 → (nI (T p) = nI x ↔ T p = x) := fun x hx => nI_eq (by omega) (by omega)
  have le : ∀ x, x < 256 → (nI x ≤ nI v ↔ x - 1 < v ∨ x = 0) := fun x hx => by rw [nI_leI (by omega) (by omega)]; omega
  unfold zfam
  show (if nI (T p) = nI 97 then if nI 8 ≤ nI v then some ((-1 : Int32), m) else some (nI 10 + nI v, m) else if nI (T p) = nI 115 then if nI 2 ≤ nI v then if nI 12 ≤ nI v then some ((-1 : Int32), m) else some (nI 16 + nI v, m) else some (nI 8 + nI v, m) else if nI (T p) = nI 116 then if nI 3 ≤ nI v then if nI 7 ≤ nI v then some ((-1 : Int32), m) else some (nI 25 + nI v, m) else some (nI 5 + nI v, m) else if nI (T p) = nI 120 then if nI 32 ≤ nI v then some ((-1 : Int32), m) else some (nI v, m) else some ((-1 : Int32), m)) = _
  have l8 : nI 8 ≤ nI v ↔ 7 < v := by rw [nI_leI (by omega) (by omega)]; omega
  have l2 : nI 2 ≤ nI v ↔ 1 < v := by rw [nI_leI (by omega) (by omega)]; omega
  have l12 : nI 12 ≤ nI v ↔ 11 < v := by rw [nI_leI (by omega) (by omega)]; omega
  have l3 : nI 3 ≤ nI v ↔ 2 < v := by rw [nI_leI (by omega) (by omega)]; omega
  have l7 : nI 7 ≤ nI v ↔ 6 < v := by rw [nI_leI (by omega) (by omega)]; omega
  have l32 : nI 32 ≤ nI v ↔ 31 < v := by rw [nI_leI (by omega) (by omega)]; omega
  simp only [ec 97 (by omega), ec 115 (by omega), ec 116 (by omega), ec 120 (by omega), l8, l2, l12, l3, l7, l32, nI_add, Nat.add_comm 10, Nat.add_comm 16, Nat.add_comm 8, Nat.add_comm 25, Nat.add_comm 5]
  repeat' (first | refine q_ite (fun _ => ?_) (fun _ => ?_) | rfl)
set_option maxHeartbeats 400000 in
theorem znm_p : ∀ b, b < 256 → znm b = false ∨ 36 ≤ b := by decide +kernel
set_option maxHeartbeats 400000 in
theorem e10_reg {N n p e : Nat} {T : Nat → Nat} {m : zS} (h : zTx 35 3303 T n m) (h1 : m.1 3315 = nI 1) (hp : m.1 3317 = nI p) (he : m.1 3318 = nI e) (hen : e ≤ n) (hpe : p < e) (hnm : ∀ j, p ≤ j → j < e → znm (T j) = true) : fX10_register N m = some (zreg T p (e - p), m) := by
  have hn := h.2.1
  have pos : ∀ j, p + j < e → 36 ≤ T (p + j) ∧ T (p + j) < 256 := fun j hj => by
    have h2 := hnm (p + j) (by omega) hj
    have h3 := (h.2.2 (p + j) (by omega)).1
    rcases znm_p _ h3 with h4 | h4
    · rw [h4] at h2; cases h2
    · exact ⟨h4, h3⟩
  have gin : ∀ j, p + j < e → zG T p e j = T (p + j) := fun j hj => if_pos hj
  have gout : ∀ j, ¬ p + j < e → zG T p e j = 0 := fun j hj => if_neg hj
  have gz : ∀ j, zG T p e j = 0 ↔ ¬ p + j < e := fun j => by
    by_cases c : p + j < e
    · have := pos j c
      rw [gin j c]
      omega
    · rw [gout j c]
      omega
  have isv : ∀ (a b c d : Nat) (x y z w : Int32), x = nI a → y = nI b → z = nI c → w = nI d → a < 256 → b < 256 → c < 256 → d < 256 → fX10_is N x y z w m = some (zb1 (decide (zG T p e 0 = a ∧ zG T p e 1 = b ∧ zG T p e 2 = c ∧ zG T p e 3 = d ∧ (d = 0 ∨ zG T p e 4 = 0))), m) := fun a b c d x y z w e1 e2 e3 e4 q1 q2 q3 q4 => e10_is a b c d e1 e2 e3 e4 q1 q2 q3 q4 h hp he hen (by omega)
  have two : ∀ a b, 0 < a → 0 < b → ((zG T p e 0 = a ∧ zG T p e 1 = b ∧ zG T p e 2 = 0 ∧ zG T p e 3 = 0 ∧ (0 = 0 ∨ zG T p e 4 = 0)) ↔ (e - p = 2 ∧ T p = a ∧ T (p + 1) = b)) := by
    intro a b ha hb
    have g0 : zG T p e 0 = T p := gin 0 (by omega)
    rw [g0, gz 2, gz 3]
    by_cases c1 : p + 1 < e
    · rw [gin 1 c1]; omega
    · rw [gout 1 c1]; omega
  have zer : (zG T p e 0 = 122 ∧ zG T p e 1 = 101 ∧ zG T p e 2 = 114 ∧ zG T p e 3 = 111 ∧ (111 = 0 ∨ zG T p e 4 = 0)) ↔ (e - p = 4 ∧ T p = 122 ∧ T (p + 1) = 101 ∧ T (p + 2) = 114 ∧ T (p + 3) = 111) := by
    have g0 : zG T p e 0 = T p := gin 0 (by omega)
    rw [g0, gz 4]
    by_cases c3 : p + 3 < e
    · rw [gin 1 (by omega), gin 2 (by omega), gin 3 c3]; omega
    · rw [gout 3 c3]; omega
  unfold fX10_register zreg
  rw [if_pos (show m.1 3315 = 1 from h1), isv 122 101 114 111 122 101 114 111 rfl rfl rfl rfl (by omega) (by omega) (by omega) (by omega), zbn_s]
  have step : ∀ (P Q : Prop) [Decidable P] [Decidable Q], (P ↔ Q) → ∀ (A B : Option (Int32 × zS)), (if zb1 (decide P) = 0 then A else B) = if Q then B else A := by
    intro P Q _ _ hPQ A B
    by_cases c : P
    · rw [if_neg (by rw [decide_eq_true c]; decide), if_pos (hPQ.mp c)]
    · rw [if_pos (by rw [decide_eq_false c]; decide), if_neg (fun q => c (hPQ.mpr q))]
  rw [step _ _ zer, isv 114 97 0 0 114 97 0 0 rfl rfl rfl rfl (by omega) (by omega) (by omega) (by omega), zbn_s, step _ _ (two 114 97 (by omega) (by omega)), isv 115 112 0 0 115 112 0 0 rfl rfl rfl rfl (by omega) (by omega) (by omega) (by omega), zbn_s, step _ _ (two 115 112 (by omega) (by omega)), isv 103 112 0 0 103 112 0 0 rfl rfl rfl rfl (by omega) (by omega) (by omega) (by omega), zbn_s, step _ _ (two 103 112 (by omega) (by omega)), isv 116 112 0 0 116 112 0 0 rfl rfl rfl rfl (by omega) (by omega) (by omega) (by omega), zbn_s, step _ _ (two 116 112 (by omega) (by omega)), isv 102 112 0 0 102 112 0 0 rfl rfl rfl rfl (by omega) (by omega) (by omega) (by omega), zbn_s, step _ _ (two 102 112 (by omega) (by omega))]
  by_cases cz : e - p = 4 ∧ T p = 122 ∧ T (p + 1) = 101 ∧ T (p + 2) = 114 ∧ T (p + 3) = 111
  · simp [cz]
  by_cases cra : e - p = 2 ∧ T p = 114 ∧ T (p + 1) = 97
  · simp [cra]
  by_cases csp : e - p = 2 ∧ T p = 115 ∧ T (p + 1) = 112
  · simp [csp]
  by_cases cgp : e - p = 2 ∧ T p = 103 ∧ T (p + 1) = 112
  · simp [cgp]
  by_cases ctp : e - p = 2 ∧ T p = 116 ∧ T (p + 1) = 112
  · simp [ctp]
  by_cases cfp : e - p = 2 ∧ T p = 102 ∧ T (p + 1) = 112
  · simp [cfp]
  simp only [if_neg cz, if_neg cra, if_neg csp, if_neg cgp, if_neg ctp, if_neg cfp]
  have e1 : m.1 3318 - m.1 3317 - 1 = nI (e - p - 1) := by
    rw [hp, he, pk_sub (by omega)]
    exact pk_sub (b := 1) (by omega)
  rw [e1]
  have dig : ∀ b, b < 256 → fX10_isDigit N (nI b) m = some (zb1 (zdg b), m) := fun b hb => by
    have h9 := b10_dig b (by omega)
    unfold bM at h9
    rw [if_pos hb] at h9
    rw [eX10_isDigit, h9]
  have bd : ∀ b, zdg b = true → 48 ≤ b ∧ b ≤ 57 := fun b h => by unfold zdg at h; exact of_decide_eq_true h
  by_cases c2 : e - p < 2
  · rw [if_pos (show nI (e - p - 1) < (1 : Int32) from nI_lt (b := 1) (by omega) (by decide)), if_pos (Or.inl c2)]
  rw [if_neg (show ¬ nI (e - p - 1) < (1 : Int32) from nI_nlt (b := 1) (by omega) (by omega))]
  by_cases c3 : 3 < e - p
  · rw [if_pos (show (2 : Int32) < nI (e - p - 1) from nI_lt (a := 2) (by omega) (by omega))]
    by_cases c4 : 4 < e - p
    · rw [if_pos (Or.inr c4)]
    · rw [if_neg (by omega), show e - p - 1 = 3 by omega]
      rfl
  rw [if_neg (show ¬ (2 : Int32) < nI (e - p - 1) from nI_nlt (a := 2) (by omega) (by decide)), if_neg (show ¬ (e - p < 2 ∨ 4 < e - p) by omega)]
  have hb1 := pos 1 (by omega)
  have by1 : fX10_byteOf N 1 m = some (nI (T (p + 1)), m) := by rw [e10_byte (x := 1) 1 rfl h hp he hen (by omega) (by omega), gin 1 (by omega)]
  rw [by1, zbn_s, dig _ hb1.2, zbn_s]
  have hc : e - p = 2 ∨ e - p = 3 := by omega
  rcases hc with hc | hc
  · rw [hc]
    show (if zb1 (zdg (T (p + 1))) = 0 then some ((-1 : Int32), m) else if nI 1 = 2 then _ else fX10_register_J164 N (nI 1) m) = some (zfam (T p) (zmem T (p + 1) 1), m)
    unfold zmem
    rw [if_pos (show 1 = 1 from rfl)]
    by_cases cd : zdg (T (p + 1)) = true
    · have hbd := bd _ cd
      rw [if_pos cd, if_neg (show ¬ zb1 (zdg (T (p + 1))) = 0 from fun z => by rw [zb1_0.mp z] at cd; cases cd), if_neg (show ¬ nI 1 = 2 by decide)]
      unfold fX10_register_J164
      rw [if_pos (show nI 1 = 1 from rfl), by1, zbn_s, show nI (T (p + 1)) - 48 = nI (T (p + 1) - 48) from pk_sub (b := 48) (by omega)]
      exact e10_200 h hp he hen hpe (by omega)
    · rw [if_neg cd, if_pos (zb1_0.mpr (by simpa using cd))]
      rfl
  · rw [hc]
    have hb2 := pos 2 (by omega)
    have by2 : fX10_byteOf N 2 m = some (nI (T (p + 2)), m) := by rw [e10_byte (x := 2) 2 rfl h hp he hen (by omega) (by omega), gin 2 (by omega)]
    unfold zmem
    rw [show 3 - 1 = 2 from rfl, if_neg (show ¬ 2 = 1 by decide), if_pos (show 2 = 2 from rfl), by2, zbn_s, dig _ hb2.2, zbn_s, by1, zbn_s, if_pos (show nI 2 = 2 from rfl)]
    by_cases cd : zdg (T (p + 1)) = true
    case neg =>
      rw [if_pos (zb1_0.mpr (by simpa using cd)), if_neg (fun z => cd z.1)]
      rfl
    rw [if_neg (show ¬ zb1 (zdg (T (p + 1))) = 0 from fun z => by rw [zb1_0.mp z] at cd; cases cd)]
    by_cases cd2 : zdg (T (p + 2)) = true
    case neg =>
      rw [if_pos (zb1_0.mpr (by simpa using cd2)), if_neg (fun z => cd2 z.2.2)]
      rfl
    rw [if_neg (show ¬ zb1 (zdg (T (p + 2))) = 0 from fun z => by rw [zb1_0.mp z] at cd2; cases cd2)]
    by_cases c48 : T (p + 1) = 48
    · rw [if_pos (show nI (T (p + 1)) = (48 : Int32) by rw [c48]; rfl), if_neg (fun z => z.2.1 c48)]
      rfl
    · have h1d := bd _ cd
      have h2d := bd _ cd2
      rw [if_neg (show ¬ nI (T (p + 1)) = (48 : Int32) from fun z => c48 ((nI_eq (b := 48) (by omega) (by decide)).mp z)), if_pos ⟨cd, c48, cd2⟩]
      unfold fX10_register_J164
      rw [if_neg (show ¬ nI 2 = 1 by decide), by1, zbn_s, by2, zbn_s]
      have ev : 10 * (nI (T (p + 1)) - 48) + nI (T (p + 2)) - 48 = nI ((T (p + 1) - 48) * 10 + (T (p + 1 + 1) - 48)) := by
        show nI 10 * (nI (T (p + 1)) - nI 48) + nI (T (p + 2)) - nI 48 = _
        rw [pk_sub (by omega), pk_mul, nI_add, pk_sub (by omega)]
        exact congrArg nI (by show 10 * (T (p + 1) - 48) + T (p + 2) - 48 = (T (p + 1) - 48) * 10 + (T (p + 2) - 48); omega)
      rw [ev]
      exact e10_200 h hp he hen hpe (by show (T (p + 1) - 48) * 10 + (T (p + 2) - 48) < 100; omega)
set_option maxHeartbeats 400000 in
theorem q_reg {N n i : Nat} {T : Nat → Nat} {m : zS} (h : zPM T n i m) (hk : zWk T n (zps T n i) (zw T n i)) : fX10_register N m = some ((if (zw T n i).1 = 2 then zreg T (zw T n i).2.2.1 ((zw T n i).2.2.2 - (zw T n i).2.2.1) else (-1)), m) ∧ ((zw T n i).1 = 2 → ¬ zreg T (zw T n i).2.2.1 ((zw T n i).2.2.2 - (zw T n i).2.2.1) = (-1)) := by
  obtain ⟨h1, h2, h3⟩ := h
  by_cases c : (zw T n i).1 = 1 ∨ (zw T n i).1 = 2
  · have hs : zMs (zw T n i).1 = 1 := by
      rcases c with c | c <;> rw [c] <;> rfl
    have hne : (zw T n i).1 ≠ 24 := by omega
    have hto : m.1 3318 = nI (zw T n i).2.2.2 := (h2.2.2.1 hne).trans (by rw [if_neg (by omega)])
    rcases hk with ⟨g1, -⟩ | ⟨g1, -⟩ | ⟨g1, g2, g3, g4⟩
    · omega
    · omega
    · have g5 := g4.resolve_right (by
        rintro (⟨q, -⟩ | ⟨q, -⟩ | ⟨q, -⟩ | ⟨q, -⟩ | ⟨q, -⟩ | ⟨q, -⟩) <;> omega)
      obtain ⟨-, -, -, q4, q5⟩ := g5
      rw [e10_reg h1 (by rw [h2.1, hs]) h2.2.1 hto g3 g2 q5]
      rcases c with c | c
      · rw [if_neg (by omega), q4.mpr c]
        exact ⟨rfl, fun z => by omega⟩
      · rw [if_pos c]
        exact ⟨rfl, fun _ z => by have := q4.mp z; omega⟩
  · rw [if_neg (fun z => c (Or.inr z))]
    refine ⟨?_, fun z => absurd (Or.inr z) c⟩
    unfold fX10_register
    rw [if_neg]
    intro z
    rw [h2.1] at z
    have hz : ∀ kd, kd < 25 → ¬ (kd = 1 ∨ kd = 2) → ¬ nI (zMs kd) = 1 := by
      have h9 : ∀ kd, kd < 25 → kd = 1 ∨ kd = 2 ∨ ¬ nI (zMs kd) = 1 := by decide +kernel
      intro kd q1 q2
      rcases h9 kd q1 with q | q | q
      · exact absurd (Or.inl q) q2
      · exact absurd (Or.inr q) q2
      · exact q
    refine hz _ ?_ c z
    rcases hk with ⟨g1, -⟩ | ⟨g1, -⟩ | ⟨-, -, -, g4⟩
    · omega
    · omega
    · rcases g4 with ⟨q, -⟩ | ⟨q, -⟩ | ⟨q, -⟩ | ⟨q, -⟩ | ⟨q, -⟩ | ⟨q, -⟩ | ⟨q, q2, -⟩ <;> omega
