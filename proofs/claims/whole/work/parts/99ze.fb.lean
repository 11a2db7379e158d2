def zHf (f : Nat → Int32) (n2 : Nat) : Prop := ∀ t, t < n2 → ∃ o : Nat, f t = nI o ∧ (o ≤ 3 ∨ (10 ≤ o ∧ o ≤ 21))
theorem two_k : ∀ o, o < 30 → (if nI o < 12 then (0 : Int32) else if 21 < nI o then 0 else 1) = (if 12 ≤ o ∧ o ≤ 21 then 1 else 0) ∧ (if nI o = 10 then (1 : Int32) else if nI o = 11 then 1 else 0) = (if o = 10 ∨ o = 11 then 1 else 0) := by decide +kernel
theorem c_two {N o : Nat} {s : zS} (h : o < 30) : fX1_isTwoSided N (nI o) s = some ((if 12 ≤ o ∧ o ≤ 21 then 1 else 0), s) ∧ fX1_isAhead N (nI o) s = some ((if o = 10 ∨ o = 11 then 1 else 0), s) := by
  obtain ⟨h1, h2⟩ := two_k o h
  refine ⟨?_, ?_⟩
  · rw [← h1]
    unfold fX1_isTwoSided
    repeat' split
    all_goals rfl
  · rw [← h2]
    unfold fX1_isAhead
    repeat' split
    all_goals rfl
theorem b_any {N : Nat} {c : zS} (p : Int32) : ∃ x, fX7_beginOf N p c = some (x, c) := by
  unfold fX7_beginOf
  rcases pk_ix p (n := 60) (by decide) with h | h | ⟨j, hj, rfl⟩
  · rw [if_pos h]; exact ⟨_, rfl⟩
  · by_cases c1 : p < 0
    · rw [if_pos c1]; exact ⟨_, rfl⟩
    rw [if_neg c1]
    by_cases c2 : c.1 3004 ≤ p
    · rw [if_pos c2]; exact ⟨_, rfl⟩
    rw [if_neg c2, if_pos (show nI (zlen 32) ≤ p from h)]
    exact ⟨_, rfl⟩
  · rw [if_neg (nI_pos (by omega))]
    by_cases c2 : c.1 3004 ≤ nI j
    · rw [if_pos c2]; exact ⟨_, rfl⟩
    rw [if_neg c2, if_neg (show ¬ nI (zlen 32) ≤ nI j from nI_ge hj (by decide)), if_pos (zga_l (by rfl) hj (by decide))]
    exact ⟨_, rfl⟩
theorem b_at {N C j : Nat} {c : zS} (hC : c.1 3004 = nI C) (hj : j < C) (hC2 : C ≤ 60) : fX7_beginOf N (nI j) c = some (c.2.1 32 j, c) := by
  unfold fX7_beginOf
  rw [if_neg (nI_pos (by omega)), hC, if_neg (nI_ge hj (by omega)), if_neg (show ¬ nI (zlen 32) ≤ nI j from nI_ge (show j < 60 by omega) (by decide)), if_pos (zga_l (by rfl) (show j < 60 by omega) (by decide)), nI_clamp (by omega)]
def zBC (f : Nat → Int32) (F i : Nat) (c : zS) : Prop := ∀ t, F ≤ t → t < F + i → ∀ n a, F ≤ a → zEx f n a (t + 1) → c.2.1 32 (t - F) = nI (a - F)
set_option maxHeartbeats 1000000 in
theorem fbC {B n0 n1 n2 n3 nb nl N F C : Nat} {s : zS} {f : Nat → Int32} (hx : zBx B n0 n1 n2 n3 nb nl s) (hfd : f = fun t => s.2.1 (B + 6) (t * 2 + 0)) (hf : zHf f n2) (hF : F + C ≤ n2) (hC : C ≤ 60) : ∀ d i M c, i + d = C → d < M → zYC s c → c.1 3003 = nI F → c.1 3004 = nI C → zBC f F i c → ∃ c', fX7_findBegins_L2 N B M (nI i) c = some (.inr c') ∧ zeq [] [32] c c' ∧ zBC f F C c' := by
  have hn2 : n2 ≤ 2000 := hx.2.2.2.2.1.1
  have ne : ∀ (x : Int32) (i j : Nat), i < 100 → j < 100 → x = nI i → x = nI j → i = j := fun x i j hi hj e1 e2 => (nI_eq (by omega) (by omega)).mp (e1.symm.trans e2)
  intro d
  induction d with
  | zero =>
    intro i M c hi hM hc h3 h4 hP
    obtain ⟨M, rfl⟩ : ∃ q, M = q + 1 := ⟨M - 1, by omega⟩
    have e : i = C := by omega
    subst e
    refine ⟨c, ?_, zeq_refl _ _ _, hP⟩
    show fX7_findBegins_L2S N B (fX7_findBegins_L2 N B M) (nI i) c = _
    unfold fX7_findBegins_L2S
    rw [h4, if_pos (nI_le (Nat.le_refl _) (by omega))]
  | succ d ih =>
    intro i M c hi hM hc h3 h4 hP
    obtain ⟨M, rfl⟩ : ∃ q, M = q + 1 := ⟨M - 1, by omega⟩
    obtain ⟨o, ho, ho2⟩ := hf (F + i) (by omega)
    have hsort : fX7_sortAt N B (nI i) c = some (nI o, c) := by
      unfold fX7_sortAt
      rw [h3, nI_add, (x_cell hx hc 0).2.2.1 (F + i) 0 0 (by omega) (by omega) rfl, zbn_s, ← ho, hfd]
    have zi : zga (nI i) (zlen 32) = true := zga_l (by rfl) (show i < 60 by omega) (by decide)
    have key : ∀ v : Int32, (∀ n a, F ≤ a → zEx f n a (F + i + 1) → v = nI (a - F)) → ∃ c', fX7_findBegins_L2 N B M (nI (i + 1)) (zsr c 32 (nI i) v) = some (.inr c') ∧ zeq [] [32] c c' ∧ zBC f F C c' := by
      intro v hv
      have z1 : zeq [] [32] c (zsr c 32 (nI i) v) := zeq_r (by simp)
      obtain ⟨c', e1, e2, e3⟩ := ih (i + 1) M (zsr c 32 (nI i) v) (by omega) (by omega) (zeq_trans hc (zeq_mono z1 (fun _ h => absurd h List.not_mem_nil) (by decide))) h3 h4 (fun t ht1 ht2 n a ha he => by
        rw [zsr_g (by omega)]
        by_cases e : t = F + i
        · subst e
          rw [if_pos (by omega)]
          exact hv n a ha he
        · rw [if_neg (by omega)]
          exact hP t ht1 (by omega) n a ha he)
      exact ⟨c', e1, zeq_trans z1 e2, e3⟩
    have hL : fX7_findBegins_L2 N B (M + 1) (nI i) c = zbn (fX1_isTwoSided N (nI o) c) (fun x4 s5 => if x4 = 0 then zbn (fX1_isAhead N (nI o) s5) (fun x7 s8 => if x7 = 0 then if zga (nI i) (zlen 32) = true then fX7_findBegins_L2 N B M (nI i + 1) (zsr s8 32 (nI i) (nI i)) else none else zbn (fX7_beginOf N (nI i - 1) s8) (fun x11 s12 => if zga (nI i) (zlen 32) = true then fX7_findBegins_L2 N B M (nI i + 1) (zsr s12 32 (nI i) x11) else none)) else zbn (fX7_beginOf N (nI i - 1) s5) (fun x15 s16 => zbn (fX7_beginOf N (x15 - 1) s16) (fun x18 s19 => if zga (nI i) (zlen 32) = true then fX7_findBegins_L2 N B M (nI i + 1) (zsr s19 32 (nI i) x18) else none))) := by
      show fX7_findBegins_L2S N B (fX7_findBegins_L2 N B M) (nI i) c = _
      unfold fX7_findBegins_L2S
      rw [h4, if_neg (nI_ge (by omega) (by omega)), if_neg (show ¬ nI (zlen 32) ≤ nI i from nI_ge (show i < 60 by omega) (by decide)), hsort, zbn_s]
    rw [hL, (c_two (by omega)).1, zbn_s]
    by_cases c2 : 12 ≤ o ∧ o ≤ 21
    · rw [if_pos c2, if_neg (show ¬ (1 : Int32) = 0 by decide)]
      obtain ⟨x15, e15⟩ := b_any (N := N) (c := c) (nI i - 1)
      obtain ⟨x18, e18⟩ := b_any (N := N) (c := c) (x15 - 1)
      rw [e15, zbn_s, e18, zbn_s, if_pos zi, nI_1]
      refine key x18 (fun n a ha he => ?_)
      cases n with
      | zero => exact he.elim
      | succ n =>
        rcases he with ⟨h1, p, g2, g3⟩ | ⟨y, h1, ⟨p, g2, g3⟩, g4⟩ | ⟨y, m, p, h1, g2, g3, g4, g5, g6⟩
        · rw [show a = F + i by omega] at g3
          have := ne _ o p (by omega) (by omega) ho g3
          omega
        · rw [show y = F + i by omega] at g3
          have := ne _ o p (by omega) (by omega) ho g3
          omega
        · have ey : y = F + i := by omega
          subst ey
          have l1 := zEx_lt n a m g5
          have l2 := zEx_lt n m (F + i) g6
          have p1 := hP (F + i - 1) (by omega) (by omega) n m (by omega) (by rw [show F + i - 1 + 1 = F + i by omega]; exact g6)
          have p2 := hP (m - 1) (by omega) (by omega) n a ha (by rw [show m - 1 + 1 = m by omega]; exact g5)
          rw [show nI i - 1 = nI (i - 1) by rw [show i = i - 1 + 1 by omega]; exact nI_pred _, b_at h4 (by omega) hC] at e15
          have q15 : x15 = nI (m - F) := by
            have h9 : c.2.1 32 (i - 1) = x15 := congrArg Prod.fst (Option.some.inj e15)
            rw [← h9, ← p1, show F + i - 1 - F = i - 1 by omega]
          rw [q15, show nI (m - F) - 1 = nI (m - F - 1) by rw [show m - F = m - F - 1 + 1 by omega]; exact nI_pred _, b_at h4 (by omega) hC] at e18
          have h9 : c.2.1 32 (m - F - 1) = x18 := congrArg Prod.fst (Option.some.inj e18)
          rw [← h9, ← p2, show m - 1 - F = m - F - 1 by omega]
    · rw [if_neg c2, if_pos rfl, (c_two (by omega)).2, zbn_s]
      by_cases c3 : o = 10 ∨ o = 11
      · rw [if_pos c3, if_neg (show ¬ (1 : Int32) = 0 by decide)]
        obtain ⟨x11, e11⟩ := b_any (N := N) (c := c) (nI i - 1)
        rw [e11, zbn_s, if_pos zi, nI_1]
        refine key x11 (fun n a ha he => ?_)
        cases n with
        | zero => exact he.elim
        | succ n =>
          rcases he with ⟨h1, p, g2, g3⟩ | ⟨y, h1, ⟨p, g2, g3⟩, g4⟩ | ⟨y, m, p, h1, g2, g3, g4, g5, g6⟩
          · rw [show a = F + i by omega] at g3
            have := ne _ o p (by omega) (by omega) ho g3
            omega
          · have ey : y = F + i := by omega
            subst ey
            have l1 := zEx_lt n a (F + i) g4
            have p1 := hP (F + i - 1) (by omega) (by omega) n a ha (by rw [show F + i - 1 + 1 = F + i by omega]; exact g4)
            rw [show nI i - 1 = nI (i - 1) by rw [show i = i - 1 + 1 by omega]; exact nI_pred _, b_at h4 (by omega) hC] at e11
            have h9 : c.2.1 32 (i - 1) = x11 := congrArg Prod.fst (Option.some.inj e11)
            rw [← h9, ← p1, show F + i - 1 - F = i - 1 by omega]
          · rw [show y = F + i by omega] at g4
            have := ne _ o p (by omega) (by omega) ho g4
            omega
      · rw [if_neg c3, if_pos rfl, if_pos zi, nI_1]
        refine key (nI i) (fun n a ha he => ?_)
        cases n with
        | zero => exact he.elim
        | succ n =>
          rcases he with ⟨h1, p, g2, g3⟩ | ⟨y, h1, ⟨p, g2, g3⟩, g4⟩ | ⟨y, m, p, h1, g2, g3, g4, g5, g6⟩
          · rw [show a - F = i by omega]
          · rw [show y = F + i by omega] at g3
            have := ne _ o p (by omega) (by omega) ho g3
            omega
          · rw [show y = F + i by omega] at g4
            have := ne _ o p (by omega) (by omega) ho g4
            omega
set_option maxHeartbeats 1000000 in
theorem fbM {N F C n2 : Nat} {f : Nat → Int32} (hF : F + C ≤ n2) (h2 : n2 ≤ 2000) (hC : C ≤ 60) : ∀ (n a z : Nat), zEx f n a z → F ≤ a → z ≤ F + C → ∀ (h : Nat) (m : zS), h ≤ a - F → (∀ t, t < n2 → m.2.1 39 (4000 + 2 * t) = f t) → ∃ m', (∀ M, fX10_findBegins_L5 N (nI F) (nI C) (M + (z - a)) (nI h) (nI a) m = fX10_findBegins_L5 N (nI F) (nI C) M (nI (h + 1)) (nI z) m') ∧ zeq [] [45, 47] m m' ∧ m'.2.1 47 h = nI a ∧ (∀ k, k < h → m'.2.1 47 k = m.2.1 47 k) ∧ (∀ k, k < a - F → m'.2.1 45 k = m.2.1 45 k) ∧ ∀ t, a ≤ t → t < z → ∀ n' a', F ≤ a' → zEx f n' a' (t + 1) → m'.2.1 45 (t - F) = nI a' := by
  have ne : ∀ (x : Int32) (i j : Nat), i < 100 → j < 100 → x = nI i → x = nI j → i = j := fun x i j hi hj e1 e2 => (nI_eq (by omega) (by omega)).mp (e1.symm.trans e2)
  -- the end of a turn
  have J : ∀ (M h t a : Nat) (m : zS), t < F + C → F ≤ t → h ≤ t - F → fX10_findBegins_J64 N (nI F) (nI C) (fX10_findBegins_L5 N (nI F) (nI C) M) (nI h) (nI t) (nI a) m = fX10_findBegins_L5 N (nI F) (nI C) M (nI (h + 1)) (nI (t + 1)) (zsr (zsr m 45 (nI (t - F)) (nI a)) 47 (nI h) (nI a)) := by
    intro M h t a m q1 q2 q3
    unfold fX10_findBegins_J64
    rw [pk_sub q2, if_pos (zga_l (by rfl) (show t - F < 2001 by omega) (by decide)), if_pos (zga_l (by rfl) (show h < 2001 by omega) (by decide)), nI_1, nI_1]
  have S : ∀ (M h t o : Nat) (m : zS), t < F + C → o < 100 → f t = nI o → (∀ t, t < n2 → m.2.1 39 (4000 + 2 * t) = f t) → fX10_findBegins_L5 N (nI F) (nI C) (M + 1) (nI h) (nI t) m = (if nI o ≤ 11 then if nI o ≤ 9 then fX10_findBegins_J64 N (nI F) (nI C) (fX10_findBegins_L5 N (nI F) (nI C) M) (nI h) (nI t) (nI t) m else if zga (nI h + (-1)) (zlen 47) = true then fX10_findBegins_J64 N (nI F) (nI C) (fX10_findBegins_L5 N (nI F) (nI C) M) (nI h + (-1)) (nI t) (m.2.1 47 (nI h + (-1)).toNatClampNeg) m else none else if zga (nI h + (-2)) (zlen 47) = true then fX10_findBegins_J64 N (nI F) (nI C) (fX10_findBegins_L5 N (nI F) (nI C) M) (nI h + (-2)) (nI t) (m.2.1 47 (nI h + (-2)).toNatClampNeg) m else none) := by
    intro M h t o m q1 q2 q3 q4
    have e0 : (4000 : Int32) + 2 * nI t = nI (4000 + 2 * t) := by rw [show (2 : Int32) * nI t = nI (2 * t) from pk_mul 2 t]; exact nI_add 4000 _
    have hw : fX10_whatOf N (nI t) m = some (nI o, m) := by
      unfold fX10_whatOf
      rw [e0, if_pos (zga_l (by rfl) (show 4000 + 2 * t < 8000 by omega) (by decide)), nI_clamp (by omega), q4 t (by omega), q3]
    show fX10_findBegins_L5S N (nI F) (nI C) (fX10_findBegins_L5 N (nI F) (nI C) M) (nI h) (nI t) m = _
    unfold fX10_findBegins_L5S
    rw [nI_add, if_neg (nI_ge q1 (by omega)), hw, zbn_s]
  -- what a turn leaves
  have R : ∀ (m : zS) (h t a : Nat), F ≤ t → t < F + C → h ≤ t - F → zeq [] [45, 47] m (zsr (zsr m 45 (nI (t - F)) (nI a)) 47 (nI h) (nI a)) ∧ (∀ k, (zsr (zsr m 45 (nI (t - F)) (nI a)) 47 (nI h) (nI a)).2.1 47 k = if k = h then nI a else m.2.1 47 k) ∧ (∀ k, (zsr (zsr m 45 (nI (t - F)) (nI a)) 47 (nI h) (nI a)).2.1 45 k = if k = t - F then nI a else m.2.1 45 k) := by
    intro m h t a q1 q2 q3
    refine ⟨zeq_trans (zeq_r (by simp)) (zeq_r (by simp)), fun k => ?_, fun k => ?_⟩
    · rw [zsr_g (by omega), zsr_o (show (47 : Nat) ≠ 45 by decide)]
    · rw [zsr_o (show (45 : Nat) ≠ 47 by decide), zsr_g (by omega)]
  intro n
  induction n with
  | zero => intro a z h; exact h.elim
  | succ n ih =>
    intro a z hE ha hz h m hh h39
    have hE' := hE
    rcases hE with ⟨h1, o, ho, hfo⟩ | ⟨y, h1, ⟨o, ho, hfo⟩, h4⟩ | ⟨y, mm, o, h1, g2, g3, hfo, g5, g6⟩
    · subst h1
      obtain ⟨r1, r2, r3⟩ := R m h a a ha (by omega) hh
      refine ⟨_, fun M => ?_, r1, by rw [r2, if_pos rfl], fun k hk => by rw [r2, if_neg (by omega)], fun k hk => by rw [r3, if_neg (by omega)], fun t q1 q2 n' a' q3 q4 => ?_⟩
      · rw [show a + 1 - a = 1 by omega, S M h a o m (by omega) (by omega) hfo h39, if_pos (show nI o ≤ 11 from nI_le (b := 11) (by omega) (by decide)), if_pos (show nI o ≤ 9 from nI_le (b := 9) (by omega) (by decide)), J M h a a m (by omega) ha hh]
      · have et : t = a := by omega
        subst et
        rw [r3, if_pos rfl, zEx_uniq _ _ _ _ _ hE' q4]
    · subst h1
      have l1 := zEx_lt n a y h4
      obtain ⟨m1, i1, i2, i3, i4, i5, i6⟩ := ih a y h4 ha (by omega) h m hh h39
      have h39' : ∀ t, t < n2 → m1.2.1 39 (4000 + 2 * t) = f t := fun t ht => by rw [i2.2.1 39 (by decide)]; exact h39 t ht
      obtain ⟨r1, r2, r3⟩ := R m1 h y a (by omega) (by omega) (by omega)
      refine ⟨_, fun M => ?_, zeq_trans i2 r1, by rw [r2, if_pos rfl], fun k hk => by rw [r2, if_neg (by omega)]; exact i4 k hk, fun k hk => by rw [r3, if_neg (by omega)]; exact i5 k hk, fun t q1 q2 n' a' q3 q4 => ?_⟩
      · rw [show M + (y + 1 - a) = M + 1 + (y - a) by omega, i1, S M (h + 1) y o m1 (by omega) (by omega) hfo h39', if_pos (show nI o ≤ 11 from nI_le (b := 11) (by omega) (by decide)), if_neg (show ¬ nI o ≤ (9 : Int32) from nI_ge (a := 9) (by omega) (by omega)), pk_m1, if_pos (zga_l (by rfl) (show h < 2001 by omega) (by decide)), nI_clamp (by omega), i3, J M h y a m1 (by omega) (by omega) (by omega)]
      · by_cases et : t = y
        · subst et
          rw [r3, if_pos rfl, zEx_uniq _ _ _ _ _ hE' q4]
        · rw [r3, if_neg (by omega)]
          exact i6 t q1 (by omega) n' a' q3 q4
    · subst h1
      have l1 := zEx_lt n a mm g5
      have l2 := zEx_lt n mm y g6
      obtain ⟨m1, i1, i2, i3, i4, i5, i6⟩ := ih a mm g5 ha (by omega) h m hh h39
      have h39' : ∀ t, t < n2 → m1.2.1 39 (4000 + 2 * t) = f t := fun t ht => by rw [i2.2.1 39 (by decide)]; exact h39 t ht
      obtain ⟨m2, j1, j2, j3, j4, j5, j6⟩ := ih mm y g6 (by omega) (by omega) (h + 1) m1 (by omega) h39'
      have h39'' : ∀ t, t < n2 → m2.2.1 39 (4000 + 2 * t) = f t := fun t ht => by rw [j2.2.1 39 (by decide)]; exact h39' t ht
      obtain ⟨r1, r2, r3⟩ := R m2 h y a (by omega) (by omega) (by omega)
      refine ⟨_, fun M => ?_, zeq_trans i2 (zeq_trans j2 r1), by rw [r2, if_pos rfl], fun k hk => by rw [r2, if_neg (by omega), j4 k (by omega)]; exact i4 k hk, fun k hk => by rw [r3, if_neg (by omega), j5 k (by omega)]; exact i5 k hk, fun t q1 q2 n' a' q3 q4 => ?_⟩
      · have e2 : nI (h + 1 + 1) + (-2) = nI h := by rw [show h + 1 + 1 = h + 2 by omega, show (-2 : Int32) = -nI 2 from rfl, ← Int32.sub_eq_add_neg, pk_sub (by omega), show h + 2 - 2 = h by omega]
        rw [show M + (y + 1 - a) = M + 1 + (y - mm) + (mm - a) by omega, i1, j1, S M (h + 1 + 1) y o m2 (by omega) (by omega) hfo h39'', if_neg (show ¬ nI o ≤ (11 : Int32) from nI_ge (a := 11) (by omega) (by omega)), e2, if_pos (zga_l (by rfl) (show h < 2001 by omega) (by decide)), nI_clamp (by omega), j4 h (by omega), i3, J M h y a m2 (by omega) (by omega) (by omega)]
      · by_cases et : t = y
        · subst et
          rw [r3, if_pos rfl, zEx_uniq _ _ _ _ _ hE' q4]
        · rw [r3, if_neg (by omega)]
          by_cases e3 : t < mm
          · rw [j5 (t - F) (by omega)]
            exact i6 t q1 e3 n' a' q3 q4
          · exact j6 t (by omega) (by omega) n' a' q3 q4
