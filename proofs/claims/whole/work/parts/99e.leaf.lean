set_option maxHeartbeats 400000 in
theorem zbt_s {α β : Type} {x : α} {s : zS} {kx : zS → Option β} {k : α → zS → Option β} : zbt (some (some x, s)) kx k = k x s := rfl
set_option maxHeartbeats 400000 in
theorem zbt_n {α β : Type} {s : zS} {kx : zS → Option β} {k : α → zS → Option β} : zbt (some (none, s)) kx k = kx s := rfl
def zCx (T : Nat → Nat) (n L N : Nat) : Prop := (∀ j, j < n → T j < 256) ∧ (∀ j, j < L → ¬ zlst T n j) ∧ zlst T n L ∧ L ≤ n ∧ n ≤ 1000 ∧ 3100 ≤ N
set_option maxHeartbeats 400000 in
theorem cx_w {T : Nat → Nat} {n L N i : Nat} (h : zCx T n L N) (hi : i ≤ L) : zWk T n (zps T n i) (zw T n i) := (zw_k h.1 L h.2.1 i hi).2.2
set_option maxHeartbeats 400000 in
theorem cx_lt {T : Nat → Nat} {n L N i : Nat} (h : zCx T n L N) (hi : i ≤ L) (h0 : (zw T n i).1 ≠ 0) (h24 : (zw T n i).1 ≠ 24) : i < L := by
  have hw := cx_w h hi
  by_cases e : i = L
  · subst e
    have h3 := h.2.2.1
    rcases h3 with h3 | h3
    · exact absurd h3 h24
    · have h3' : (zw T n i).2.2.1 = n := h3
      rcases hw with ⟨g1, -⟩ | ⟨g1, -⟩ | ⟨g1, g2, g3, -⟩
      · exact absurd g1 h0
      · exact absurd g1 h24
      · omega
  · omega
set_option maxHeartbeats 400000 in
theorem cx_bad {T : Nat → Nat} {n L N i : Nat} (h : zCx T n L N) (hi : i ≤ L) (h24 : (zw T n i).1 = 24) : ∃ f : Nat, 1 ≤ f ∧ f ≤ 4 ∧ (zw T n i).2.1 = nI f := by
  rcases cx_w h hi with ⟨g1, -⟩ | ⟨-, -, -, f, f1, f2, f3⟩ | ⟨-, -, -, g4⟩
  · omega
  · exact ⟨f, f1, f2, f3⟩
  · rcases g4 with ⟨q, -⟩ | ⟨q, -⟩ | ⟨q, -⟩ | ⟨q, -⟩ | ⟨q, -⟩ | ⟨q, -⟩ | ⟨q, q2, -⟩ <;> omega
def zItA (b n3 : Nat) (c : zS) (it : Int32 × Int32) (x : Nat) : Prop :=
  (it.1 = nI 0 ∧ (10 ≤ x ∨ ∃ v : Nat, v < 10 ∧ it.2 = nI v ∧ 1 ≤ x)) ∨ (it.1 = nI 1 ∧ ∃ k l : Nat, k < n3 ∧ it.2 = nI k ∧ c.2.1 (b + 8) (k * 2 + 1) = nI l ∧ l ≤ x) ∨ (it.1 = nI 2 ∧ ∃ v : Nat, v < 20 ∧ it.2 = nI v ∧ 2 ≤ x) ∨ (it.1 = nI 3 ∧ 1 ≤ x) ∨ (∃ o : Nat, 10 ≤ o ∧ o ≤ 21 ∧ it.1 = nI o ∧ 1 ≤ x ∧ (12 ≤ o → 5 ≤ x) ∧ (o = 17 ∨ o = 18 → 6 ≤ x))
set_option maxHeartbeats 400000 in
theorem zItA_mono {b n3 n3' : Nat} {c c' : zS} {it : Int32 × Int32} {x : Nat} (h : zItA b n3 c it x) (h3 : n3 ≤ n3') (hc : ∀ x, x < n3 * 2 → c'.2.1 (b + 8) x = c.2.1 (b + 8) x) : zItA b n3' c' it x := by
  rcases h with h | ⟨h1, k, l, h2, h4, h5, h6⟩ | h | h | h
  · exact Or.inl h
  · exact Or.inr (Or.inl ⟨h1, k, l, by omega, h4, (hc _ (by omega)).trans h5, h6⟩)
  · exact Or.inr (Or.inr (Or.inl h))
  · exact Or.inr (Or.inr (Or.inr (Or.inl h)))
  · exact Or.inr (Or.inr (Or.inr (Or.inr h)))
def zXp : Nat → List (Int32 × Int32) → Prop
  | 0, _ => False
  | n + 1, e => (∃ (it : Int32 × Int32) (o : Nat), e = [it] ∧ o ≤ 3 ∧ it.1 = nI o) ∨ (∃ (e1 : List (Int32 × Int32)) (it : Int32 × Int32) (o : Nat), e = e1 ++ [it] ∧ (o = 10 ∨ o = 11) ∧ it.1 = nI o ∧ zXp n e1) ∨ (∃ (e1 e2 : List (Int32 × Int32)) (it : Int32 × Int32) (o : Nat), e = e1 ++ e2 ++ [it] ∧ 12 ≤ o ∧ o ≤ 21 ∧ it.1 = nI o ∧ zXp n e1 ∧ zXp n e2)
set_option maxHeartbeats 400000 in
theorem zXp_mono : ∀ (n k : Nat) (e : List (Int32 × Int32)), zXp n e → n ≤ k → zXp k e
  | 0, _, _, h, _ => h.elim
  | n + 1, 0, _, _, hk => absurd hk (by omega)
  | n + 1, k + 1, e, h, hk => by
    rcases h with h | ⟨e1, it, o, h1, h2, h3, h4⟩ | ⟨e1, e2, it, o, h1, h2, h3, h4, h5, h6⟩
    · exact Or.inl h
    · exact Or.inr (Or.inl ⟨e1, it, o, h1, h2, h3, zXp_mono n k e1 h4 (by omega)⟩)
    · exact Or.inr (Or.inr ⟨e1, e2, it, o, h1, h2, h3, h4, zXp_mono n k e1 h5 (by omega), zXp_mono n k e2 h6 (by omega)⟩)
/-- the tail of a leaf: the class steps and adds it, the reference emits, reduces the signs ahead, goes on -/
def zLt (T : Nat → Nat) (n b L i n3 nb : Nat) (lc : List (Int32 × Int32)) (F k d op : Nat) (U rest : List Nat) (c m : zS) : Prop := zPC T n b L i c ∧ zPM T n i m ∧ zPN b n3 nb c m ∧ nb ≤ (zw T n i).2.2.2 ∧ zIC b lc c ∧ zIM lc m ∧ zSK (U ++ rest) m ∧ (c.1 307 = nI F ∧ c.1 308 = nI k ∧ m.1 3324 = nI (F + k) ∧ m.1 3325 = nI k ∧ k ≤ 60) ∧ m.1 3326 = nI d ∧ m.1 3327 = nI op ∧ (lc.length + (U ++ rest).length ≤ i ∧ F ≤ i ∧ op ≤ i ∧ d ≤ 22) ∧ (∀ u, u ∈ U → u = 10 ∨ u = 11) ∧ (∀ x r, rest = x :: r → x ≠ 10 ∧ x ≠ 11 ∧ x < 100) ∧ U.length ≤ d
set_option maxHeartbeats 400000 in
theorem zPN_keep {b n3 nb : Nat} {c m c' m' : zS} (h : zPN b n3 nb c m) (h1 : c'.1 (100 * (b + 7) + 3) = c.1 (100 * (b + 7) + 3)) (h2 : m'.2.1 36 3 = m.2.1 36 3) (h3 : c'.1 (100 * b + 5) = c.1 (100 * b + 5)) (h4 : c'.2.1 (b + 8) = c.2.1 (b + 8)) (h5 : c'.2.1 (b + 9) = c.2.1 (b + 9)) (h6 : m'.2.1 40 = m.2.1 40) (h7 : m'.2.1 41 = m.2.1 41) : zPN b n3 nb c' m' := by
  unfold zPN at h ⊢
  rw [h1, h2, h3, h4, h5, h6, h7]
  exact h
set_option maxHeartbeats 400000 in
theorem zIC_keep {b : Nat} {l : List (Int32 × Int32)} {c c' : zS} (h : zIC b l c) (h1 : c'.1 (100 * (b + 5) + 3) = c.1 (100 * (b + 5) + 3)) (h2 : c'.2.1 (b + 6) = c.2.1 (b + 6)) : zIC b l c' := by
  unfold zIC at h ⊢
  rw [h1, h2]
  exact h
set_option maxHeartbeats 400000 in
theorem zIM_keep {l : List (Int32 × Int32)} {m m' : zS} (h : zIM l m) (h1 : m'.2.1 36 2 = m.2.1 36 2) (h2 : m'.2.1 39 = m.2.1 39) : zIM l m' := by
  unfold zIM at h ⊢
  rw [h1, h2]
  exact h
set_option maxHeartbeats 400000 in
theorem zPM_keep {T : Nat → Nat} {n i : Nat} {m m' : zS} (h : zPM T n i m) {K A : List Nat} (hz : zeq K A m m') (hK : ∀ k, k ∈ [3303, 3311, 3315, 3316, 3317, 3318, 3320] → k ∉ K) (hA : ∀ a, a ∈ [35, 48] → a ∉ A) : zPM T n i m' := by
  have e : ∀ k, k ∈ [3303, 3311, 3315, 3316, 3317, 3318, 3320] → m'.1 k = m.1 k := fun k hk => hz.1 k (hK k hk)
  refine ⟨zTx_keep h.1 hz (hK 3303 (by decide)) (hA 35 (by decide)), ?_, (e 3320 (by decide)).trans h.2.2⟩
  have h2 := h.2.1
  unfold zMW at h2 ⊢
  rw [e 3315 (by decide), e 3316 (by decide), e 3317 (by decide), e 3318 (by decide), e 3311 (by decide), hz.2.1 48 (hA 48 (by decide))]
  exact h2
set_option maxHeartbeats 400000 in
theorem leafTail {N n b L i n3 nb F k d op so : Nat} {T : Nat → Nat} {lc : List (Int32 × Int32)} {U rest : List Nat} {c m : zS} {v p0 : Int32} {rc0 : Int32 → zS → Option (Option Unit × zS)} {rc1 : Int32 → Int32 → zS → Option (Option Unit × zS)} (hx : zCx T n L N) (hi : i < L) (h0 : (zw T n i).1 ≠ 0) (h24 : (zw T n i).1 ≠ 24) (hso : so ≤ 3) (hms : zMs (zw T n i).1 = (if so = 0 then 2 else if so = 1 then 1 else if so = 2 then 3 else 7)) (h : zLt T n b L i n3 nb lc F k d op U rest c m) : ∃ c' m', fX10_wanted_J297 N v m = some (1, m') ∧ zFx2 b n3 nb c m c' m' ∧ (((zw T n (i + 1)).1 ≠ 24 ∧ fX3_readOne_J75 N rc0 rc1 p0 (nI so) v c = some (some (), c') ∧ zEXP T n b L (i + 1) n3 nb (lc ++ [(nI so, v)]) (lc ++ [(nI so, v)] ++ zi0 U) F k (d - U.length) op rest c' m') ∨ ((zw T n (i + 1)).1 = 24 ∧ fX3_readOne_J75 N rc0 rc1 p0 (nI so) v c = some (none, c') ∧ c'.1 309 = (zw T n (i + 1)).2.1 ∧ c'.1 310 = nI (zw T n (i + 1)).2.2.1 ∧ zPM T n (i + 1) m' ∧ m'.1 3327 = nI op)) := by
  obtain ⟨h1, h2, h3, h4, h5, h6, h7, ⟨f1, f2, f3, f4, f5⟩, h9, h10, ⟨l1, l2, l3, l4⟩, h12, h13, h14⟩ := h
  obtain ⟨x1, x2, x3, x4, x5, x6⟩ := hx
  have hb := h1.1
  have hbb := zb_lt hb
  have hadv := zw_adv x1 x2 hi
  have hlen : (U ++ rest).length = U.length + rest.length := List.length_append
  -- the reference
  obtain ⟨m1, e1, e2, e3, e4, e5⟩ := q_emit (N := N) (u := nI so) (v := v) h6 (by omega)
  have z1 : ∀ kk, m1.1 kk = m.1 kk := fun kk => e3.1 kk List.not_mem_nil
  have s1 : zSK (U ++ rest) m1 := zSK_keep h7 (z1 _) (e3.2.1 43 (by decide))
  obtain ⟨m2, a1, a2, a3, a4, a5, a6, a7⟩ := q_ahead (N := N) (d := d) (by omega) s1 h12 h13 (by omega) ((z1 _).trans h9) h14 e2 (by rw [List.length_append, List.length_singleton]; omega)
  have z2 : ∀ kk, kk ≠ 3323 → kk ≠ 3326 → m2.1 kk = m.1 kk := fun kk q1 q2 => (a5.1 kk (by simp [q1, q2])).trans (z1 kk)
  have hx2 : zTx 35 3303 T n m2 := zTx_M h2.1 (zFM_trans e4 a6)
  obtain ⟨m3, n1, n2, n4⟩ := q_next (N := N) x1 x2 (by omega) hi hx2 ((z2 3318 (by decide) (by decide)).trans (zPM_to h2 h24 h0)) ((z2 3320 (by decide) (by decide)).trans h2.2.2)
  have hJ : fX10_wanted_J297 N v m = some (1, m3) := by
    have gen : ∀ s : Int32, s = nI so → zbn (fX10_emit N s v m) (fun _ s14 => zbn (fX10_ahead N s14) (fun _ s17 => zbn (fX10_next N s17) (fun _ s20 => some ((1 : Int32), s20)))) = some (1, m3) := by
      intro s hs
      rw [hs, e1, zbn_s, a1, zbn_s, n1, zbn_s]
    unfold fX10_wanted_J297
    rw [h2.2.1.1, hms]
    have hcs : so = 0 ∨ so = 1 ∨ so = 2 ∨ so = 3 := by omega
    rcases hcs with rfl | rfl | rfl | rfl
    · exact (if_pos rfl).trans (gen 0 rfl)
    · exact (if_neg (by decide)).trans ((if_pos rfl).trans (gen 1 rfl))
    · exact (if_neg (by decide)).trans ((if_neg (by decide)).trans ((if_pos rfl).trans (gen 2 rfl)))
    · exact (if_neg (by decide)).trans ((if_neg (by decide)).trans ((if_neg (by decide)).trans (gen 3 rfl)))
  have fm : zFM m m3 := zFM_trans e4 (zFM_trans a6 (zFM_eq n4 (by decide) (by simp)))
  have m36 : ∀ j, j ≠ 2 → m3.2.1 36 j = m.2.1 36 j := fun j hj => by
    rw [n4.2.1 36 (by decide), a7 j hj, e5 j hj]
  have zm : zeq zKY [36, 39, 40, 41, 43, 48] m m3 := zeq_trans (zeq_mono e3 (fun _ h => absurd h List.not_mem_nil) (by decide)) (zeq_trans (zeq_mono a5 (by decide) (by decide)) (zeq_mono n4 (by decide) (by decide)))
  have z3 : ∀ kk, kk ≠ 3323 → kk ≠ 3326 → kk ∉ [3311, 3315, 3316, 3317, 3318] → m3.1 kk = m.1 kk := fun kk q1 q2 q3 => (n4.1 kk q3).trans (z2 kk q1 q2)
  -- the class
  obtain ⟨c1, d1, d2, d3⟩ := s3_step (N := N) h1 hi x4
  have zc1 : zeq (zKX b) [b + 6, b + 8, b + 9] c c1 := zeq_mono d1 (fun kk hk => by unfold zKX; simp only [List.mem_cons, List.not_mem_nil, or_false] at hk ⊢; omega) (fun _ h => absurd h List.not_mem_nil)
  have nk : ∀ kk, 700 ≤ kk → c1.1 kk = c.1 kk := fun kk hk => d1.1 kk (by simp only [List.mem_cons, List.not_mem_nil, or_false]; omega)
  have ar : ∀ a, c1.2.1 a = c.2.1 a := fun a => d1.2.1 a List.not_mem_nil
  rcases d3 with ⟨d4, d5⟩ | ⟨d4, d5, d6, d7⟩
  · have ic1 : zIC b lc c1 := zIC_keep h5 (nk _ (by omega)) (ar _)
    obtain ⟨c2, g1, g2, g3⟩ := q_addItem (N := N) (u := nI so) (v := v) hb (d2 d4).2.2.1 ic1 (by omega) (by omega)
    have hcs : so = 0 ∨ so = 1 ∨ so = 2 ∨ so = 3 := by omega
    have hah : fX1_isAhead N (nI so) c1 = some (0, c1) := by
      rcases hcs with rfl | rfl | rfl | rfl <;> rfl
    have zc2 : zeq (zKX b) [b + 6, b + 8, b + 9] c1 c2 := zeq_mono g3 (fun kk hk => by rw [List.mem_singleton.mp hk]; unfold zKX; simp) (fun a ha => by rw [List.mem_singleton.mp ha]; simp)
    have ar2 : ∀ a, a ≠ b + 6 → c2.2.1 a = c.2.1 a := fun a ha => (g3.2.1 a (by simp [ha])).trans (ar a)
    have nk2 : ∀ kk, kk ≠ 100 * (b + 5) + 3 → c2.1 kk = c1.1 kk := fun kk hk => g3.1 kk (by simp [hk])
    refine ⟨c2, m3, hJ, ⟨zeq_trans zc1 zc2, fun x _ => by rw [ar2 _ (by omega)], fun x _ => by rw [ar2 _ (by omega)], zm, fm, fun j hj _ => m36 j hj⟩, Or.inl ⟨d4, ?_, ?_⟩⟩
    · unfold fX3_readOne_J75
      rw [d5, zbt_s, hah, zbn_s, if_pos rfl, (d2 d4).2.1, if_pos hb, g1, zbn_s]
    · have pc2 : zPC T n b L (i + 1) c2 := zPC_keep (d2 d4) (zeq_mono g3 (fun kk hk => by rw [List.mem_singleton.mp hk]; unfold zKC; simp) (fun a ha => by rw [List.mem_singleton.mp ha]; unfold zAC; simp)) (nk2 _ (by omega)) (nk2 _ (by omega)) (nk2 _ (by omega)) (nk2 _ (by omega)) (nk2 _ (by omega))
      refine ⟨pc2, by omega, n2, zPN_keep h3 ((nk2 _ (by omega)).trans (nk _ (by omega))) (m36 3 (by decide)) ((nk2 _ (by omega)).trans (nk _ (by omega))) (ar2 _ (by omega)) (ar2 _ (by omega)) ?_ ?_, by omega, g2, ?_, ?_, ⟨?_, ?_, ?_, ?_, f5⟩, ?_, ?_, ?_⟩
      · rw [n4.2.1 40 (by decide), a5.2.1 40 (by decide), e3.2.1 40 (by decide)]
      · rw [n4.2.1 41 (by decide), a5.2.1 41 (by decide), e3.2.1 41 (by decide)]
      · exact zIM_keep a3 (by rw [n4.2.1 36 (by decide)]) (n4.2.1 39 (by decide))
      · exact zSK_keep a2 (n4.1 3323 (by decide)) (n4.2.1 43 (by decide))
      · rw [nk2 307 (by omega), d1.1 307 (by decide)]; exact f1
      · rw [nk2 308 (by omega), d1.1 308 (by decide)]; exact f2
      · rw [z3 3324 (by decide) (by decide) (by decide)]; exact f3
      · rw [z3 3325 (by decide) (by decide) (by decide)]; exact f4
      · rw [n4.1 3326 (by decide)]; exact a4
      · rw [z3 3327 (by decide) (by decide) (by decide)]; exact h10
      · refine ⟨?_, ?_, by omega, by omega, by omega⟩
        · rw [List.length_append, List.length_append, List.length_singleton, List.length_map]; omega
        · rw [List.length_append, List.length_singleton]; omega
  · refine ⟨c1, m3, hJ, ⟨zc1, fun x _ => by rw [ar], fun x _ => by rw [ar], zm, fm, fun j hj _ => m36 j hj⟩, Or.inr ⟨d4, ?_, d6, d7, n2, ?_⟩⟩
    · unfold fX3_readOne_J75
      rw [d5]
      rfl
    · rw [z3 3327 (by decide) (by decide) (by decide)]; exact h10
