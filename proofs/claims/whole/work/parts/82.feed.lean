theorem zfor1 {β : Type} {S : (Int32 → zS → Option β) → Int32 → zS → Option β} (a b : Nat) (I : Nat → zS → Prop) (Q : β → Prop) (h : ∀ (rec : Int32 → zS → Option β) (i : Nat) (s : zS), a ≤ i → i ≤ b → I i s → (i < b → ∀ t, I (i + 1) t → zp (rec (nI (i + 1)) t) Q) → zp (S rec (nI i) s) Q) (n : Nat) (s : zS) (hn : b - a < n) (hab : a ≤ b) (hs : I a s) : zp ((Nat.rec (motive := fun _ => Int32 → zS → Option β) (fun _ _ => none) (fun _ rec => S rec) n : Int32 → zS → Option β) (nI a) s) Q := by
  have key : ∀ (n i : Nat) (s : zS), a ≤ i → i ≤ b → b - i < n → I i s → zp ((Nat.rec (motive := fun _ => Int32 → zS → Option β) (fun _ _ => none) (fun _ rec => S rec) n : Int32 → zS → Option β) (nI i) s) Q := by
    intro n
    induction n with
    | zero => intro i s _ _ hm; exact absurd hm (Nat.not_lt_zero _)
    | succ n ih => intro i s h1 h2 h3 hI; exact h _ i s h1 h2 hI (fun hb t ht => ih (i + 1) t (by omega) (by omega) (by omega) ht)
  exact key n a s (Nat.le_refl _) hab hn hs
theorem q_and8 (x y : BitVec 32) (h : ∀ i, i < 8 → x.getLsbD i = y.getLsbD i) : x &&& 255#32 = y &&& 255#32 := by
  apply BitVec.eq_of_getLsbD_eq
  intro i hi
  rw [BitVec.getLsbD_and, BitVec.getLsbD_and]
  by_cases c : i < 8
  · rw [h i c]
  · have hz : ∀ i, i < 32 → ¬ i < 8 → (255#32).getLsbD i = false := by decide
    rw [hz i hi c, Bool.and_false, Bool.and_false]
def zbyte (p : Int32) (j : Nat) : Int32 := (p >>> ((24 - (8 * nI j)) &&& 31)) &&& 255
theorem zbyte_by (p : Int32) (j : Nat) : zby (zbyte p j) := by
  obtain ⟨k, h1, h2⟩ := pk_andE (p >>> ((24 - (8 * nI j)) &&& 31)) 8 (m := 255) (by decide)
  exact ⟨k, h1, h2⟩
theorem q_shj : ∀ j, j < 4 → (((24 - (8 * nI j)).toUInt32 &&& Int32.toUInt32 31).toBitVec % 32).toNat = 24 - 8 * j ∧ (((24 - (8 * nI j)) &&& 31).toBitVec.smod 32).toNat = 24 - 8 * j := by decide +kernel
theorem q_byte (p : Int32) (j : Nat) (hj : j < 4) : ((p.toUInt32 >>> ((24 - (8 * nI j)).toUInt32 &&& Int32.toUInt32 31)).toInt32) &&& 255 = zbyte p j := by
  obtain ⟨h1, h2⟩ := q_shj j hj
  unfold zbyte
  apply Int32.toBitVec_inj.mp
  rw [Int32.toBitVec_and, Int32.toBitVec_and]
  have e : (p.toUInt32 >>> ((24 - (8 * nI j)).toUInt32 &&& Int32.toUInt32 31)).toInt32.toBitVec = p.toBitVec >>> (24 - 8 * j) := by
    rw [← h1]
    exact UInt32.toBitVec_shiftRight _ _
  have e2 : (p >>> ((24 - (8 * nI j)) &&& 31)).toBitVec = p.toBitVec.sshiftRight (24 - 8 * j) := by
    rw [← h2]
    rfl
  rw [e, e2]
  refine q_and8 _ _ (fun i hi => ?_)
  rw [BitVec.getLsbD_ushiftRight, BitVec.getLsbD_sshiftRight, if_pos (by omega), decide_eq_false (by omega)]
  rfl
theorem q_letWait {N i : Nat} (hN : 10 ≤ N) (hi : i + 4 ≤ 20) (p0 p : Int32) (hp : p0 = nI i) (s : zS) : zp (fX9_letWait N p0 p s) (fun q => zeq [] [1] s q.2 ∧ ∀ k, q.2.2.1 1 k = if i ≤ k ∧ k < i + 4 then zbyte p (k - i) else s.2.1 1 k) := by
  subst hp
  unfold fX9_letWait
  refine zp_blr (fun t => zeq [] [1] s t ∧ ∀ k, t.2.1 1 k = if i ≤ k ∧ k < i + 4 then zbyte p (k - i) else s.2.1 1 k) ?_ (fun t ht => zp_some ht)
  refine zfor1 (S := fX9_letWait_L2S N (nI i) p) i (i + 4) (fun v t => zeq [] [1] s t ∧ ∀ k, t.2.1 1 k = if i ≤ k ∧ k < v then zbyte p (k - i) else s.2.1 1 k) _ ?_ N s (by omega) (by omega) ⟨zeq_refl _ _ _, fun k => (if_neg (by omega)).symm⟩
  intro rec v t h1 h2 hI hr
  unfold fX9_letWait_L2S
  have e4 : nI i + 4 = nI (i + 4) := nI_add i 4
  rw [e4]
  by_cases c : v < i + 4
  · refine zp_neg (nI_ge c (by omega)) (zp_neg (show ¬ (20 : Int32) ≤ nI v from nI_ge (b := 20) (by omega) (by decide)) (zp_pos (zga_n (show v < 20 by omega) (by decide)) ?_))
    rw [nI_1, pk_sub h1, q_byte p (v - i) (by omega)]
    refine hr c _ ⟨zeq_trans hI.1 (zeq_r (List.mem_singleton.mpr rfl)), fun k => ?_⟩
    rw [zsr_same, nI_clamp (by omega)]
    by_cases e : k = v
    · subst e
      rw [pk_us, if_pos ⟨h1, by omega⟩]
    · rw [pk_un e, hI.2 k]
      by_cases c1 : i ≤ k ∧ k < v
      · rw [if_pos c1, if_pos ⟨c1.1, by omega⟩]
      · rw [if_neg c1, if_neg (by omega)]
  · have e : v = i + 4 := by omega
    subst e
    exact zp_pos (nI_le (Nat.le_refl _) (by omega)) (zp_some ⟨_, rfl, hI⟩)
theorem q_wait {N i : Nat} (hN : 10 ≤ N) (hi : i + 4 ≤ 20) (p0 p : Int32) (hp : p0 = nI i) (s : zS) : zp (fX10_wait N p0 p s) (fun q => zeq [] [34] s q.2 ∧ ∀ k, q.2.2.1 34 k = if i ≤ k ∧ k < i + 4 then zbyte p (k - i) else s.2.1 34 k) := by
  subst hp
  unfold fX10_wait
  refine zp_blr (fun t => zeq [] [34] s t ∧ ∀ k, t.2.1 34 k = if i ≤ k ∧ k < i + 4 then zbyte p (k - i) else s.2.1 34 k) ?_ (fun t ht => zp_some ht)
  refine zfor1 (S := fX10_wait_L2S N (nI i) p) 0 4 (fun v t => zeq [] [34] s t ∧ ∀ k, t.2.1 34 k = if i ≤ k ∧ k < i + v then zbyte p (k - i) else s.2.1 34 k) _ ?_ N s (by omega) (by omega) ⟨zeq_refl _ _ _, fun k => (if_neg (by omega)).symm⟩
  intro rec v t h1 h2 hI hr
  unfold fX10_wait_L2S
  by_cases c : v < 4
  · refine zp_neg (show ¬ (4 : Int32) ≤ nI v from nI_ge (b := 4) (by omega) (by decide)) ?_
    rw [nI_add]
    refine zp_pos (zga_n (show i + v < 20 by omega) (by decide)) ?_
    rw [nI_1]
    refine hr c _ ⟨zeq_trans hI.1 (zeq_r (List.mem_singleton.mpr rfl)), fun k => ?_⟩
    rw [zsr_same, nI_clamp (by omega)]
    by_cases e : k = i + v
    · subst e
      rw [pk_us, if_pos ⟨by omega, by omega⟩]
      show zbyte p v = _
      rw [Nat.add_sub_cancel_left]
    · rw [pk_un e, hI.2 k]
      by_cases c1 : i ≤ k ∧ k < i + v
      · rw [if_pos c1, if_pos ⟨c1.1, by omega⟩]
      · rw [if_neg c1, if_neg (by omega)]
  · have e : v = 4 := by omega
    subst e
    exact zp_pos (nI_le (a := 4) (b := 4) (Nat.le_refl _) (by decide)) (zp_some ⟨_, rfl, hI⟩)
def zfed (p0 p1 p2 p3 p4 : Int32) (f : Nat → Int32) (k : Nat) : Int32 := if 16 ≤ k ∧ k < 16 + 4 then zbyte p4 (k - 16) else if 12 ≤ k ∧ k < 12 + 4 then zbyte p3 (k - 12) else if 8 ≤ k ∧ k < 8 + 4 then zbyte p2 (k - 8) else if 4 ≤ k ∧ k < 4 + 4 then zbyte p1 (k - 4) else if 0 ≤ k ∧ k < 0 + 4 then zbyte p0 (k - 0) else f k
theorem q_feedC {N : Nat} (hN : 10 ≤ N) (p0 p1 p2 p3 p4 : Int32) (s : zS) : zp (fX9_feed N p0 p1 p2 p3 p4 s) (fun q => zeq [] [1] s q.2 ∧ ∀ k, q.2.2.1 1 k = zfed p0 p1 p2 p3 p4 (s.2.1 1) k) := by
  unfold fX9_feed
  refine zp_bn (zp_mono (q_letWait hN (i := 0) (by omega) 0 p0 rfl s) (fun q0 h0 => ?_))
  refine zp_bn (zp_mono (q_letWait hN (i := 4) (by omega) 4 p1 rfl q0.2) (fun q1 h1 => ?_))
  refine zp_bn (zp_mono (q_letWait hN (i := 8) (by omega) 8 p2 rfl q1.2) (fun q2 h2 => ?_))
  refine zp_bn (zp_mono (q_letWait hN (i := 12) (by omega) 12 p3 rfl q2.2) (fun q3 h3 => ?_))
  refine zp_bn (zp_mono (q_letWait hN (i := 16) (by omega) 16 p4 rfl q3.2) (fun q4 h4 => ?_))
  refine zp_some ⟨zeq_trans h0.1 (zeq_trans h1.1 (zeq_trans h2.1 (zeq_trans h3.1 h4.1))), fun k => ?_⟩
  rw [h4.2 k, h3.2 k, h2.2 k, h1.2 k, h0.2 k]
  rfl
theorem q_feedM {N : Nat} (hN : 10 ≤ N) (p0 p1 p2 p3 p4 : Int32) (s : zS) : zp (fX10_feed N p0 p1 p2 p3 p4 s) (fun q => zeq [3300] [34] s q.2 ∧ ∀ k, q.2.2.1 34 k = zfed p0 p1 p2 p3 p4 (s.2.1 34) k) := by
  unfold fX10_feed
  refine zp_bn (zp_mono (q_wait hN (i := 0) (by omega) 0 p0 rfl _) (fun q0 h0 => ?_))
  refine zp_bn (zp_mono (q_wait hN (i := 4) (by omega) 4 p1 rfl q0.2) (fun q1 h1 => ?_))
  refine zp_bn (zp_mono (q_wait hN (i := 8) (by omega) 8 p2 rfl q1.2) (fun q2 h2 => ?_))
  refine zp_bn (zp_mono (q_wait hN (i := 12) (by omega) 12 p3 rfl q2.2) (fun q3 h3 => ?_))
  refine zp_bn (zp_mono (q_wait hN (i := 16) (by omega) 16 p4 rfl q3.2) (fun q4 h4 => ?_))
  have hh := zeq_trans h0.1 (zeq_trans h1.1 (zeq_trans h2.1 (zeq_trans h3.1 h4.1)))
  refine zp_some ⟨zeq_trans (zeq_c (List.mem_singleton.mpr rfl)) (zeq_mono hh (fun k h => absurd h List.not_mem_nil) (fun k h => h)), fun k => ?_⟩
  rw [h4.2 k, h3.2 k, h2.2 k, h1.2 k, h0.2 k]
  rfl
theorem zfed_same {p0 p1 p2 p3 p4 : Int32} {f g : Nat → Int32} (h : ∀ k, k < 20 → f k = g k ∧ zby (f k)) : ∀ k, k < 20 → zfed p0 p1 p2 p3 p4 f k = zfed p0 p1 p2 p3 p4 g k ∧ zby (zfed p0 p1 p2 p3 p4 f k) := by
  intro k hk
  unfold zfed
  split
  · exact ⟨rfl, zbyte_by _ _⟩
  split
  · exact ⟨rfl, zbyte_by _ _⟩
  split
  · exact ⟨rfl, zbyte_by _ _⟩
  split
  · exact ⟨rfl, zbyte_by _ _⟩
  split
  · exact ⟨rfl, zbyte_by _ _⟩
  · exact h k hk
theorem q_endC {N n i : Nat} (hN : 30 ≤ N) (s : zS) (hn : s.1 402 = nI n) (hi : i ≤ 20) (hni : n + i ≤ 3000) : zp (fX9_end N (nI i) s) (fun q => q.1 = nI (n + i) ∧ zeq [402] [1, 5] s q.2 ∧ q.2.1 402 = nI (n + i) ∧ (∀ k, k < 20 → q.2.2.1 1 k = 0) ∧ ∀ k, q.2.2.1 5 k = if n ≤ k ∧ k < n + i then s.2.1 1 (k - n) else s.2.1 5 k) := by
  unfold fX9_end
  rw [hn, nI_add]
  refine zp_neg (nI_pos (by omega)) (zp_neg (show ¬ (20 : Int32) < nI i from nI_nlt (b := i) (a := 20) hi (by decide)) (zp_pos (show nI (n + i) ≤ (3000 : Int32) from nI_le (b := 3000) hni (by decide)) ?_))
  refine zp_blr (fun t => zeq [402] [5] s t ∧ t.1 402 = nI (n + i) ∧ ∀ k, t.2.1 5 k = if n ≤ k ∧ k < n + i then s.2.1 1 (k - n) else s.2.1 5 k) ?_ (fun t ht => ?_)
  · refine zfor1 (S := fX9_end_L32S N (nI i)) 0 i (fun v t => zeq [402] [5] s t ∧ t.1 402 = nI (n + v) ∧ ∀ k, t.2.1 5 k = if n ≤ k ∧ k < n + v then s.2.1 1 (k - n) else s.2.1 5 k) _ ?_ N s (by omega) (by omega) ⟨zeq_refl _ _ _, hn, fun k => (if_neg (by omega)).symm⟩
    intro rec v t h1 h2 hI hr
    unfold fX9_end_L32S
    by_cases c : v < i
    · refine zp_neg (nI_ge c (by omega)) (zp_pos (zga_n (show v < 20 by omega) (by decide)) ?_)
      rw [nI_clamp (by omega)]
      have e1 : t.2.1 1 = s.2.1 1 := hI.1.2.1 1 (by decide)
      have e : fX8_addByte N (t.2.1 1 v) t = some ((), zsc (zsr t 5 (nI (n + v)) (t.2.1 1 v)) 402 (nI (n + v + 1))) := by
        unfold fX8_addByte
        rw [hI.2.1, if_neg (zlen_ge (by rfl) (show n + v < 3000 by omega) (by decide)), if_pos (zga_l (by rfl) (show n + v < 3000 by omega) (by decide)), nI_1]
      refine zp_bne e ?_
      rw [nI_1]
      refine hr c _ ⟨zeq_trans hI.1 (zeq_trans (zeq_r (by decide)) (zeq_c (by decide))), zsc_at, fun k => ?_⟩
      show (zsr t 5 (nI (n + v)) (t.2.1 1 v)).2.1 5 k = _
      rw [zsr_same, nI_clamp (by omega), e1]
      by_cases e : k = n + v
      · subst e
        rw [pk_us, if_pos ⟨by omega, by omega⟩, Nat.add_sub_cancel_left]
      · rw [pk_un e, hI.2.2 k]
        by_cases c1 : n ≤ k ∧ k < n + v
        · rw [if_pos c1, if_pos ⟨c1.1, by omega⟩]
        · rw [if_neg c1, if_neg (by omega)]
    · have e : v = i := by omega
      subst e
      exact zp_pos (nI_le (Nat.le_refl _) (by omega)) (zp_some ⟨_, rfl, hI⟩)
  obtain ⟨hz, hc, hx⟩ := ht
  refine zp_blr (fun u => zeq [] [1] t u ∧ ∀ k, k < 20 → u.2.1 1 k = 0) ?_ (fun u hu => ?_)
  · refine zfor1 (S := fX9_end_L61S N (nI i)) 0 20 (fun v u => zeq [] [1] t u ∧ ∀ k, k < v → u.2.1 1 k = 0) _ ?_ N t (by omega) (by omega) ⟨zeq_refl _ _ _, fun k hk => absurd hk (Nat.not_lt_zero _)⟩
    intro rec v u h1 h2 hI hr
    unfold fX9_end_L61S
    by_cases c : v < 20
    · refine zp_neg (show ¬ (20 : Int32) ≤ nI v from nI_ge (b := 20) c (by decide)) (zp_pos (zga_n (show v < 20 by omega) (by decide)) ?_)
      rw [nI_1]
      refine hr c _ ⟨zeq_trans hI.1 (zeq_r (by decide)), fun k hk => ?_⟩
      rw [zsr_same, nI_clamp (by omega)]
      by_cases e : k = v
      · subst e
        exact pk_us
      · rw [pk_un e, hI.2 k (by omega)]
    · have e : v = 20 := by omega
      subst e
      exact zp_pos (nI_le (a := 20) (b := 20) (Nat.le_refl _) (by decide)) (zp_some ⟨_, rfl, hI⟩)
  have e4 : u.1 402 = nI (n + i) := (hu.1.1 402 (by decide)).trans hc
  rw [e4]
  refine zp_some ⟨rfl, zeq_trans (zeq_mono hz (fun k h => h) (by decide)) (zeq_mono hu.1 (by decide) (by decide)), e4, hu.2, fun k => ?_⟩
  rw [hu.1.2.1 5 (by decide)]
  exact hx k
theorem q_endM {N n i : Nat} (hN : 30 ≤ N) (s : zS) (hn : s.1 3303 = nI n) (hi : i ≤ 20) (hni : n + i ≤ 3000) : zp (fX10_end N (nI i) s) (fun q => q.1 = nI (n + i) ∧ zeq [3300, 3303] [34, 35] s q.2 ∧ q.2.1 3303 = nI (n + i) ∧ (∀ k, k < 20 → q.2.2.1 34 k = 0) ∧ ∀ k, q.2.2.1 35 k = if n ≤ k ∧ k < n + i then s.2.1 34 (k - n) else s.2.1 35 k) := by
  unfold fX10_end
  rw [hn, nI_add]
  refine zp_neg (nI_pos (by omega)) (zp_neg (show ¬ (20 : Int32) < nI i from nI_nlt (b := i) (a := 20) hi (by decide)) (zp_pos (show nI (n + i) ≤ (3000 : Int32) from nI_le (b := 3000) hni (by decide)) ?_))
  refine zp_blr (fun t => zeq [3300] [35] s t ∧ ∀ k, t.2.1 35 k = if n ≤ k ∧ k < n + i then s.2.1 34 (k - n) else s.2.1 35 k) ?_ (fun t ht => ?_)
  · refine zfor1 (S := fX10_end_L31S N (nI i)) 0 i (fun v t => zeq [3300] [35] s t ∧ ∀ k, t.2.1 35 k = if n ≤ k ∧ k < n + v then s.2.1 34 (k - n) else s.2.1 35 k) _ ?_ N _ (by omega) (by omega) ⟨zeq_c (by decide), fun k => (if_neg (by omega)).symm⟩
    intro rec v t h1 h2 hI hr
    unfold fX10_end_L31S
    by_cases c : v < i
    · have e1 : t.2.1 34 = s.2.1 34 := hI.1.2.1 34 (by decide)
      have e3 : t.1 3303 = nI n := (hI.1.1 3303 (by decide)).trans hn
      rw [e3, nI_add]
      refine zp_neg (nI_ge c (by omega)) (zp_pos (zga_n (show v < 20 by omega) (by decide)) (zp_pos (zga_n (show n + v < 3000 by omega) (by decide)) ?_))
      rw [nI_1]
      refine hr c _ ⟨zeq_trans hI.1 (zeq_r (by decide)), fun k => ?_⟩
      rw [zsr_same, nI_clamp (show n + v < 2 ^ 31 by omega), e1, nI_clamp (show v < 2 ^ 31 by omega)]
      by_cases e : k = n + v
      · subst e
        rw [pk_us, if_pos ⟨by omega, by omega⟩, Nat.add_sub_cancel_left]
      · rw [pk_un e, hI.2 k]
        by_cases c1 : n ≤ k ∧ k < n + v
        · rw [if_pos c1, if_pos ⟨c1.1, by omega⟩]
        · rw [if_neg c1, if_neg (by omega)]
    · have e : v = i := by omega
      subst e
      exact zp_pos (nI_le (Nat.le_refl _) (by omega)) (zp_some ⟨_, rfl, hI⟩)
  obtain ⟨hz, hx⟩ := ht
  refine zp_blr (fun u => zeq [] [34] t u ∧ ∀ k, k < 20 → u.2.1 34 k = 0) ?_ (fun u hu => ?_)
  · refine zfor1 (S := fX10_end_L61S N (nI i)) 0 20 (fun v u => zeq [] [34] t u ∧ ∀ k, k < v → u.2.1 34 k = 0) _ ?_ N t (by omega) (by omega) ⟨zeq_refl _ _ _, fun k hk => absurd hk (Nat.not_lt_zero _)⟩
    intro rec v u h1 h2 hI hr
    unfold fX10_end_L61S
    by_cases c : v < 20
    · refine zp_neg (show ¬ (20 : Int32) ≤ nI v from nI_ge (b := 20) c (by decide)) (zp_pos (zga_n (show v < 20 by omega) (by decide)) ?_)
      rw [nI_1]
      refine hr c _ ⟨zeq_trans hI.1 (zeq_r (by decide)), fun k hk => ?_⟩
      rw [zsr_same, nI_clamp (by omega)]
      by_cases e : k = v
      · subst e
        exact pk_us
      · rw [pk_un e, hI.2 k (by omega)]
    · have e : v = 20 := by omega
      subst e
      exact zp_pos (nI_le (a := 20) (b := 20) (Nat.le_refl _) (by decide)) (zp_some ⟨_, rfl, hI⟩)
  have e4 : u.1 3303 = nI n := (hu.1.1 3303 (by decide)).trans ((hz.1 3303 (by decide)).trans hn)
  rw [e4, nI_add]
  refine zp_some ⟨rfl, zeq_trans (zeq_mono hz (by decide) (by decide)) (zeq_trans (zeq_mono hu.1 (by decide) (by decide)) (zeq_c (by decide))), zsc_at, hu.2, fun k => ?_⟩
  show u.2.1 35 k = _
  rw [hu.1.2.1 35 (by decide)]
  exact hx k
theorem q_end_no {N n : Nat} (s : zS) (hn : s.1 402 = nI n) (hn2 : s.1 3303 = nI n) (hn3 : n ≤ 2900) (p : Int32) (h : p < 0 ∨ 20 < p) : fX9_end N p s = some ((-1), s) ∧ fX10_end N p s = some ((-1), zsc s 3300 0) := by
  unfold fX9_end fX10_end
  by_cases c : p < 0
  · exact ⟨by rw [if_pos c], by rw [if_pos c]⟩
  · have h2 := h.resolve_left c
    exact ⟨by rw [if_neg c, if_pos h2], by rw [if_neg c, if_pos h2]⟩
