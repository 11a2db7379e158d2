theorem q_addRow {N a w n m L : Nat} {s : zS} (h1 : s.1 (100 * a + 1) = nI w) (h2 : s.1 (100 * a + 2) = nI m) (h3 : s.1 (100 * a + 3) = nI n) (hL : zlen (a + 1) = L) (hn : n < m) (hm : m * w ≤ L) (hL2 : L < 2 ^ 30) (hm2 : m < 2 ^ 30) (hw : w ≤ 10) (hN : 20 ≤ N) : zp (fX6_addRow N a s) (fun q => q.1 = nI n ∧ zeq [100 * a + 3] [a + 1] s q.2 ∧ q.2.1 (100 * a + 3) = nI (n + 1) ∧ (∀ j, j < n * w → q.2.2.1 (a + 1) j = s.2.1 (a + 1) j) ∧ ∀ j, n * w ≤ j → j < n * w + w → q.2.2.1 (a + 1) j = 0) := by
  have hx : n * w + w ≤ L := by
    have h9 := Nat.mul_le_mul_right w (show n + 1 ≤ m by omega)
    rw [Nat.succ_mul] at h9
    omega
  unfold fX6_addRow
  rw [h1, h2, h3, pk_mul]
  refine zp_pos (nI_lt hn (by omega)) ?_
  refine zp_blr (fun t => zeq [] [a + 1] s t ∧ (∀ j, j < n * w → t.2.1 (a + 1) j = s.2.1 (a + 1) j) ∧ ∀ j, n * w ≤ j → j < n * w + w → t.2.1 (a + 1) j = 0) ?_ (fun t ht => ?_)
  · refine zlp2 (S := fX6_addRow_L25S N a) (fun v1 v2 t => v1 = nI (n * w) ∧ ∃ i, n * w ≤ i ∧ i ≤ n * w + w ∧ v2 = nI i ∧ zeq [] [a + 1] s t ∧ (∀ j, j < n * w → t.2.1 (a + 1) j = s.2.1 (a + 1) j) ∧ ∀ j, n * w ≤ j → j < i → t.2.1 (a + 1) j = 0) (fun _ v2 _ => n * w + w - v2.toNatClampNeg) _ ?_ N _ _ s ⟨rfl, n * w, Nat.le_refl _, by omega, rfl, zeq_refl _ _ _, fun _ _ => rfl, fun j q1 q2 => by omega⟩ (by rw [nI_clamp (by omega)]; omega)
    intro rec v1 v2 t hI hr
    obtain ⟨rfl, i, g1, g2, rfl, g3, g4, g5⟩ := hI
    rw [nI_clamp (by omega)] at hr
    unfold fX6_addRow_L25S
    have e1 : t.1 (100 * a + 1) = nI w := (g3.1 _ List.not_mem_nil).trans h1
    rw [e1, nI_add, hL]
    refine zp_neg (nI_pos (by omega)) ?_
    by_cases c : i < n * w + w
    · refine zp_neg (nI_ge c (by omega)) (zp_neg (nI_ge (by omega) (by omega)) (zp_pos (zga_n (by omega) (by omega)) ?_))
      rw [nI_1]
      refine hr _ _ _ ⟨rfl, i + 1, by omega, by omega, rfl, zeq_trans g3 (zeq_r (List.mem_singleton.mpr rfl)), fun j hj => ?_, fun j q1 q2 => ?_⟩ (by rw [nI_clamp (by omega)]; omega)
      · rw [zsr_same, nI_clamp (by omega), pk_un (by omega)]
        exact g4 j hj
      · rw [zsr_same, nI_clamp (by omega)]
        by_cases e : j = i
        · subst e; exact pk_us
        · rw [pk_un e]; exact g5 j q1 (by omega)
    · have e : i = n * w + w := by omega
      subst e
      exact zp_pos (nI_le (Nat.le_refl _) (by omega)) (zp_some ⟨_, rfl, g3, g4, g5⟩)
  obtain ⟨g3, g4, g5⟩ := ht
  have e3 : t.1 (100 * a + 3) = nI n := (g3.1 _ List.not_mem_nil).trans h3
  refine zp_some ⟨?_, zeq_trans (zeq_mono g3 (fun _ h => absurd h List.not_mem_nil) (fun _ h => h)) (zeq_c (List.mem_singleton.mpr rfl)), ?_, g4, g5⟩
  · show (zsc t (100 * a + 3) (t.1 (100 * a + 3) + 1)).1 (100 * a + 3) - 1 = nI n
    rw [zsc_at, e3, nI_1, nI_pred]
  · show (zsc t (100 * a + 3) (t.1 (100 * a + 3) + 1)).1 (100 * a + 3) = nI (n + 1)
    rw [zsc_at, e3, nI_1]
theorem q_setCell {N a w n k j L : Nat} {s : zS} {p2 : Int32} (h1 : s.1 (100 * a + 1) = nI w) (h3 : s.1 (100 * a + 3) = nI n) (hL : zlen (a + 1) = L) (hk : k < n) (hj : j < w) (hb : n * w ≤ L) (hL2 : L < 2 ^ 31) (hn : n < 2 ^ 31) (hw : w < 2 ^ 31) : fX6_setCell N a (nI k) (nI j) p2 s = some ((), zsr s (a + 1) (nI (k * w + j)) p2) := by
  have hi := q_idx hk hj
  unfold fX6_setCell
  have e : nI k * nI w + nI j = nI (k * w + j) := by rw [pk_mul, nI_add]
  rw [h1, h3, hL, e, if_neg (nI_pos (by omega)), if_neg (nI_ge hk hn), if_neg (nI_pos (by omega)), if_neg (nI_ge hj hw), if_neg (nI_pos (by omega)), if_neg (nI_ge (by omega) hL2), if_pos (zga_n (by omega) hL2)]
theorem zsr_o {s : zS} {a b : Nat} {i x : Int32} (h : b ≠ a) : (zsr s a i x).2.1 b = s.2.1 b := if_neg h
theorem zsr_n {s : zS} {a j : Nat} {i : Nat} {x : Int32} (hi : i < 2 ^ 31) (h : j ≠ i) : (zsr s a (nI i) x).2.1 a j = s.2.1 a j := by rw [zsr_same, nI_clamp hi, pk_un h]
theorem zsr_a {s : zS} {a : Nat} {i : Nat} {x : Int32} (hi : i < 2 ^ 31) : (zsr s a (nI i) x).2.1 a i = x := by rw [zsr_same, nI_clamp hi, pk_us]
theorem q_addWord {N i : Nat} {s : zS} {kd pl v : Int32} (h1 : s.1 601 = nI 3) (h2 : s.1 602 = nI 3001) (h3 : s.1 603 = nI i) (hi : i < 3001) (hN : 20 ≤ N) : zp (fX8_addWord N kd pl v s) (fun q => zeq [603] [7] s q.2 ∧ q.2.1 603 = nI (i + 1) ∧ (∀ j, j < i * 3 → q.2.2.1 7 j = s.2.1 7 j) ∧ q.2.2.1 7 (i * 3 + 0) = kd ∧ q.2.2.1 7 (i * 3 + 1) = pl ∧ q.2.2.1 7 (i * 3 + 2) = v) := by
  unfold fX8_addWord
  refine zp_bn (zp_mono (q_addRow (N := N) (a := 6) (w := 3) (n := i) (m := 3001) (L := 9003) h1 h2 h3 rfl hi (by omega) (by omega) (by omega) (by omega) hN) (fun q hq => ?_))
  obtain ⟨g1, g2, g3, g4, g5⟩ := hq
  rw [g1]
  have f1 : q.2.1 (100 * 6 + 1) = nI 3 := (g2.1 601 (by decide)).trans h1
  refine zp_bne (q_setCell (N := N) (a := 6) (w := 3) (n := i + 1) (k := i) (j := 0) (L := 9003) (p2 := kd) f1 g3 rfl (by omega) (by omega) (by omega) (by omega) (by omega) (by omega)) ?_
  refine zp_bne (q_setCell (N := N) (a := 6) (w := 3) (n := i + 1) (k := i) (j := 1) (L := 9003) (p2 := pl) f1 g3 rfl (by omega) (by omega) (by omega) (by omega) (by omega) (by omega)) ?_
  refine zp_bne (q_setCell (N := N) (a := 6) (w := 3) (n := i + 1) (k := i) (j := 2) (L := 9003) (p2 := v) f1 g3 rfl (by omega) (by omega) (by omega) (by omega) (by omega) (by omega)) ?_
  refine zp_some ⟨zeq_trans g2 (zeq_trans (zeq_r (by decide)) (zeq_trans (zeq_r (by decide)) (zeq_r (by decide)))), g3, fun j hj => ?_, ?_, ?_, ?_⟩
  · rw [zsr_n (by omega) (by omega), zsr_n (by omega) (by omega), zsr_n (by omega) (by omega)]
    exact g4 j hj
  · rw [zsr_n (by omega) (by omega), zsr_n (by omega) (by omega), zsr_a (by omega)]
  · rw [zsr_n (by omega) (by omega), zsr_a (by omega)]
  · rw [zsr_a (by omega)]
theorem zrun_stop (p : Nat → Bool) (T : Nat → Nat) : ∀ m k, zrun p T m k < k + m → p (T (zrun p T m k)) = false
  | 0, k, h => absurd h (by unfold zrun; omega)
  | m + 1, k, h => by
    unfold zrun at h ⊢
    split
    · rename_i c
      rw [if_pos c] at h
      exact zrun_stop p T m (k + 1) (by omega)
    · rename_i c
      simpa using c
def zbk1 (b : Nat) : Bool := decide (b = 32 ∨ b = 9)
def zskp (T : Nat → Nat) (n k : Nat) : Nat := if zrun zbk1 T (n - k) k < n ∧ T (zrun zbk1 T (n - k) k) = 35 then zrun zcm T (n - zrun zbk1 T (n - k) k) (zrun zbk1 T (n - k) k) else zrun zbk1 T (n - k) k
/-- the word from k on: kind, value, place, where the next begins to be sought -/
def zwd (T : Nat → Nat) (n k : Nat) : Nat × Int32 × Nat × Nat := if n ≤ zskp T n k then (0, 0, n, n) else if T (zskp T n k) = 10 then (0, 0, zskp T n k, zskp T n k + 1) else ((ztok T n (zskp T n k)).1, (ztok T n (zskp T n k)).2.1, zskp T n k, (ztok T n (zskp T n k)).2.2)
def zps (T : Nat → Nat) (n : Nat) : Nat → Nat
  | 0 => 0
  | i + 1 => (zwd T n (zps T n i)).2.2.2
theorem zrun_no {p : Nat → Bool} {T : Nat → Nat} {m k : Nat} (h : p (T k) = false) : zrun p T m k = k := by
  cases m with
  | zero => rfl
  | succ m => unfold zrun; rw [if_neg (by rw [h]; decide)]
theorem zskp_b {T : Nat → Nat} {n k : Nat} (hk : k < n) (h : T k = 32 ∨ T k = 9) : zskp T n k = zskp T n (k + 1) := by
  have e : zrun zbk1 T (n - k) k = zrun zbk1 T (n - (k + 1)) (k + 1) := by
    rw [show n - k = (n - (k + 1)) + 1 by omega]
    show (if zbk1 (T k) = true then _ else _) = _
    rw [if_pos (by unfold zbk1; exact decide_eq_true h)]
  unfold zskp
  rw [e]
theorem zskp_id {T : Nat → Nat} {n k : Nat} (h : k < n → ¬ (T k = 32 ∨ T k = 9) ∧ ¬ T k = 35) : zskp T n k = k := by
  by_cases c : k < n
  · have h2 := h c
    have e : zrun zbk1 T (n - k) k = k := zrun_no (by unfold zbk1; exact decide_eq_false h2.1)
    unfold zskp
    rw [e, if_neg (fun z => h2.2 z.2)]
  · have e : zrun zbk1 T (n - k) k = k := by rw [show n - k = 0 by omega]; rfl
    unfold zskp
    rw [e, if_neg (fun z => c z.1)]
theorem zskp_c {T : Nat → Nat} {n k : Nat} (hk : k < n) (h : T k = 35) : zskp T n k = zrun zcm T (n - k) k ∧ zskp T n (zrun zcm T (n - k) k) = zrun zcm T (n - k) k := by
  have e : zrun zbk1 T (n - k) k = k := zrun_no (by unfold zbk1; exact decide_eq_false (by omega))
  refine ⟨?_, zskp_id (fun c => ?_)⟩
  · unfold zskp
    rw [e, if_pos ⟨hk, h⟩]
  · have h2 := zrun_stop zcm T (n - k) k (by omega)
    have h3 : ∀ b, zcm b = false → ¬ (32 ≤ b ∧ b ≤ 126 ∨ b = 9) := fun b h => of_decide_eq_false h
    have := h3 _ h2
    omega
theorem zkos_r : ∀ b, b < 257 → zkos b < 25 := by decide +kernel
theorem ztok_k {T : Nat → Nat} {n k : Nat} (hT : T k < 256) : (ztok T n k).1 < 25 := by
  have hd : ∀ b fr, (zdigs T n b k fr).1 < 25 := by
    intro b fr
    unfold zdigs
    split
    · exact Nat.le_of_ble_eq_true rfl
    · show (if _ then 4 else 5) < 25
      split <;> exact Nat.le_of_ble_eq_true rfl
  unfold ztok
  split
  · unfold znum
    split
    · exact hd _ _
    split
    · exact hd _ _
    split
    · exact Nat.le_of_ble_eq_true rfl
    · exact hd _ _
  split
  · unfold znam
    split
    · exact Nat.le_of_ble_eq_true rfl
    split
    · exact Nat.le_of_ble_eq_true rfl
    · show (if _ then 1 else 2) < 25
      split <;> exact Nat.le_of_ble_eq_true rfl
  split
  · unfold zchr
    split
    · exact Nat.le_of_ble_eq_true rfl
    · split <;> exact Nat.le_of_ble_eq_true rfl
  split
  · unfold zstr
    split <;> exact Nat.le_of_ble_eq_true rfl
  · unfold zsgn
    split
    · show (if _ then 17 else 18) < 25
      split <;> exact Nat.le_of_ble_eq_true rfl
    split
    · exact Nat.le_of_ble_eq_true rfl
    · exact zkos_r _ (by omega)
theorem ztok_e {T : Nat → Nat} {n k : Nat} (hk : k < n) (h : ¬ (ztok T n k).1 = 24) : k < (ztok T n k).2.2 ∧ (ztok T n k).2.2 ≤ n := by
  have hd : ∀ b fr, k ≤ fr → fr ≤ n → ¬ (zdigs T n b k fr).1 = 24 → k < (zdigs T n b k fr).2.2 ∧ (zdigs T n b k fr).2.2 ≤ n := by
    intro b fr h1 h2 h3
    have hle := zrun_le (fun x => decide (zdv x < b)) T (n - fr) fr
    unfold zdigs at h3 ⊢
    split
    · rename_i c
      rw [if_pos c] at h3
      exact absurd rfl h3
    · rename_i c
      show k < zrun (fun x => decide (zdv x < b)) T (n - fr) fr ∧ zrun (fun x => decide (zdv x < b)) T (n - fr) fr ≤ n
      omega
  have hz : ∀ c i, c ≠ 256 → zB T n i = c → i < n := fun c i hc hz => by
    unfold zB at hz
    split at hz <;> omega
  unfold ztok at h ⊢
  split
  · rename_i c0
    rw [if_pos c0] at h
    unfold znum at h ⊢
    split
    · rename_i c
      rw [if_pos c] at h
      exact hd _ _ (by omega) (by have := hz 120 _ (by omega) c.2; omega) h
    rename_i c1
    rw [if_neg c1] at h
    split
    · rename_i c
      rw [if_pos c] at h
      exact hd _ _ (by omega) (by have := hz 98 _ (by omega) c.2.1; omega) h
    rename_i c2
    rw [if_neg c2] at h
    split
    · rename_i c
      show k < k + 2 ∧ k + 2 ≤ n
      have : k + 1 < n := by
        rcases c.1 with c | c
        · exact hz 98 _ (by omega) c
        · exact hz 102 _ (by omega) c
      omega
    · rename_i c3
      rw [if_neg c3] at h
      exact hd _ _ (by omega) (by omega) h
  rename_i c0
  rw [if_neg c0] at h
  split
  · rename_i c
    rw [if_pos c] at h
    have hle := zrun_le znm T (n - k) k
    have hlt : k < zrun znm T (n - k) k := by
      rw [show n - k = (n - (k + 1)) + 1 by omega]
      show k < (if znm (T k) = true then _ else _)
      rw [if_pos c.1]
      have := zrun_le znm T (n - (k + 1)) (k + 1)
      omega
    unfold znam at h ⊢
    split
    · rename_i c
      rw [if_pos c] at h
      exact absurd rfl h
    split
    · show k < zrun znm T (n - k) k ∧ zrun znm T (n - k) k ≤ n
      omega
    · show k < zrun znm T (n - k) k ∧ zrun znm T (n - k) k ≤ n
      omega
  rename_i c1
  rw [if_neg c1] at h
  split
  · rename_i c
    rw [if_pos c] at h
    unfold zchr at h ⊢
    cases hc : zcode T n 39 (k + 1) with
    | none => rw [hc] at h; exact absurd rfl h
    | some v =>
      rw [hc] at h
      show k < (if zB T n (k + 1 + zwid T n (k + 1)) = 39 then _ else _ : Nat × Int32 × Nat).2.2 ∧ (if zB T n (k + 1 + zwid T n (k + 1)) = 39 then _ else _ : Nat × Int32 × Nat).2.2 ≤ n
      by_cases c9 : zB T n (k + 1 + zwid T n (k + 1)) = 39
      · rw [if_pos c9]
        have := hz 39 _ (by omega) c9
        show k < k + 1 + zwid T n (k + 1) + 1 ∧ k + 1 + zwid T n (k + 1) + 1 ≤ n
        omega
      · have h' : ¬ (if zB T n (k + 1 + zwid T n (k + 1)) = 39 then (5, nI v, k + 1 + zwid T n (k + 1) + 1) else (24, 4, 0) : Nat × Int32 × Nat).1 = 24 := h
        rw [if_neg c9] at h'
        exact absurd rfl h'
  rename_i c2
  rw [if_neg c2] at h
  split
  · rename_i c
    rw [if_pos c] at h
    unfold zstr at h ⊢
    have hle := zslp_le (T := T) (n := n) (n - k) (k + 1) (by omega)
    split
    · rename_i c9
      have := hz 34 _ (by omega) c9
      show k < (zslp T n (n - k) (k + 1)).2 + 1 ∧ (zslp T n (n - k) (k + 1)).2 + 1 ≤ n
      omega
    · rename_i c9
      rw [if_neg c9] at h
      exact absurd rfl h
  · rename_i c
    rw [if_neg c] at h
    unfold zsgn at h ⊢
    split
    · rename_i c9
      have : k + 1 < n := by
        have hh := c9.2
        unfold zB at hh
        split at hh
        · assumption
        · omega
      show k < k + 2 ∧ k + 2 ≤ n
      omega
    rename_i c9
    rw [if_neg c9] at h
    split
    · rename_i c8
      rw [if_pos c8] at h
      exact absurd rfl h
    · show k < k + 1 ∧ k + 1 ≤ n
      omega
