def zdigs (T : Nat → Nat) (n b k fr : Nat) : Nat × Int32 × Nat := if zrun (fun x => decide (zdv x < b)) T (n - fr) fr = fr ∨ 4294967296 ≤ zdval b T fr (zrun (fun x => decide (zdv x < b)) T (n - fr) fr - fr) then (24, 3, 0) else ((if zrun (fun x => decide (zdv x < b)) T (n - fr) fr - k = 1 then 4 else 5), nI (zdval b T fr (zrun (fun x => decide (zdv x < b)) T (n - fr) fr - fr)), zrun (fun x => decide (zdv x < b)) T (n - fr) fr)
def znum (T : Nat → Nat) (n k : Nat) : Nat × Int32 × Nat := if T k = 48 ∧ zB T n (k + 1) = 120 then zdigs T n 16 k (k + 2) else if T k = 48 ∧ zB T n (k + 1) = 98 ∧ zdv (zB T n (k + 2)) < 2 then zdigs T n 2 k (k + 2) else if (zB T n (k + 1) = 98 ∨ zB T n (k + 1) = 102) ∧ znm (zB T n (k + 2)) = false then (6, nI (2 * (T k - 48) + (if zB T n (k + 1) = 102 then 1 else 0)), k + 2) else zdigs T n 10 k k
def znam (T : Nat → Nat) (n k : Nat) : Nat × Int32 × Nat := if 16 < zrun znm T (n - k) k - k then (24, 2, 0) else if zrun znm T (n - k) k - k = 1 ∧ T k = 46 then (3, 0, zrun znm T (n - k) k) else ((if zreg T k (zrun znm T (n - k) k - k) = (-1) then 1 else 2), nI (zrun znm T (n - k) k - k), zrun znm T (n - k) k)
def zchr (T : Nat → Nat) (n k : Nat) : Nat × Int32 × Nat := match zcode T n 39 (k + 1) with
  | none => (24, 4, 0)
  | some v => if zB T n (k + 1 + zwid T n (k + 1)) = 39 then (5, nI v, k + 1 + zwid T n (k + 1) + 1) else (24, 4, 0)
/-- how many bytes a STRING has, and where it stops -/
def zslp (T : Nat → Nat) (n : Nat) : Nat → Nat → Nat × Nat
  | 0, i => (0, i)
  | m + 1, i => if zcode T n 34 i = none then (0, i) else ((zslp T n m (i + zwid T n i)).1 + 1, (zslp T n m (i + zwid T n i)).2)
def zstr (T : Nat → Nat) (n k : Nat) : Nat × Int32 × Nat := if zB T n (zslp T n (n - k) (k + 1)).2 = 34 then (7, nI (zslp T n (n - k) (k + 1)).1, (zslp T n (n - k) (k + 1)).2 + 1) else (24, 4, 0)
def zsgn (T : Nat → Nat) (n k : Nat) : Nat × Int32 × Nat := if (T k = 60 ∨ T k = 62) ∧ zB T n (k + 1) = T k then ((if T k = 60 then 17 else 18), 0, k + 2) else if zkos (T k) = 24 then (24, 1, 0) else (zkos (T k), 0, k + 1)
def ztok (T : Nat → Nat) (n k : Nat) : Nat × Int32 × Nat := if zdg (T k) then znum T n k else if znm (T k) ∧ ¬ T k = 36 then znam T n k else if T k = 39 then zchr T n k else if T k = 34 then zstr T n k else zsgn T n k
def zR8 (s : zS) (w : Nat × Int32 × Nat) (q : Int32 × zS) : Prop := q.1 = nI w.1 ∧ zeq [404, 405] [] s q.2 ∧ (w.1 ≠ 24 → q.2.1 404 = nI w.2.2) ∧ q.2.1 405 = w.2.1
theorem zR8_id {s : zS} {o : Option (Int32 × zS)} {w : Nat × Int32 × Nat} (h : zp o (zR8 s w)) : zp (zbn o (fun x t => some (x, t))) (zR8 s w) := zp_bn (zp_mono h (fun q hq => zp_some hq))
theorem m45 : (404 ∈ [404, 405] ∧ 405 ∈ [404, 405]) ∧ 403 ∉ [404, 405] ∧ ∀ a : Nat, a ∉ ([] : List Nat) := ⟨by decide, by decide, fun a => List.not_mem_nil⟩
theorem l8_name {N n : Nat} {T : Nat → Nat} {v1 : Int32} : ∀ m k M s, k + m = n → m < M → zTx 5 403 T n s → s.1 404 = nI k → zp (fX8_scanName_L5 N M v1 s) (fun q => ∃ t, q = .inr (v1, t) ∧ zeq [404] [] s t ∧ t.1 404 = nI (zrun znm T m k)) := by
  intro m
  induction m with
  | zero =>
    intro k M s hk hM h e
    have hn := h.2.1
    obtain ⟨M, rfl⟩ : ∃ m, M = m + 1 := ⟨M - 1, by omega⟩
    show zp (fX8_scanName_L5S N _ v1 s) _
    unfold fX8_scanName_L5S
    rw [e, h.1]
    exact zp_pos (nI_le (by omega) (by omega)) (zp_some ⟨s, rfl, zeq_refl _ _ _, e⟩)
  | succ m ih =>
    intro k M s hk hM h e
    have hn := h.2.1
    obtain ⟨M, rfl⟩ : ∃ m, M = m + 1 := ⟨M - 1, by omega⟩
    show zp (fX8_scanName_L5S N (fX8_scanName_L5 N M) v1 s) _
    unfold fX8_scanName_L5S zrun
    rw [e, h.1]
    refine zp_neg (nI_ge (by omega) (by omega)) (zp_bne (e8_at h k (by omega)) (zp_bne (eX8_isNameByte N _ s) ?_))
    rw [b8_nm _ (zB_lt h k), zB_in (by omega)]
    by_cases c : znm (T k) = true
    · rw [if_pos c]
      refine zp_neg (fun z => by rw [zb1_0.mp z] at c; cases c) ?_
      rw [e, nI_1]
      have hz : zeq [404] [] s (zsc s 404 (nI (k + 1))) := zeq_c (by decide)
      refine zp_mono (ih (k + 1) M _ (by omega) (by omega) (zTx_keep h hz (by decide) List.not_mem_nil) zsc_at) (fun q hq => ?_)
      obtain ⟨t, h1, h2, h3⟩ := hq
      exact ⟨t, h1, zeq_trans hz h2, h3⟩
    · rw [if_neg c]
      exact zp_pos (zb1_0.mpr (by simpa using c)) (zp_some ⟨s, rfl, zeq_refl _ _ _, e⟩)
theorem s8_name {N n k : Nat} {T : Nat → Nat} {s : zS} (h : zTx 5 403 T n s) (hN : 3000 ≤ N) (hk : k < n) (e : s.1 404 = nI k) (hpos : 0 < T k) : zp (fX8_scanName N s) (zR8 s (znam T n k)) := by
  have hn := h.2.1
  unfold fX8_scanName
  rw [e]
  refine zp_blr (fun x => ∃ t, x = (nI k, t) ∧ zeq [404] [] s t ∧ t.1 404 = nI (zrun znm T (n - k) k)) (zp_mono (l8_name (n - k) k N s (by omega) (by omega) h e) (fun q hq => ?_)) (fun x hx => ?_)
  · obtain ⟨t, h1, h2, h3⟩ := hq
    exact ⟨_, h1, t, rfl, h2, h3⟩
  obtain ⟨t, rfl, hz, ht⟩ := hx
  show zp (fX8_scanName_J43 N (nI k) t) _
  have hle := zrun_le znm T (n - k) k
  unfold fX8_scanName_J43 znam
  obtain ⟨E, hE⟩ : ∃ E, E = zrun znm T (n - k) k := ⟨_, rfl⟩
  rw [← hE] at ht hle ⊢
  rw [ht, pk_sub hle.1]
  have hz2 : ∀ x, zeq [404, 405] [] s (zsc t 405 x) := fun x => zeq_trans (zeq_mono hz (by decide) (by decide)) (zeq_c (by decide))
  have hx2 : ∀ x, zTx 5 403 T n (zsc t 405 x) := fun x => zTx_keep h (hz2 x) (by decide) List.not_mem_nil
  by_cases c16 : 16 < E - k
  · rw [if_pos c16]
    refine zp_neg (show ¬ nI (E - k) ≤ nI 16 from nI_ge c16 (by omega)) ?_
    refine zp_bne (show fX8_bad N 2 _ = _ from rfl) (zp_some ⟨rfl, zeq_trans (hz2 _) (zeq_c (by decide)), fun hh => absurd rfl hh, zsc_at⟩)
  rw [if_neg c16]
  refine zp_pos (show nI (E - k) ≤ nI 16 from nI_le (by omega) (by decide)) ?_
  have hreg : ∀ x, fX5_numberOf N 5 (nI k) (nI (E - k)) (zsc t 405 x) = some (zreg T k (E - k), zsc t 405 x) := fun x => e8_reg (hx2 x) (by omega) (by omega) hpos
  have fin : ¬ (E - k = 1 ∧ T k = 46) → zp (if zreg T k (E - k) = (-1) then some ((1 : Int32), zsc t 405 (nI (E - k))) else some ((2 : Int32), zsc t 405 (nI (E - k)))) (zR8 s (if E - k = 1 ∧ T k = 46 then (3, 0, E) else ((if zreg T k (E - k) = (-1) then 1 else 2), nI (E - k), E))) := by
    intro hc
    rw [if_neg hc]
    by_cases c : zreg T k (E - k) = (-1)
    · rw [if_pos c, if_pos c]
      exact zp_some ⟨rfl, hz2 _, fun _ => ht, zsc_at⟩
    · rw [if_neg c, if_neg c]
      exact zp_some ⟨rfl, hz2 _, fun _ => ht, zsc_at⟩
  by_cases c1 : E - k = 1
  · refine zp_pos (show nI (E - k) = nI 1 by rw [c1]) (zp_bne (e8_at (hx2 _) k (by omega)) ?_)
    rw [zB_in hk]
    by_cases c46 : T k = 46
    · rw [if_pos (show E - k = 1 ∧ T k = 46 from ⟨c1, c46⟩)]
      refine zp_pos ((bI_eq 46 (by omega) (by omega)).mpr c46) (zp_some ⟨rfl, zeq_trans (hz2 _) (zeq_c (by decide)), fun _ => ht, zsc_at⟩)
    · refine zp_neg (fun z => c46 ((bI_eq 46 (by have := (h.2.2 k hk).1; omega) (by omega)).mp z)) ?_
      refine zp_bne (hreg _) (fin (fun z => c46 z.2))
  · refine zp_neg (fun z => c1 ((nI_eq (b := 1) (by omega) (by decide)).mp z)) (zp_bne (hreg _) (fin (fun z => c1 z.1)))
theorem l8_digs {N n b fr : Nat} {T : Nat → Nat} {v3 : Int32} (hb : b ≤ 16) (hb2 : 2 ≤ b) : ∀ m k M s, k + m = n → fr ≤ k → m < M → zTx 5 403 T n s → s.1 404 = nI k → zp (fX8_scanDigits_L13 N (nI b) (nI fr) M v3 (lN (min (zdval b T fr (k - fr)) 4294967296)) s) (fun q => ∃ t, q = .inr (v3, lN (min (zdval b T fr (zrun (fun x => decide (zdv x < b)) T m k - fr)) 4294967296), t) ∧ zeq [404] [] s t ∧ t.1 404 = nI (zrun (fun x => decide (zdv x < b)) T m k)) := by
  intro m
  induction m with
  | zero =>
    intro k M s hk hf hM h e
    have hn := h.2.1
    obtain ⟨M, rfl⟩ : ∃ m, M = m + 1 := ⟨M - 1, by omega⟩
    show zp (fX8_scanDigits_L13S N (nI b) (nI fr) _ v3 _ s) _
    unfold fX8_scanDigits_L13S
    rw [e, h.1]
    exact zp_pos (nI_le (by omega) (by omega)) (zp_some ⟨s, rfl, zeq_refl _ _ _, e⟩)
  | succ m ih =>
    intro k M s hk hf hM h e
    have hn := h.2.1
    obtain ⟨M, rfl⟩ : ∃ m, M = m + 1 := ⟨M - 1, by omega⟩
    show zp (fX8_scanDigits_L13S N (nI b) (nI fr) (fX8_scanDigits_L13 N (nI b) (nI fr) M) v3 _ s) _
    unfold fX8_scanDigits_L13S zrun
    rw [e, h.1]
    have hB := zB_lt h k
    refine zp_neg (nI_ge (by omega) (by omega)) (zp_bne (e8_at h k (by omega)) (zp_bne (eX8_digitOf N _ s) ?_))
    rw [e, b8_dv _ hB, zB_in (by omega)]
    rw [zB_in (by omega)] at hB
    have hd := zdv_le _ hB
    by_cases c : zdv (T k) < b
    · rw [if_pos (decide_eq_true c)]
      refine zp_neg (nI_ge c (by omega)) (zp_bne (e8_at h k (by omega)) (zp_bne (eX8_digitOf N _ s) ?_))
      rw [e, b8_dv _ (zB_lt h k), zB_in (by omega), nI_1, nI_l (by omega), nI_l (by omega), lN_mul, lN_add]
      have hz : zeq [404] [] s (zsc s 404 (nI (k + 1))) := zeq_c (by decide)
      have hv : (if (4294967296 : Int64) < lN (min (zdval b T fr (k - fr)) 4294967296 * b + zdv (T k)) then (4294967296 : Int64) else lN (min (zdval b T fr (k - fr)) 4294967296 * b + zdv (T k))) = lN (min (zdval b T fr (k + 1 - fr)) 4294967296) := by
        have e1 : zdval b T fr (k + 1 - fr) = zdval b T fr (k - fr) * b + zdv (T k) := by
          rw [show k + 1 - fr = (k - fr) + 1 by omega]
          show zdval b T fr (k - fr) * b + zdv (T (fr + (k - fr))) = _
          rw [show fr + (k - fr) = k by omega]
        have hmin : min (zdval b T fr (k - fr)) 4294967296 ≤ 4294967296 := Nat.min_le_right _ _
        have hmul : min (zdval b T fr (k - fr)) 4294967296 * b ≤ 4294967296 * 16 := Nat.mul_le_mul hmin hb
        have hlt : ((4294967296 : Int64) < lN (min (zdval b T fr (k - fr)) 4294967296 * b + zdv (T k))) ↔ 4294967296 < min (zdval b T fr (k - fr)) 4294967296 * b + zdv (T k) := pk_lLT (a := 4294967296) (by decide) (by omega)
        rw [e1]
        by_cases c2 : 4294967296 < min (zdval b T fr (k - fr)) 4294967296 * b + zdv (T k)
        · rw [if_pos (hlt.mpr c2)]
          show lN 4294967296 = _
          refine congrArg lN (Nat.min_eq_right ?_).symm
          by_cases c3 : zdval b T fr (k - fr) ≤ 4294967296
          · rw [Nat.min_eq_left c3] at c2; omega
          · have : 4294967296 * 2 ≤ zdval b T fr (k - fr) * b := Nat.mul_le_mul (by omega) hb2
            omega
        · rw [if_neg (fun z => c2 (hlt.mp z))]
          refine congrArg lN ?_
          by_cases c3 : zdval b T fr (k - fr) ≤ 4294967296
          · rw [Nat.min_eq_left c3] at c2 ⊢
            rw [Nat.min_eq_left (by omega)]
          · rw [Nat.min_eq_right (by omega)] at c2
            have : 4294967296 * 2 ≤ 4294967296 * b := Nat.mul_le_mul (by omega) hb2
            omega
      rw [hv]
      refine zp_mono (ih (k + 1) M _ (by omega) (by omega) (by omega) (zTx_keep h hz (by decide) List.not_mem_nil) zsc_at) (fun q hq => ?_)
      obtain ⟨t, h1, h2, h3⟩ := hq
      exact ⟨t, h1, zeq_trans hz h2, h3⟩
    · rw [if_neg (show ¬ decide (zdv (T k) < b) = true by simpa using c)]
      exact zp_pos (nI_le (by omega) (by omega)) (zp_some ⟨s, rfl, zeq_refl _ _ _, e⟩)
theorem s8_digs {N n b k fr : Nat} {T : Nat → Nat} {s : zS} {p0 p1 : Int32} (hb : b ≤ 16) (hb2 : 2 ≤ b) (h : zTx 5 403 T n s) (hN : 3000 ≤ N) (hk : k ≤ fr) (hf : fr ≤ n) (e : s.1 404 = nI k) (h0 : p0 = nI b) (h1 : p1 = nI fr) : zp (fX8_scanDigits N p0 p1 s) (zR8 s (zdigs T n b k fr)) := by
  subst h0
  subst h1
  have hn := h.2.1
  unfold fX8_scanDigits
  rw [e]
  have hz : zeq [404] [] s (zsc s 404 (nI fr)) := zeq_c (by decide)
  have hl := l8_digs (N := N) (fr := fr) (T := T) (v3 := nI k) hb hb2 (n - fr) fr N (zsc s 404 (nI fr)) (by omega) (Nat.le_refl _) (by omega) (zTx_keep h hz (by decide) List.not_mem_nil) zsc_at
  rw [Nat.sub_self] at hl
  have hl' : zp (fX8_scanDigits_L13 N (nI b) (nI fr) N (nI k) 0 (zsc s 404 (nI fr))) _ := hl
  refine zp_bl (zp_mono hl' (fun q hq => ?_))
  obtain ⟨t, rfl, g1, g2⟩ := hq
  have hle := zrun_le (fun x => decide (zdv x < b)) T (n - fr) fr
  unfold zdigs
  obtain ⟨E, hE⟩ : ∃ E, E = zrun (fun x => decide (zdv x < b)) T (n - fr) fr := ⟨_, rfl⟩
  rw [← hE] at g2 hle ⊢
  obtain ⟨V, hV⟩ : ∃ V, V = zdval b T fr (E - fr) := ⟨_, rfl⟩
  rw [← hV]
  show zp (fX8_scanDigits_J78 N (nI b) (nI fr) (nI k) (lN (min V 4294967296)) t) _
  unfold fX8_scanDigits_J78
  rw [g2]
  have z2 : zeq [404, 405] [] s t := zeq_mono (zeq_trans hz g1) (by decide) (by decide)
  have hcmp : lg_cmp (lN (min V 4294967296)) 4294967296 = 0 ↔ 4294967296 ≤ V := by
    rw [zlg, show (4294967296 : Int64) = lN 4294967296 from rfl]
    constructor
    · intro z
      have h9 := congrArg Int64.toInt z
      rw [pk_lT (by omega), pk_lT (by omega)] at h9
      omega
    · intro z
      rw [Nat.min_eq_right z]
  by_cases c1 : E = fr
  · rw [if_pos (Or.inl c1)]
    exact zp_pos (by rw [c1]) (zp_bne (show fX8_bad N 3 t = _ from rfl) (zp_some ⟨rfl, zeq_trans z2 (zeq_c (by decide)), fun hh => absurd rfl hh, zsc_at⟩))
  refine zp_neg (fun z => c1 ((nI_eq (by omega) (by omega)).mp z)) ?_
  by_cases c2 : 4294967296 ≤ V
  · rw [if_pos (Or.inr c2)]
    exact zp_pos (hcmp.mpr c2) (zp_bne (show fX8_bad N 3 t = _ from rfl) (zp_some ⟨rfl, zeq_trans z2 (zeq_c (by decide)), fun hh => absurd rfl hh, zsc_at⟩))
  refine zp_neg (fun z => c2 (hcmp.mp z)) ?_
  rw [if_neg (show ¬ (E = fr ∨ 4294967296 ≤ V) by omega), Nat.min_eq_left (by omega), pk_sub (by omega), lN_i]
  by_cases c3 : E - k = 1
  · rw [if_pos c3]
    exact zp_pos (by rw [c3]; rfl) (zp_some ⟨rfl, zeq_trans z2 (zeq_c (by decide)), fun _ => g2, zsc_at⟩)
  · rw [if_neg c3]
    exact zp_neg (fun z => c3 ((nI_eq (b := 1) (by omega) (by decide)).mp z)) (zp_some ⟨rfl, zeq_trans z2 (zeq_c (by decide)), fun _ => g2, zsc_at⟩)
theorem s8_num {N n k : Nat} {T : Nat → Nat} {s : zS} (h : zTx 5 403 T n s) (hN : 3000 ≤ N) (hk : k < n) (e : s.1 404 = nI k) (hd : zdg (T k) = true) : zp (fX8_scanNumber N s) (zR8 s (znum T n k)) := by
  have hn := h.2.1
  have hT := (h.2.2 k hk).1
  have hdd : 48 ≤ T k ∧ T k ≤ 57 := by unfold zdg at hd; exact of_decide_eq_true hd
  have b0 : ∀ c, c < 256 → (bI (T k) = nI c ↔ T k = c) := fun c hc => bI_eq c (by omega) hc
  have b1 : ∀ c, c < 256 → (bI (zB T n (k + 1)) = nI c ↔ zB T n (k + 1) = c) := fun c hc => bI_eq c (zB_lt h _) hc
  have x1 : ∀ c, c ≠ 256 → zB T n (k + 1) = c → k + 2 ≤ n := fun c hc hz => by
    unfold zB at hz
    split at hz <;> omega
  unfold fX8_scanNumber
  rw [e]
  refine zp_bne (e8_at h k (by omega)) ?_
  rw [e, nI_1, zB_in hk]
  refine zp_bne (e8_at h (k + 1) (by omega)) ?_
  rw [e]
  have a2 : nI k + 2 = nI (k + 2) := nI_add k 2
  have h86 : ¬ (T k = 48 ∧ zB T n (k + 1) = 120) → ¬ (T k = 48 ∧ zB T n (k + 1) = 98 ∧ zdv (zB T n (k + 2)) < 2) → zp (fX8_scanNumber_J86 N (bI (T k)) (bI (zB T n (k + 1))) s) (zR8 s (znum T n k)) := by
    intro g1 g2
    have h98 : (zB T n (k + 1) = 98 ∨ zB T n (k + 1) = 102) → zp (fX8_scanNumber_J98 N (bI (T k)) (bI (zB T n (k + 1))) s) (zR8 s (znum T n k)) := by
      intro g3
      unfold fX8_scanNumber_J98
      rw [e, a2]
      refine zp_bne (e8_at h (k + 2) (by omega)) (zp_bne (eX8_isNameByte N _ s) ?_)
      rw [b8_nm _ (zB_lt h (k + 2))]
      unfold znum
      rw [if_neg g1, if_neg g2]
      by_cases c : znm (zB T n (k + 2)) = false
      · rw [if_pos (show (zB T n (k + 1) = 98 ∨ zB T n (k + 1) = 102) ∧ znm (zB T n (k + 2)) = false from ⟨g3, c⟩)]
        refine zp_pos (zb1_0.mpr c) (zp_bne (eX8_digitOf N _ s) ?_)
        rw [b8_dv _ (by omega), e, a2]
        have hv : zdv (T k) = T k - 48 := by unfold zdv; rw [if_pos hdd]
        rw [hv]
        by_cases c102 : zB T n (k + 1) = 102
        · rw [if_pos c102]
          refine zp_pos ((b1 102 (by omega)).mpr c102) (zp_some ⟨rfl, zeq_trans (zeq_c (by decide)) (zeq_c (by decide)), fun _ => zsc_at, ?_⟩)
          refine (zsc_ne (by decide)).trans (zsc_at.trans ?_)
          show nI 2 * nI (T k - 48) + nI 1 = _
          rw [pk_mul, nI_add]
        · rw [if_neg c102]
          refine zp_neg (fun z => c102 ((b1 102 (by omega)).mp z)) (zp_some ⟨rfl, zeq_trans (zeq_c (by decide)) (zeq_c (by decide)), fun _ => zsc_at, ?_⟩)
          refine (zsc_ne (by decide)).trans (zsc_at.trans ?_)
          show nI 2 * nI (T k - 48) + nI 0 = _
          rw [pk_mul, nI_add]
      · rw [if_neg (show ¬ ((zB T n (k + 1) = 98 ∨ zB T n (k + 1) = 102) ∧ znm (zB T n (k + 2)) = false) from fun z => c z.2)]
        refine zp_neg (fun z => c (zb1_0.mp z)) ?_
        rw [e]
        exact zR8_id (s8_digs (b := 10) (by omega) (by omega) h hN (Nat.le_refl _) (by omega) e rfl rfl)
    unfold fX8_scanNumber_J86
    by_cases c1 : zB T n (k + 1) = 98
    · exact zp_pos ((b1 98 (by omega)).mpr c1) (h98 (Or.inl c1))
    refine zp_neg (fun z => c1 ((b1 98 (by omega)).mp z)) ?_
    by_cases c2 : zB T n (k + 1) = 102
    · exact zp_pos ((b1 102 (by omega)).mpr c2) (h98 (Or.inr c2))
    refine zp_neg (fun z => c2 ((b1 102 (by omega)).mp z)) ?_
    unfold znum
    rw [if_neg g1, if_neg g2, if_neg (show ¬ ((zB T n (k + 1) = 98 ∨ zB T n (k + 1) = 102) ∧ znm (zB T n (k + 2)) = false) from fun z => z.1.elim c1 c2), e]
    exact zR8_id (s8_digs (b := 10) (by omega) (by omega) h hN (Nat.le_refl _) (by omega) e rfl rfl)
  have h45 : ¬ (T k = 48 ∧ zB T n (k + 1) = 120) → zp (fX8_scanNumber_J45 N (bI (T k)) (bI (zB T n (k + 1))) s) (zR8 s (znum T n k)) := by
    intro g1
    unfold fX8_scanNumber_J45
    by_cases c1 : T k = 48
    · refine zp_pos ((b0 48 (by omega)).mpr c1) ?_
      by_cases c2 : zB T n (k + 1) = 98
      · refine zp_pos ((b1 98 (by omega)).mpr c2) ?_
        rw [e, a2]
        refine zp_bne (e8_at h (k + 2) (by omega)) (zp_bne (eX8_digitOf N _ s) ?_)
        rw [b8_dv _ (zB_lt h (k + 2))]
        have hle := zdv_le _ (zB_lt h (k + 2))
        by_cases c3 : zdv (zB T n (k + 2)) < 2
        · refine zp_neg (show ¬ nI 2 ≤ nI _ from nI_ge c3 (by decide)) ?_
          unfold znum
          rw [if_neg g1, if_pos (show T k = 48 ∧ zB T n (k + 1) = 98 ∧ zdv (zB T n (k + 2)) < 2 from ⟨c1, c2, c3⟩), e, a2]
          exact zR8_id (s8_digs (b := 2) (by omega) (by omega) h hN (by omega) (x1 98 (by omega) c2) e rfl rfl)
        · exact zp_pos (show nI 2 ≤ nI _ from nI_le (by omega) (by omega)) (h86 g1 (fun z => c3 z.2.2))
      · exact zp_neg (fun z => c2 ((b1 98 (by omega)).mp z)) (h86 g1 (fun z => c2 z.2.1))
    · exact zp_neg (fun z => c1 ((b0 48 (by omega)).mp z)) (h86 g1 (fun z => c1 z.1))
  by_cases c1 : T k = 48
  · refine zp_pos ((b0 48 (by omega)).mpr c1) ?_
    by_cases c2 : zB T n (k + 1) = 120
    · refine zp_pos ((b1 120 (by omega)).mpr c2) ?_
      unfold znum
      rw [if_pos (show T k = 48 ∧ zB T n (k + 1) = 120 from ⟨c1, c2⟩), a2]
      exact zR8_id (s8_digs (b := 16) (by omega) (by omega) h hN (by omega) (x1 120 (by omega) c2) e rfl rfl)
    · exact zp_neg (fun z => c2 ((b1 120 (by omega)).mp z)) (h45 (fun z => c2 z.2))
  · exact zp_neg (fun z => c1 ((b0 48 (by omega)).mp z)) (h45 (fun z => c1 z.1))
