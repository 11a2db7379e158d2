def zTc (s : zS) (f : Nat → Int32) (F C : Nat) (c : zS) : Prop := zYC s c ∧ c.1 3003 = nI F ∧ c.1 3004 = nI C ∧ zBC f F C c
theorem zTc_s {s : zS} {f : Nat → Int32} {F C : Nat} {c c' : zS} (h : zTc s f F C c) (hz : zeq [3001] [31] c c') : zTc s f F C c' := ⟨zYC_s h.1 hz, (hz.1 3003 (by decide)).trans h.2.1, (hz.1 3004 (by decide)).trans h.2.2.1, fun t q1 q2 n a q3 q4 => by rw [hz.2.1 32 (by decide)]; exact h.2.2.2 t q1 q2 n a q3 q4⟩
def ztw (o : Nat) : Bool := decide (12 ≤ o ∧ o ≤ 21)
/-- the class tells the tree whose last item is z - 1 -/
def zCt (s : zS) (f : Nat → Int32) (N B F C n z o : Nat) (w : List Int32) : Prop := ∀ (r lv d : Nat) (c : zS) (l : List Int32), n ≤ r → d + n ≤ 61 → lv ≤ 7 → zTc s f F C c → zOU l c → l.length + (zwr (ztw o && decide (zlvl o < lv)) w).length ≤ 6000 → zCo ((fX7_rec N r) B (nI (z - 1 - F)) (nI lv) (nI d) c) c l (zwr (ztw o && decide (zlvl o < lv)) w)
theorem zlvl_k : ∀ o, o < 22 → (12 ≤ o → 1 ≤ zlvl o ∧ zlvl o ≤ 6 ∧ zbnd o = zlvl o) := by decide +kernel
set_option maxHeartbeats 1000000 in
theorem ct_head {B n0 n1 n2 n3 nb nl N F C r z o lv d : Nat} {s : zS} {f : Nat → Int32} {c : zS} {l w : List Int32} (hx : zBx B n0 n1 n2 n3 nb nl s) (hfd : f = fun t => s.2.1 (B + 6) (t * 2 + 0)) (hF : F + C ≤ n2) (hz : F < z ∧ z ≤ F + C) (hfo : f (z - 1) = nI o) (ho : o ≤ 21) (hd : d ≤ 60) (hlv : lv ≤ 7) (hc : zTc s f F C c) (h : zOU l c) (hl : l.length + (zwr (ztw o && decide (zlvl o < lv)) w).length ≤ 6000) (k : ∀ (c' : zS) (l' : List Int32) (v7 : Int32) (e : Nat), zTc s f F C c' → zOU l' c' → (v7 = 0 ∧ e = 0 ∨ v7 = 1 ∧ e = 1) → l'.length + w.length + e ≤ 6000 → zCo (fX7_putTree_J59 N (fX7_rec N r) B (nI (z - 1 - F)) (nI lv) (nI d) (nI o) (nI (zlvl o)) v7 c') c' l' (w ++ (if v7 = 0 then [] else [41]))) : zCo ((fX7_rec N (r + 1)) B (nI (z - 1 - F)) (nI lv) (nI d) c) c l (zwr (ztw o && decide (zlvl o < lv)) w) := by
  have hn2 : n2 ≤ 2000 := hx.2.2.2.2.1.1
  show zCo (fX7_putTreeS N (fX7_rec N r) B (nI (z - 1 - F)) (nI lv) (nI d) c) c l _
  have hsort : fX7_sortAt N B (nI (z - 1 - F)) c = some (nI o, c) := by
    unfold fX7_sortAt
    rw [hc.2.1, nI_add, (x_cell hx hc.1 0).2.2.1 (F + (z - 1 - F)) 0 0 (by omega) (by omega) rfl, zbn_s, ← hfo, hfd, show F + (z - 1 - F) = z - 1 by omega]
  unfold fX7_putTreeS
  rw [if_neg (nI_pos (by omega)), if_pos (show nI d ≤ (60 : Int32) from nI_le (b := 60) hd (by decide)), hsort, zbn_s, e1_lev (by omega), zbn_s, (c_two (by omega)).1, zbn_s]
  have un : zwr (ztw o && decide (zlvl o < lv)) w = w → zCo (fX7_putTree_J45 N (fX7_rec N r) B (nI (z - 1 - F)) (nI lv) (nI d) (nI o) (nI (zlvl o)) c) c l (zwr (ztw o && decide (zlvl o < lv)) w) := by
    intro e
    rw [e] at hl ⊢
    have h9 := k c l 0 0 hc h (Or.inl ⟨rfl, rfl⟩) hl
    rw [if_pos rfl, List.append_nil] at h9
    unfold fX7_putTree_J45 fX7_putTree_J46
    rw [if_pos rfl]
    exact h9
  by_cases c2 : 12 ≤ o ∧ o ≤ 21
  · have et : ztw o = true := decide_eq_true c2
    have hlv6 := (zlvl_k o (by omega) c2.1)
    rw [if_pos c2, if_neg (show ¬ (1 : Int32) = 0 by decide)]
    by_cases c3 : zlvl o < lv
    · rw [if_neg (nI_ge c3 (by omega))]
      rw [et, decide_eq_true c3] at hl ⊢
      rw [show zwr (true && true) w = [40] ++ (w ++ [41]) from rfl] at hl ⊢
      rw [List.length_append, List.length_append, List.length_singleton, List.length_singleton] at hl
      unfold fX7_putTree_J46
      rw [if_neg (show ¬ (1 : Int32) = 0 by decide)]
      refine zCo_seq (c_byte h (by omega)) (fun c' h' z' => ?_)
      have h9 := k c' _ 1 1 (zTc_s hc z') h' (Or.inr ⟨rfl, rfl⟩) (by rw [List.length_append, List.length_singleton]; omega)
      rw [if_neg (show ¬ (1 : Int32) = 0 by decide)] at h9
      exact h9
    · rw [if_pos (nI_le (by omega) (by omega))]
      exact un (by rw [decide_eq_false c3, Bool.and_false]; rfl)
  · rw [if_neg c2, if_pos rfl]
    exact un (by rw [show ztw o = false from decide_eq_false c2]; rfl)
theorem ct_tail {N e : Nat} {v7 : Int32} {c : zS} {l : List Int32} (h : zOU l c) (hv : v7 = 0 ∧ e = 0 ∨ v7 = 1 ∧ e = 1) (hl : l.length + e ≤ 6000) : zCo (if v7 = 0 then some ((), c) else zbn (fX7_putByte N 41 c) (fun _ s => some ((), s))) c l (if v7 = 0 then [] else [41]) := by
  rcases hv with ⟨h1, h2⟩ | ⟨h1, h2⟩
  · rw [if_pos h1, if_pos h1]
    exact zCo_nil h
  · rw [if_neg (by rw [h1]; decide), if_neg (by rw [h1]; decide)]
    exact zCo_ret (c_byte h (by omega))
set_option maxHeartbeats 2000000 in
theorem treeT {B n0 n1 n2 n3 nb nl N F C : Nat} {s : zS} {f : Nat → Int32} {ic : Nat → Nat} (hx : zBx B n0 n1 n2 n3 nb nl s) (hfd : f = fun t => s.2.1 (B + 6) (t * 2 + 0)) (hic : ∀ t, t < n2 → zItk B n3 s t (ic t)) (hF : F + C ≤ n2) (hC : C ≤ 60) (hN : 100 ≤ N) : ∀ (n a z : Nat), zEx f n a z → F ≤ a → z ≤ F + C → ∃ (w : List Int32) (k o : Nat), f (z - 1) = nI o ∧ o ≤ 21 ∧ k ≤ 8 * (z - a) ∧ w.length + (if 12 ≤ o then 2 else 0) + zsum ic a ≤ zsum ic z ∧ zCt s f N B F C n z o w ∧ zRt s f N F C [2 * (z - 1)] k (9 * (z - a)) w := by
  have hn2 : n2 ≤ 2000 := hx.2.2.2.2.1.1
  have c4 := hx.2.2.2.2.1.2.2.2
  have ne : ∀ (x : Int32) (i j : Nat), i < 100 → j < 100 → x = nI i → x = nI j → i = j := fun x i j hi hj e1 e2 => (nI_eq (by omega) (by omega)).mp (e1.symm.trans e2)
  have opx : ∀ t o, t < n2 → 10 ≤ o → o ≤ 21 → f t = nI o → 1 ≤ ic t ∧ (12 ≤ o → 5 ≤ ic t) ∧ (o = 17 ∨ o = 18 → 6 ≤ ic t) := by
    intro t o ht h10 h21 hfo
    have hk := hic t ht
    have hfo' : s.2.1 (B + 6) (t * 2 + 0) = nI o := by rw [← hfo, hfd]
    rcases hk with ⟨z, -⟩ | ⟨z, -⟩ | ⟨z, -⟩ | ⟨z, -⟩ | ⟨o', z1, z2, z3, z4, z5, z6⟩
    · have := ne _ o 0 (by omega) (by omega) hfo' z; omega
    · have := ne _ o 1 (by omega) (by omega) hfo' z; omega
    · have := ne _ o 2 (by omega) (by omega) hfo' z; omega
    · have := ne _ o 3 (by omega) (by omega) hfo' z; omega
    · have := ne _ o o' (by omega) (by omega) hfo' z3
      subst this
      exact ⟨z4, z5, z6⟩
  have what : ∀ (m : zS) (t o : Nat), zYM s m → t < n2 → f t = nI o → fX10_whatOf N (nI t) m = some (nI o, m) := by
    intro m t o hm ht hfo
    have e0 : (4000 : Int32) + 2 * nI t = nI (4000 + 2 * t) := by rw [show (2 : Int32) * nI t = nI (2 * t) from pk_mul 2 t]; exact nI_add 4000 _
    have r0 : m.2.1 39 (4000 + 2 * t) = nI o := by
      rw [hm 39 (by decide), ← hfo, hfd]
      show s.2.1 39 (4000 + 2 * t) = s.2.1 (B + 6) (t * 2 + 0)
      rw [c4 t 0 ht (by omega), show 4000 * 1 + 2 * t + 0 = 4000 + 2 * t by omega]
    unfold fX10_whatOf
    rw [e0, if_pos (zga_l (by rfl) (show 4000 + 2 * t < 8000 by omega) (by decide)), nI_clamp (by omega), r0]
  have hev : ∀ t, t < 2000 → ¬ (nI (2 * t) - nI (2 * t) / 2 * 2 = 1) ∧ nI (2 * t) / 2 = nI t := by
    intro t ht
    have e1 : nI (2 * t) - nI (2 * t) / 2 * 2 = nI (2 * t % 2) := pk_rem (d := 2) (by omega) (by omega) (by omega)
    have e2 : nI (2 * t) / 2 = nI (2 * t / 2) := pk_div (d := 2) (by omega) (by omega) (by omega)
    rw [e1, e2, show 2 * t % 2 = 0 by omega, show 2 * t / 2 = t by omega]
    exact ⟨by decide, rfl⟩
  -- the head of a turn at an item
  have turn : ∀ (m : zS) (t o : Nat) (τ : List Nat) (l : List Int32), zYM s m → t < n2 → f t = nI o → o ≤ 21 → zTk ([2 * t] ++ τ) m → τ.length < 7500 → zOV l m → ∃ m0, zeq [3335] [] m m0 ∧ zTk τ m0 ∧ zOV l m0 ∧ zYM s m0 ∧ m0.2.1 45 = m.2.1 45 ∧ ∀ M, zTL N F C (M + 1) m = (if 10 ≤ nI o then if 12 ≤ nI o then if zga ((nI t - 1) - nI F) (zlen 45) = true then zbn (fX10_whatOf N ((m0.2.1 45 ((nI t - 1) - nI F).toNatClampNeg) - 1) m0) (fun x14 s15 => if x14 ≤ 11 then fX10_sayItems_J233 N (nI F) (nI C) (fX10_sayItems_L22 N (nI F) (nI C) M) (nI o) (nI t - 1) ((m0.2.1 45 ((nI t - 1) - nI F).toNatClampNeg) - 1) s15 else zbn (fX10_whatOf N ((m0.2.1 45 ((nI t - 1) - nI F).toNatClampNeg) - 1) s15) (fun x44 s45 => zbn (fX10_binds N x44 s45) (fun x47 s48 => zbn (fX10_binds N (nI o) s48) (fun x50 s51 => if x50 ≤ x47 then fX10_sayItems_J233 N (nI F) (nI C) (fX10_sayItems_L22 N (nI F) (nI C) M) (nI o) (nI t - 1) ((m0.2.1 45 ((nI t - 1) - nI F).toNatClampNeg) - 1) s51 else fX10_sayItems_J234 N (nI F) (nI C) (fX10_sayItems_L22 N (nI F) (nI C) M) (nI o) (nI t - 1) ((m0.2.1 45 ((nI t - 1) - nI F).toNatClampNeg) - 1) 1 s51)))) else none else zbn (fX10_saySign N (nI o) m0) (fun _ s54 => zbn (fX10_whatOf N (nI t - 1) s54) (fun x56 s57 => if x56 ≤ 11 then zbn (fX10_addSide N (nI t - 1) 0 s57) (fun _ s60 => fX10_sayItems_L22 N (nI F) (nI C) M s60) else zbn (fX10_addSide N (nI t - 1) 1 s57) (fun _ s63 => fX10_sayItems_L22 N (nI F) (nI C) M s63))) else zbn (fX10_sayLeaf N (nI t) m0) (fun _ s66 => fX10_sayItems_L22 N (nI F) (nI C) M s66)) := by
    intro m t o τ l hm ht hfo ho htk hτ hov
    obtain ⟨t1, t2, t3, t4, t5⟩ := t_top (x := 2 * t) (τ := τ) htk (by omega)
    obtain ⟨m0, hm0⟩ : ∃ m0, m0 = zsc m 3335 (nI τ.length) := ⟨_, rfl⟩
    have z0 : zeq [3335] [] m m0 := by rw [hm0]; exact zeq_c (by simp)
    rw [← hm0] at t5
    have hm0' : zYM s m0 := fun a ha => (z0.2.1 a List.not_mem_nil).trans (hm a ha)
    refine ⟨m0, z0, t5, ⟨(z0.1 3329 (by decide)).trans hov.1, fun i hi => by rw [z0.2.1 44 List.not_mem_nil]; exact hov.2 i hi⟩, hm0', z0.2.1 45 List.not_mem_nil, fun M => ?_⟩
    obtain ⟨v1, v2⟩ := hev t (by omega)
    show fX10_sayItems_L22S N (nI F) (nI C) (fX10_sayItems_L22 N (nI F) (nI C) M) m = _
    unfold fX10_sayItems_L22S
    rw [if_neg t1, t2, if_pos t3, nI_clamp (show τ.length < 2 ^ 31 by omega), t4, ← hm0, if_neg v1, v2, what m0 t o hm0' ht hfo, zbn_s]
  intro n
  induction n with
  | zero => intro a z h; exact h.elim
  | succ n ih =>
    intro a z hE ha hz
    rcases hE with ⟨h1, o, ho, hfo⟩ | ⟨y, h1, ⟨o, ho, hfo⟩, h4⟩ | ⟨y, mm, o, h1, g2, g3, hfo, g5, g6⟩
    · -- a leaf
      subst h1
      have hfo' : s.2.1 (B + 6) (a * 2 + 0) = nI o := by rw [← hfo, hfd]
      obtain ⟨w, w1, w2, w3⟩ := lf_text hx (show a < n2 by omega) (hic a (by omega)) hfo' ho
      refine ⟨w, 1, o, hfo, by omega, by omega, ?_, ?_, ?_⟩
      · rw [if_neg (by omega)]
        show w.length + 0 + zsum ic a ≤ zsum ic a + ic a
        omega
      · intro r lv d c l hr hd hlv hc h hl
        obtain ⟨r, rfl⟩ : ∃ q, r = q + 1 := ⟨r - 1, by omega⟩
        refine ct_head hx hfd hF (by omega) hfo (by omega) (by omega) hlv hc h hl (fun c' l' v7 e hc' h' hv hle => ?_)
        unfold fX7_putTree_J59
        rw [(c_two (by omega)).1, zbn_s, if_neg (show ¬ (12 ≤ o ∧ o ≤ 21) by omega), if_pos rfl, (c_two (by omega)).2, zbn_s, if_neg (show ¬ (o = 10 ∨ o = 11) by omega), if_pos rfl, hc'.2.1, show a + 1 - 1 - F = a - F by omega, nI_add, show F + (a - F) = a by omega, (x_cell hx hc'.1 0).2.2.1 a 1 1 (by omega) (by omega) rfl, zbn_s]
        exact zCo_seq (w2 N c' l' hN hc'.1 h' (by omega)) (fun c2 h2 z2 => ct_tail h2 hv (by rw [List.length_append]; omega))
      · intro m l τ hm hb htk hr hov hl
        obtain ⟨m0, z0, t0, o0, y0, -, T⟩ := turn m a o τ l hm (by omega) hfo (by omega) htk (by omega) hov
        obtain ⟨m1, e1, e2, e3⟩ := w3 N m0 l hN y0 o0 hl
        refine ⟨m1, fun M => ?_, zTk_s t0 e3, e2, zeq_trans (zeq_mono z0 (by decide) (by simp)) (zeq_mono e3 (by decide) (by decide))⟩
        rw [T M, if_neg (show ¬ (10 : Int32) ≤ nI o from nI_ge (b := 10) (by omega) (by decide)), e1, zbn_s]
    · -- a sign ahead
      subst h1
      have l1 := zEx_lt n a y h4
      obtain ⟨w, k, oc, k1, k2, k3, k4, k5, k6⟩ := ih a y h4 ha (by omega)
      obtain ⟨x1, -, -⟩ := opx y o (by omega) (by omega) (by omega) hfo
      obtain ⟨bI, hbI⟩ : ∃ b : Bool, b = ztw oc := ⟨_, rfl⟩
      have hbw : bI = true ↔ 12 ≤ oc := by
        rw [hbI]
        unfold ztw
        rw [decide_eq_true_eq]
        omega
      have hlv7 : (ztw oc && decide (zlvl oc < 7)) = ztw oc := by
        have h9 : ∀ oc, oc < 22 → (ztw oc && decide (zlvl oc < 7)) = ztw oc := by decide +kernel
        exact h9 oc (by omega)
      have hsl : (zbs (zsgi o)).length = 1 := (zsgi_k o (by omega)).2.2 (by omega) (by omega)
      have hzl : (zwr bI w).length + 0 ≤ w.length + (if 12 ≤ oc then 2 else 0) := by
        cases hb : bI with
        | false => rw [if_neg (fun z => by rw [hbw.mpr z] at hb; cases hb)]; exact Nat.le_refl _
        | true => rw [if_pos (hbw.mp hb)]; exact zwr_l true w
      refine ⟨zbs (zsgi o) ++ zwr bI w, 1 + (k + (if bI then 2 else 0)), o, hfo, by omega, ?_, ?_, ?_, ?_⟩
      · have : (if bI = true then 2 else 0) ≤ 2 := by split <;> omega
        omega
      · rw [if_neg (show ¬ 12 ≤ o by omega), List.length_append]
        show (zbs (zsgi o)).length + (zwr bI w).length + 0 + zsum ic a ≤ zsum ic y + ic y
        omega
      · intro r lv d c l hr hd hlv hc h hl
        obtain ⟨r, rfl⟩ : ∃ q, r = q + 1 := ⟨r - 1, by omega⟩
        refine ct_head hx hfd hF (by omega) hfo (by omega) (by omega) hlv hc h hl (fun c' l' v7 e hc' h' hv hle => ?_)
        rw [List.length_append] at hle
        unfold fX7_putTree_J59
        rw [(c_two (by omega)).1, zbn_s, if_neg (show ¬ (12 ≤ o ∧ o ≤ 21) by omega), if_pos rfl, (c_two (by omega)).2, zbn_s, if_pos ho, if_neg (show ¬ (1 : Int32) = 0 by decide), c_sgi (by omega) (by omega), zbn_s, List.append_assoc]
        refine zCo_seq (c_text (zsgi_k o (by omega)).1 h' (by omega) hN) (fun c2 h2 z2 => ?_)
        rw [show nI (y + 1 - 1 - F) - 1 = nI (y - 1 - F) by rw [show y + 1 - 1 - F = y - 1 - F + 1 by omega]; exact nI_pred _, show nI d + 1 = nI (d + 1) from nI_1 _]
        have h9 := k5 r 7 (d + 1) c2 _ (by omega) (by omega) (by omega) (zTc_s hc' z2) h2 (by rw [hlv7, ← hbI, List.length_append]; omega)
        rw [hlv7, ← hbI] at h9
        exact zCo_seq h9 (fun c3 h3 z3 => ct_tail h3 hv (by rw [List.length_append, List.length_append]; omega))
      · intro m l τ hm hb htk hr hov hl
        rw [List.length_append] at hl
        obtain ⟨m0, z0, t0, o0, y0, b0, T⟩ := turn m y o τ l hm (by omega) hfo (by omega) htk (by omega) hov
        obtain ⟨m1, e1, e2, e3⟩ := m_sign (N := N) (o := o) (by omega) (by omega) o0 (by omega)
        have y1 := zYM_s y0 e3
        have hw1 := what m1 (y - 1) oc y1 (by omega) k1
        obtain ⟨m2, d1, d2, d3⟩ := t_side (N := N) (t := y - 1) (b := bI) (v := zb1 bI) (zTk_s t0 e3) (by omega) rfl
        have y2 : zYM s m2 := fun a ha => (d3.2.1 a (by
          simp only [List.mem_cons, List.not_mem_nil, or_false] at ha ⊢
          omega)).trans (y1 a ha)
        have o2 : zOV (l ++ zbs (zsgi o)) m2 := ⟨(d3.1 3329 (by decide)).trans e2.1, fun i hi => by rw [d3.2.1 44 (by decide)]; exact e2.2 i hi⟩
        obtain ⟨m3, q1, q2, q3, q4⟩ := rt_side (b := bI) k6 m2 (l ++ zbs (zsgi o)) τ y2 (fun t p1 p2 n' a' p3 p4 => by rw [d3.2.1 45 (by decide), e3.2.1 45 (by decide), b0]; exact hb t p1 p2 n' a' p3 p4) d2 (by omega) o2 (by rw [List.length_append]; omega)
        refine ⟨m3, fun M => ?_, q2, by rw [← List.append_assoc]; exact q3, zeq_trans (zeq_mono z0 (by decide) (by simp)) (zeq_trans (zeq_mono e3 (by decide) (by decide)) (zeq_trans (zeq_mono d3 (by decide) (by decide)) q4))⟩
        rw [show M + (1 + (k + (if bI = true then 2 else 0))) = M + (k + (if bI = true then 2 else 0)) + 1 by omega, T, if_pos (show (10 : Int32) ≤ nI o from nI_le (a := 10) (by omega) (by omega)), if_neg (show ¬ (12 : Int32) ≤ nI o from nI_ge (b := 12) (by omega) (by decide)), e1, zbn_s, show nI y - 1 = nI (y - 1) by rw [show y = y - 1 + 1 by omega]; exact nI_pred _, hw1, zbn_s, ← q1 M]
        by_cases c12 : 12 ≤ oc
        · have hbt := hbw.mpr c12
          rw [hbt] at d1 ⊢
          rw [if_neg (show ¬ nI oc ≤ (11 : Int32) from nI_ge (a := 11) (by omega) (by omega)), show (1 : Int32) = zb1 true from rfl, d1, zbn_s]
        · have hbf : bI = false := by
            cases hb : bI with
            | false => rfl
            | true => exact absurd (hbw.mp hb) c12
          rw [hbf] at d1 ⊢
          rw [if_pos (show nI oc ≤ (11 : Int32) from nI_le (b := 11) (by omega) (by decide)), show (0 : Int32) = zb1 false from rfl, d1, zbn_s]
    · -- a two-sided sign
      subst h1
      have l1 := zEx_lt n a mm g5
      have l2 := zEx_lt n mm y g6
      obtain ⟨wl, kl, ol, p1, p2, p3, p4, p5, p6⟩ := ih a mm g5 ha (by omega)
      obtain ⟨wr, kr, oR, q1, q2, q3, q4, q5, q6⟩ := ih mm y g6 (by omega) (by omega)
      obtain ⟨x1, x2, x3⟩ := opx y o (by omega) (by omega) (by omega) hfo
      have hx5 := x2 g2
      obtain ⟨v1, v2, v3⟩ := zlvl_k o (by omega) g2
      obtain ⟨bL, hbL⟩ : ∃ b : Bool, b = (ztw ol && decide (zlvl ol < zlvl o)) := ⟨_, rfl⟩
      obtain ⟨bR, hbR⟩ : ∃ b : Bool, b = (ztw oR && decide (zlvl oR < zlvl o + 1)) := ⟨_, rfl⟩
      have tw : ∀ oc, oc ≤ 21 → (ztw oc = true ↔ 12 ≤ oc) := by
        intro oc hoc
        unfold ztw
        rw [decide_eq_true_eq]
        omega
      have hL1 : bL = true ↔ 12 ≤ ol ∧ zlvl ol < zlvl o := by rw [hbL, Bool.and_eq_true, tw ol p2, decide_eq_true_eq]
      have hR1 : bR = true ↔ 12 ≤ oR ∧ zlvl oR < zlvl o + 1 := by rw [hbR, Bool.and_eq_true, tw oR q2, decide_eq_true_eq]
      have zl : ∀ (b : Bool) (w : List Int32) (oc : Nat), (b = true → 12 ≤ oc) → (zwr b w).length ≤ w.length + (if 12 ≤ oc then 2 else 0) := by
        intro b w oc hb
        cases b with
        | false => exact Nat.le_add_right _ _
        | true => rw [if_pos (hb rfl)]; exact zwr_l true w
      have zL := zl bL wl ol (fun z => (hL1.mp z).1)
      have zR := zl bR wr oR (fun z => (hR1.mp z).1)
      have hsg := (zsgi_k o (by omega)).2.1
      have hsg2 : (zbs (zsgi o)).length + 4 ≤ ic y := by
        by_cases c : o = 17 ∨ o = 18
        · have := x3 c; omega
        · have := (zsgi_k o (by omega)).2.2 (by omega) (by omega); omega
      have sl : ∀ (b : Bool) (t : Nat), (zsd b t).length ≤ 3 := by
        intro b t
        cases b with
        | false => exact Nat.le_of_ble_eq_true rfl
        | true => exact Nat.le_refl _
      have i2 : ∀ b : Bool, (if b = true then 2 else 0) ≤ 2 := fun b => by cases b <;> decide
      obtain ⟨W, hW⟩ : ∃ W, W = zwr bL wl ++ ([32] ++ (zbs (zsgi o) ++ ([32] ++ zwr bR wr))) := ⟨_, rfl⟩
      have hWl : W.length = (zwr bL wl).length + (zbs (zsgi o)).length + (zwr bR wr).length + 2 := by
        rw [hW, List.length_append, List.length_append, List.length_append, List.length_append, List.length_singleton]
        omega
      have RR := rt_app (R := 9 * (y + 1 - a)) (rt_side (b := bL) p6) (rt_app (R := 9 * (y + 1 - a)) (rt_odd (s := s) (f := f) (N := N) (F := F) (C := C) (x := 5) (y := 32) (Or.inr (Or.inr ⟨rfl, rfl⟩))) (rt_app (R := 9 * (y + 1 - a)) (rt_sign (s := s) (f := f) (N := N) (F := F) (C := C) (o := o) (by omega) g2) (rt_app (R := 9 * (y + 1 - a)) (rt_odd (s := s) (f := f) (N := N) (F := F) (C := C) (x := 5) (y := 32) (Or.inr (Or.inr ⟨rfl, rfl⟩))) (rt_side (b := bR) q6) (by have := sl bR (y - 1); omega) (by omega)) (by rw [List.length_append, List.length_singleton]; have := sl bR (y - 1); omega) (by omega)) (by simp only [List.length_append, List.length_singleton]; have := sl bR (y - 1); omega) (by omega)) (by simp only [List.length_append, List.length_singleton]; have := sl bR (y - 1); omega) (by omega)
      rw [← hW] at RR
      refine ⟨W, 1 + (kl + (if bL then 2 else 0) + (1 + (1 + (1 + (kr + (if bR then 2 else 0)))))), o, hfo, g3, ?_, ?_, ?_, ?_⟩
      · have := i2 bL
        have := i2 bR
        omega
      · rw [if_pos g2, hWl]
        show (zwr bL wl).length + (zbs (zsgi o)).length + (zwr bR wr).length + 2 + 2 + zsum ic a ≤ zsum ic y + ic y
        omega
      · intro r lv d c l hr hd hlv hc h hl
        obtain ⟨r, rfl⟩ : ∃ q, r = q + 1 := ⟨r - 1, by omega⟩
        refine ct_head hx hfd hF (by omega) hfo g3 (by omega) hlv hc h hl (fun c' l' v7 e hc' h' hv hle => ?_)
        rw [hWl] at hle
        have hbeg : fX7_beginOf N (nI (y + 1 - 1 - F) - 1) c' = some (nI (mm - F), c') := by
          rw [show nI (y + 1 - 1 - F) - 1 = nI (y - 1 - F) by rw [show y + 1 - 1 - F = y - 1 - F + 1 by omega]; exact nI_pred _, b_at hc'.2.2.1 (by omega) hC, hc'.2.2.2 (y - 1) (by omega) (by omega) n mm (by omega) (by rw [show y - 1 + 1 = y by omega]; exact g6)]
        unfold fX7_putTree_J59
        rw [(c_two (by omega)).1, zbn_s, if_pos (show 12 ≤ o ∧ o ≤ 21 from ⟨g2, g3⟩), if_neg (show ¬ (1 : Int32) = 0 by decide), hbeg, zbn_s, show nI (mm - F) - 1 = nI (mm - 1 - F) by rw [show mm - F = mm - 1 - F + 1 by omega]; exact nI_pred _, show nI d + 1 = nI (d + 1) from nI_1 _, show nI (y + 1 - 1 - F) - 1 = nI (y - 1 - F) by rw [show y + 1 - 1 - F = y - 1 - F + 1 by omega]; exact nI_pred _, show nI (zlvl o) + 1 = nI (zlvl o + 1) from nI_1 _, hW]
        simp only [List.append_assoc]
        have hA := p5 r (zlvl o) (d + 1) c' l' (by omega) (by omega) (by omega) hc' h' (by rw [← hbL]; omega)
        rw [← hbL] at hA
        refine zCo_seq hA (fun c2 h2 z2 => ?_)
        have hc2 := zTc_s hc' z2
        refine zCo_seq (c_byte h2 (by rw [List.length_append]; omega)) (fun c3 h3 z3 => ?_)
        have hc3 := zTc_s hc2 z3
        rw [c_sgi (by omega) (by omega), zbn_s]
        refine zCo_seq (c_text (zsgi_k o (by omega)).1 h3 (by rw [List.length_append, List.length_append, List.length_singleton]; omega) hN) (fun c4 h4 z4 => ?_)
        have hc4 := zTc_s hc3 z4
        refine zCo_seq (c_byte h4 (by rw [List.length_append, List.length_append, List.length_append, List.length_singleton]; omega)) (fun c5 h5 z5 => ?_)
        have hc5 := zTc_s hc4 z5
        have hB := q5 r (zlvl o + 1) (d + 1) c5 _ (by omega) (by omega) (by omega) hc5 h5 (by rw [← hbR, List.length_append, List.length_append, List.length_append, List.length_append, List.length_singleton]; omega)
        rw [← hbR] at hB
        exact zCo_seq hB (fun c6 h6 z6 => ct_tail h6 hv (by rw [List.length_append, List.length_append, List.length_append, List.length_append, List.length_append, List.length_singleton]; omega))
      · intro m l τ hm hb htk hr hov hl
        obtain ⟨m0, z0, t0, o0, y0, b0, T⟩ := turn m y o τ l hm (by omega) hfo g3 htk (by omega) hov
        have e45 : m0.2.1 45 (y - 1 - F) = nI mm := by
          rw [b0]
          exact hb (y - 1) (by omega) (by omega) n mm (by omega) (by rw [show y - 1 + 1 = y by omega]; exact g6)
        have ey1 : nI y - 1 = nI (y - 1) := by rw [show y = y - 1 + 1 by omega]; exact nI_pred _
        have em1 : nI mm - 1 = nI (mm - 1) := by rw [show mm = mm - 1 + 1 by omega]; exact nI_pred _
        have eyF : nI (y - 1) - nI F = nI (y - 1 - F) := pk_sub (by omega)
        have wL := what m0 (mm - 1) ol y0 (by omega) p1
        have wR := what m0 (y - 1) oR y0 (by omega) q1
        obtain ⟨m1, d1, d2, d3⟩ := t_side (N := N) (t := y - 1) (b := bR) (v := zb1 bR) t0 (by omega) rfl
        have s1 := sl bR (y - 1)
        obtain ⟨m2, f1, f2, f3⟩ := t_add (N := N) (x := 5) (v := 5) d2 (by rw [List.length_append]; omega) rfl
        obtain ⟨m3, f4, f5, f6⟩ := t_add (N := N) (x := 2 * o + 101) (v := nI (2 * o + 101)) f2 (by rw [List.length_cons, List.length_append]; omega) rfl
        obtain ⟨m4, f7, f8, f9⟩ := t_add (N := N) (x := 5) (v := 5) f5 (by rw [List.length_cons, List.length_cons, List.length_append]; omega) rfl
        obtain ⟨m5, j1, j2, j3⟩ := t_side (N := N) (t := mm - 1) (b := bL) (v := zb1 bL) f8 (by rw [List.length_cons, List.length_cons, List.length_cons, List.length_append]; omega) rfl
        have z5 : zeq [3335] [46] m0 m5 := zeq_trans d3 (zeq_trans f3 (zeq_trans f6 (zeq_trans f9 j3)))
        have y5 : zYM s m5 := fun a ha => (z5.2.1 a (by
          simp only [List.mem_cons, List.not_mem_nil, or_false] at ha ⊢
          omega)).trans (y0 a ha)
        have o5 : zOV l m5 := ⟨(z5.1 3329 (by decide)).trans o0.1, fun i hi => by rw [z5.2.1 44 (by decide)]; exact o0.2 i hi⟩
        obtain ⟨m6, r1, r2, r3, r4⟩ := RR m5 l τ y5 (fun t u1 u2 n' a' u3 u4 => by rw [z5.2.1 45 (by decide), b0]; exact hb t u1 u2 n' a' u3 u4) (by rw [List.append_assoc]; exact j2) hr o5 hl
        refine ⟨m6, fun M => ?_, r2, r3, zeq_trans (zeq_mono z0 (by decide) (by simp)) (zeq_trans (zeq_mono z5 (by decide) (by decide)) r4)⟩
        have e2o : 2 * nI o + 101 = nI (2 * o + 101) := by rw [show (2 : Int32) * nI o = nI (2 * o) from pk_mul 2 o]; exact nI_add _ 101
        have J269 : ∀ M', fX10_sayItems_J269 N (nI F) (nI C) (fX10_sayItems_L22 N (nI F) (nI C) M') (nI o) (nI (y - 1)) (nI (mm - 1)) (zb1 bL) (zb1 bR) m0 = zTL N F C M' m5 := by
          intro M'
          unfold fX10_sayItems_J269
          rw [d1, zbn_s, f1, zbn_s, e2o, f4, zbn_s, f7, zbn_s, j1, zbn_s]
        have bO : fX10_binds N (nI o) m0 = some (nI (zlvl o), m0) := by rw [e10_bnd (by omega), v3]
        have J234 : ∀ M', fX10_sayItems_J234 N (nI F) (nI C) (fX10_sayItems_L22 N (nI F) (nI C) M') (nI o) (nI (y - 1)) (nI (mm - 1)) (zb1 bL) m0 = zTL N F C M' m5 := by
          intro M'
          unfold fX10_sayItems_J234 fX10_sayItems_J268
          rw [wR, zbn_s]
          by_cases c12 : 12 ≤ oR
          · obtain ⟨u1, u2, u3⟩ := zlvl_k oR (by omega) c12
            have bR' : fX10_binds N (nI oR) m0 = some (nI (zlvl oR), m0) := by rw [e10_bnd (by omega), u3]
            rw [if_neg (show ¬ nI oR ≤ (11 : Int32) from nI_ge (a := 11) (by omega) (by omega)), wR, zbn_s, bR', zbn_s, bO, zbn_s]
            by_cases cl : zlvl o < zlvl oR
            · have hbf : bR = false := by
                cases hb' : bR with
                | false => rfl
                | true => have := (hR1.mp hb').2; omega
              rw [if_pos (nI_lt cl (by omega)), show (0 : Int32) = zb1 bR by rw [hbf]; rfl, J269]
            · rw [if_neg (nI_nlt (by omega) (by omega)), show (1 : Int32) = zb1 bR by rw [hR1.mpr ⟨c12, by omega⟩]; rfl, J269]
          · have hbf : bR = false := by
              cases hb' : bR with
              | false => rfl
              | true => exact absurd (hR1.mp hb').1 c12
            rw [if_pos (show nI oR ≤ (11 : Int32) from nI_le (b := 11) (by omega) (by decide)), show (0 : Int32) = zb1 bR by rw [hbf]; rfl, J269]
        rw [show M + (1 + (kl + (if bL = true then 2 else 0) + (1 + (1 + (1 + (kr + (if bR = true then 2 else 0))))))) = M + (kl + (if bL = true then 2 else 0) + (1 + (1 + (1 + (kr + (if bR = true then 2 else 0)))))) + 1 by omega, T, if_pos (show (10 : Int32) ≤ nI o from nI_le (a := 10) (by omega) (by omega)), if_pos (show (12 : Int32) ≤ nI o from nI_le (a := 12) g2 (by omega)), ey1, eyF, if_pos (zga_l (by rfl) (show y - 1 - F < 2001 by omega) (by decide)), nI_clamp (show y - 1 - F < 2 ^ 31 by omega), e45, em1, wL, zbn_s, ← r1 M]
        unfold fX10_sayItems_J233
        by_cases c12 : 12 ≤ ol
        · obtain ⟨u1, u2, u3⟩ := zlvl_k ol (by omega) c12
          have bL' : fX10_binds N (nI ol) m0 = some (nI (zlvl ol), m0) := by rw [e10_bnd (by omega), u3]
          rw [if_neg (show ¬ nI ol ≤ (11 : Int32) from nI_ge (a := 11) (by omega) (by omega)), wL, zbn_s, bL', zbn_s, bO, zbn_s]
          by_cases cl : zlvl ol < zlvl o
          · rw [if_neg (nI_ge cl (by omega)), show (1 : Int32) = zb1 bL by rw [hL1.mpr ⟨c12, cl⟩]; rfl, J234]
          · have hbf : bL = false := by
              cases hb' : bL with
              | false => rfl
              | true => exact absurd (hL1.mp hb').2 cl
            rw [if_pos (nI_le (by omega) (by omega)), show (0 : Int32) = zb1 bL by rw [hbf]; rfl, J234]
        · have hbf : bL = false := by
            cases hb' : bL with
            | false => rfl
            | true => exact absurd (hL1.mp hb').1 c12
          rw [if_pos (show nI ol ≤ (11 : Int32) from nI_le (b := 11) (by omega) (by decide)), show (0 : Int32) = zb1 bL by rw [hbf]; rfl, J234]
