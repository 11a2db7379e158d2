def zC3 (o : Option (Unit × zS)) (c : zS) (l w : List Int32) : Prop := ∃ c', o = some ((), c') ∧ zOU (l ++ w) c' ∧ zeq [3001, 3003, 3004] [31, 32] c c'
def zM4 (o : Option (Unit × zS)) (m : zS) (l w : List Int32) : Prop := ∃ m', o = some ((), m') ∧ zOV (l ++ w) m' ∧ zeq [3329, 3335] [44, 45, 46, 47] m m'
theorem zC3_of {o : Option (Unit × zS)} {c : zS} {l w : List Int32} (h : zCo o c l w) : zC3 o c l w := by
  obtain ⟨c', h1, h2, h3⟩ := h
  exact ⟨c', h1, h2, zeq_mono h3 (by decide) (by decide)⟩
theorem zM4_of {o : Option (Unit × zS)} {c : zS} {l w : List Int32} (h : zMo o c l w) : zM4 o c l w := by
  obtain ⟨c', h1, h2, h3⟩ := h
  exact ⟨c', h1, h2, zeq_mono h3 (by decide) (by decide)⟩
theorem zC3_seq {o : Option (Unit × zS)} {k : Unit → zS → Option (Unit × zS)} {c : zS} {l w w' : List Int32} (h : zC3 o c l w) (hk : ∀ c', zOU (l ++ w) c' → zeq [3001, 3003, 3004] [31, 32] c c' → zC3 (k () c') c' (l ++ w) w') : zC3 (zbn o k) c l (w ++ w') := by
  obtain ⟨c1, e1, h1, z1⟩ := h
  obtain ⟨c2, e2, h2, z2⟩ := hk c1 h1 z1
  refine ⟨c2, by rw [e1, zbn_s, e2], ?_, zeq_trans z1 z2⟩
  rw [← List.append_assoc]
  exact h2
theorem zM4_seq {o : Option (Unit × zS)} {k : Unit → zS → Option (Unit × zS)} {c : zS} {l w w' : List Int32} (h : zM4 o c l w) (hk : ∀ c', zOV (l ++ w) c' → zeq [3329, 3335] [44, 45, 46, 47] c c' → zM4 (k () c') c' (l ++ w) w') : zM4 (zbn o k) c l (w ++ w') := by
  obtain ⟨c1, e1, h1, z1⟩ := h
  obtain ⟨c2, e2, h2, z2⟩ := hk c1 h1 z1
  refine ⟨c2, by rw [e1, zbn_s, e2], ?_, zeq_trans z1 z2⟩
  rw [← List.append_assoc]
  exact h2
theorem zYC_3 {s c c' : zS} (h : zYC s c) (hz : zeq [3001, 3003, 3004] [31, 32] c c') : zYC s c' := zeq_trans h hz
theorem zYM_4 {s m m' : zS} (h : zYM s m) (hz : zeq [3329, 3335] [44, 45, 46, 47] m m') : zYM s m' := fun a ha => (hz.2.1 a (by
  simp only [List.mem_cons, List.not_mem_nil, or_false] at ha ⊢
  omega)).trans (h a ha)
theorem zHf_of {B n2 n3 : Nat} {s : zS} {ic : Nat → Nat} (hic : ∀ t, t < n2 → zItk B n3 s t (ic t)) : zHf (fun t => s.2.1 (B + 6) (t * 2 + 0)) n2 := by
  intro t ht
  rcases hic t ht with ⟨z, -⟩ | ⟨z, -⟩ | ⟨z, -⟩ | ⟨z, -⟩ | ⟨o, z1, z2, z3, -⟩
  · exact ⟨0, z, Or.inl (by omega)⟩
  · exact ⟨1, z, Or.inl (by omega)⟩
  · exact ⟨2, z, Or.inl (by omega)⟩
  · exact ⟨3, z, Or.inl (by omega)⟩
  · exact ⟨o, z3, Or.inr ⟨z1, z2⟩⟩
set_option maxHeartbeats 1000000 in
theorem it_text {B n0 n1 n2 n3 nb nl N F C : Nat} {s : zS} {ic : Nat → Nat} (hx : zBx B n0 n1 n2 n3 nb nl s) (hic : ∀ t, t < n2 → zItk B n3 s t (ic t)) (hF : F + C ≤ n2) (hC : C ≤ 60) (hN : 10000 ≤ N) (hE : zEx (fun t => s.2.1 (B + 6) (t * 2 + 0)) 60 F (F + C)) : ∃ w : List Int32, w.length + zsum ic F ≤ zsum ic (F + C) ∧ (∀ (c : zS) (l : List Int32), zYC s c → c.1 3003 = nI F → c.1 3004 = nI C → zOU l c → l.length + w.length ≤ 6000 → ∃ c1 c', fX7_findBegins N B c = some ((), c1) ∧ zeq [] [32] c c1 ∧ True ∧ (∀ c2, zeq [3001] [31] c1 c2 → ∀ l', zOU l' c2 → l'.length + w.length ≤ 6000 → zCo (fX7_putTree N B (nI C - 1) 1 0 c2) c2 l' w) ∧ c' = c1) ∧ (∀ (m : zS) (l : List Int32), zYM s m → zOV l m → l.length + w.length ≤ 6000 → zM4 (fX10_sayItems N (nI F) (nI C) m) m l w) := by
  have hn2 : n2 ≤ 2000 := hx.2.2.2.2.1.1
  obtain ⟨f, hfd⟩ : ∃ f : Nat → Int32, f = fun t => s.2.1 (B + 6) (t * 2 + 0) := ⟨_, rfl⟩
  rw [← hfd] at hE
  have hlt := zEx_lt 60 F (F + C) hE
  have hHf : zHf f n2 := by rw [hfd]; exact zHf_of hic
  obtain ⟨w, k, o, t1, t2, t3, t4, t5, t6⟩ := treeT (N := N) hx hfd hic hF hC (by omega) 60 F (F + C) hE (Nat.le_refl _) (Nat.le_refl _)
  refine ⟨w, by omega, ?_, ?_⟩
  · intro c l hc h3 h4 h hl
    obtain ⟨c1, e1, e2, e3⟩ := fbC (N := N) hx hfd hHf hF hC C 0 N c (by omega) (by omega) hc h3 h4 (fun t q1 q2 => absurd q2 (by omega))
    refine ⟨c1, c1, ?_, e2, trivial, fun c2 z2 l' h2 hl' => ?_, rfl⟩
    · unfold fX7_findBegins
      rw [show (0 : Int32) = nI 0 from rfl, e1, zbl_r]
    · have hc1 : zTc s f F C c1 := ⟨zeq_trans hc (zeq_mono e2 (fun _ h => absurd h List.not_mem_nil) (by decide)), (e2.1 _ List.not_mem_nil).trans h3, (e2.1 _ List.not_mem_nil).trans h4, e3⟩
      have hwf : (ztw o && decide (zlvl o < 1)) = false := by
        have h9 : ∀ o, o < 22 → (ztw o && decide (zlvl o < 1)) = false := by decide +kernel
        exact h9 o (by omega)
      have h9 := t5 100 1 0 c2 l' (by omega) (by omega) (by omega) (zTc_s hc1 z2) h2 (by rw [hwf]; exact hl')
      rw [hwf] at h9
      unfold fX7_putTree
      rw [show nI C - 1 = nI (F + C - 1 - F) by rw [show F + C - 1 - F = C - 1 by omega, show C = C - 1 + 1 by omega]; exact nI_pred _]
      exact h9
  · intro m l hm h hl
    have h39 : ∀ t, t < n2 → m.2.1 39 (4000 + 2 * t) = f t := fun t ht => by
      rw [hm 39 (by decide), hfd]
      show s.2.1 39 (4000 + 2 * t) = s.2.1 (B + 6) (t * 2 + 0)
      rw [hx.2.2.2.2.1.2.2.2 t 0 ht (by omega), show 4000 * 1 + 2 * t + 0 = 4000 + 2 * t by omega]
    obtain ⟨m1, i1, i2, i3, i4, i5, i6⟩ := fbM (N := N) hF hn2 hC 60 F (F + C) hE (Nat.le_refl _) (Nat.le_refl _) 0 m (by omega) h39
    have hend : ∀ M h' m', fX10_findBegins_L5 N (nI F) (nI C) (M + 1) (nI h') (nI (F + C)) m' = some (.inr m') := fun M h' m' => by
      show fX10_findBegins_L5S N (nI F) (nI C) (fX10_findBegins_L5 N (nI F) (nI C) M) (nI h') (nI (F + C)) m' = _
      unfold fX10_findBegins_L5S
      rw [nI_add, if_pos (nI_le (Nat.le_refl _) (by omega))]
    have hfb : fX10_findBegins N (nI F) (nI C) m = some ((), m1) := by
      have h9 := i1 (N - C)
      rw [show N - C + (F + C - F) = N by omega] at h9
      have h8 := hend (N - C - 1) (0 + 1) m1
      rw [show N - C - 1 + 1 = N - C by omega] at h8
      unfold fX10_findBegins
      rw [show (0 : Int32) = nI 0 from rfl, h9, h8, zbl_r]
    obtain ⟨m2, hm2⟩ : ∃ m2, m2 = zsc m1 3335 0 := ⟨_, rfl⟩
    have z2 : zeq [3335] [] m1 m2 := by rw [hm2]; exact zeq_c (by simp)
    have tk2 : zTk [] m2 := ⟨by rw [hm2]; exact zsc_at, trivial⟩
    obtain ⟨m3, a1, a2, a3⟩ := t_add (N := N) (x := 2 * (F + C - 1)) (v := nI (2 * (F + C - 1))) tk2 (by show 0 < 8100; omega) rfl
    have z13 : zeq [3335] [46] m1 m3 := zeq_trans (zeq_mono z2 (fun _ h => h) (fun _ h => absurd h List.not_mem_nil)) a3
    have z03 : zeq [3329, 3335] [44, 45, 46, 47] m m3 := zeq_trans (zeq_mono i2 (fun _ h => absurd h List.not_mem_nil) (by decide)) (zeq_mono z13 (by decide) (by decide))
    have o3 : zOV l m3 := ⟨(z13.1 3329 (by decide)).trans ((i2.1 3329 List.not_mem_nil).trans h.1), fun i hi => by rw [z13.2.1 44 (by decide), i2.2.1 44 (by decide)]; exact h.2 i hi⟩
    obtain ⟨m4, b1, b2, b3, b4⟩ := t6 m3 l [] (zYM_4 hm z03) (fun t q1 q2 n a q3 q4 => by rw [z13.2.1 45 (by decide)]; exact i6 t q1 q2 n a q3 q4) a2 (by show 0 + 9 * (F + C - F) ≤ 7000; omega) o3 hl
    refine ⟨m4, ?_, b3, zeq_trans z03 (zeq_mono b4 (by decide) (by decide))⟩
    have e2 : 2 * (nI F + nI C - 1) = nI (2 * (F + C - 1)) := by
      rw [nI_add, show nI (F + C) - 1 = nI (F + C - 1) by rw [show F + C = F + C - 1 + 1 by omega]; exact nI_pred _]
      exact pk_mul 2 _
    have h9 := b1 (N - k)
    rw [show N - k + k = N by omega] at h9
    have h8 : zTL N F C (N - k) m4 = some (.inr m4) := by
      rw [show N - k = N - k - 1 + 1 by omega]
      show fX10_sayItems_L22S N (nI F) (nI C) (fX10_sayItems_L22 N (nI F) (nI C) (N - k - 1)) m4 = _
      unfold fX10_sayItems_L22S
      rw [b2.1, if_pos (by decide)]
    unfold fX10_sayItems
    rw [hfb, zbn_s, e2, ← hm2, a1, zbn_s]
    show zbl (zTL N F C N m3) (fun x => some x) (fun s84 => some ((), s84)) = _
    rw [h9, h8, zbl_r]
set_option maxHeartbeats 1000000 in
theorem op_text {B n0 n1 n2 n3 nb nl N j : Nat} {s : zS} {ic oc fo : Nat → Nat} (hx : zBx B n0 n1 n2 n3 nb nl s) (hic : ∀ t, t < n2 → zItk B n3 s t (ic t)) (hfo : fo (j + 1) ≤ n2) (hj : j < n1) (hop : zOpk B s fo j (oc j)) (hN : 10000 ≤ N) : ∃ w : List Int32, w.length + 2 + zsum ic (fo j) ≤ zsum ic (fo (j + 1)) + oc j ∧ (∀ (c : zS) (l : List Int32), zYC s c → zOU l c → l.length + w.length ≤ 6000 → zC3 (fX7_putOperand N B (nI j) c) c l w) ∧ (∀ (m : zS) (l : List Int32), zYM s m → zOV l m → l.length + w.length ≤ 6000 → zM4 (fX10_sayOperand N (nI j) m) m l w) := by
  obtain ⟨so, mk, o1, o2, o3, o4, o5, o6, o7, o8, o9, o10, o11, o12, o13, o14⟩ := hop
  have hb1 : n1 ≤ 800 := hx.2.2.2.1.1
  have b4 := hx.2.2.2.1.2.2.2
  have e0 : (5600 : Int32) + 7 * nI j = nI (5600 + 7 * j) := by rw [show (7 : Int32) * nI j = nI (7 * j) from pk_mul 7 j]; exact nI_add 5600 _
  have e1 : nI (5600 + 7 * j) + 1 = nI (5600 + 7 * j + 1) := nI_1 _
  have e2 : nI (5600 + 7 * j) + 2 = nI (5600 + 7 * j + 2) := nI_add _ 2
  have e3 : nI (5600 + 7 * j) + 3 = nI (5600 + 7 * j + 3) := nI_add _ 3
  have e4 : nI (5600 + 7 * j) + 4 = nI (5600 + 7 * j + 4) := nI_add _ 4
  have zz : ∀ i, i < 7 → zga (nI (5600 + 7 * j + i)) (zlen 38) = true := fun i hi => zga_l (by rfl) (show 5600 + 7 * j + i < 11200 by omega) (by decide)
  have z0 : zga (nI (5600 + 7 * j)) (zlen 38) = true := zz 0 (by omega)
  have M : ∀ m, zYM s m → ∀ i, i < 7 → m.2.1 38 (5600 + 7 * j + i) = s.2.1 (B + 4) (j * 8 + i) := fun m hm i hi => by
    rw [hm 38 (by decide), b4 j i hj hi, show 5600 * 1 + 7 * j + i = 5600 + 7 * j + i by omega]
  have M0 : ∀ m, zYM s m → m.2.1 38 (5600 + 7 * j) = nI so := fun m hm => (M m hm 0 (by omega)).trans o3
  have cs : so = 1 ∨ so = 3 ∨ so = 0 ∨ so = 2 := by omega
  rcases cs with rfl | rfl | hs
  · -- a register
    obtain ⟨r, hr, er⟩ := o9 (Or.inl rfl)
    obtain ⟨w, w1, w2, w3⟩ := rg_text hx hr
    have := o10 (Or.inl rfl)
    have := o12 rfl
    refine ⟨w, by rw [o10 (Or.inl rfl)]; omega, fun c l hc h hl => ?_, fun m l hm h hl => ?_⟩
    · obtain ⟨c', f1, f2, f3⟩ := w2 N j c l (by omega) hj er hc h hl
      refine zC3_of ⟨c', ?_, f2, f3⟩
      unfold fX7_putOperand
      rw [(x_cell hx hc (-1)).2.1 j 0 0 hj (by omega) rfl, zbn_s, o3, if_neg (by decide), if_pos (show nI 1 = 1 from rfl), f1, zbn_s, if_neg (by decide)]
    · obtain ⟨m', f1, f2, f3⟩ := w3 N m l (by omega) h hl
      refine zM4_of ⟨m', ?_, f2, f3⟩
      unfold fX10_sayOperand
      rw [e0, if_pos z0, nI_clamp (by omega), M0 m hm, if_pos (show nI 1 = 1 from rfl), e1, if_pos (zz 1 (by omega)), nI_clamp (by omega), M m hm 1 (by omega), er, f1, zbn_s]
  · -- a string
    obtain ⟨len, l1, l2, l3⟩ := o13 rfl
    obtain ⟨w, w1, w2, w3⟩ := st_text hx hj l1 l2
    refine ⟨w, by rw [o10 (Or.inr rfl)]; omega, fun c l hc h hl => ?_, fun m l hm h hl => ?_⟩
    · obtain ⟨c', f1, f2, f3⟩ := w2 N c l (by omega) hc h hl
      refine zC3_of ⟨c', ?_, f2, f3⟩
      unfold fX7_putOperand
      rw [(x_cell hx hc (-1)).2.1 j 0 0 hj (by omega) rfl, zbn_s, o3, if_pos (show nI 3 = 3 from rfl), f1, zbn_s, if_neg (by decide)]
    · obtain ⟨m', f1, f2, f3⟩ := w3 N m l (by omega) hm h hl
      refine zM4_of ⟨m', ?_, f2, f3⟩
      unfold fX10_sayOperand
      rw [e0, if_pos z0, nI_clamp (by omega), M0 m hm, if_neg (by decide), if_pos z0, if_pos (show nI 3 = 3 from rfl), f1, zbn_s]
  · -- an expression
    have hC : fo (j + 1) = fo j + (fo (j + 1) - fo j) := (Nat.add_sub_cancel' o7).symm
    obtain ⟨C, hCd⟩ : ∃ C, C = fo (j + 1) - fo j := ⟨_, rfl⟩
    have hE := o11 hs
    rw [hC, ← hCd] at hE
    have hlt := zEx_lt 60 (fo j) (fo j + C) hE
    obtain ⟨w0, w1, w2, w3⟩ := it_text (N := N) hx hic (F := fo j) (C := C) (by omega) (by omega) hN hE
    have hx14 := o14 hs
    have hreg : so = 2 → ∃ wr : List Int32, wr.length ≤ 3 ∧ (∀ (c : zS) (l : List Int32), zYC s c → zOU l c → l.length + wr.length ≤ 6000 → zCo (fX7_putRegister N B (nI j) c) c l wr) ∧ (∀ (m : zS) (l : List Int32), zYM s m → zOV l m → l.length + wr.length ≤ 6000 → zMo (fX10_sayRegister N (m.2.1 38 (5600 + 7 * j + 1)) m) m l wr) := by
      intro h2
      obtain ⟨r, hr, er⟩ := o9 (Or.inr h2)
      obtain ⟨wr, u1, u2, u3⟩ := rg_text hx hr
      exact ⟨wr, u1, fun c l hc h hl => u2 N j c l (by omega) hj er hc h hl, fun m l hm h hl => by rw [M m hm 1 (by omega), er]; exact u3 N m l (by omega) h hl⟩
    -- the memory's end
    have hend : ∃ we : List Int32, we.length ≤ (if so = 2 then 5 else 0) ∧ (∀ (c : zS) (l : List Int32), zYC s c → zOU l c → l.length + we.length ≤ 6000 → zCo (if nI so = 2 then zbn (fX7_putByte N 40 c) (fun _ s8 => zbn (fX7_putRegister N B (nI j) s8) (fun _ s11 => zbn (fX7_putByte N 41 s11) (fun _ s14 => some ((), s14)))) else some ((), c)) c l we) ∧ (∀ (m : zS) (l : List Int32), zYM s m → zOV l m → l.length + we.length ≤ 6000 → zMo (fX10_sayOperand_J112 N (nI j) (nI (5600 + 7 * j)) m) m l we) := by
      by_cases h2 : so = 2
      · obtain ⟨wr, u1, u2, u3⟩ := hreg h2
        refine ⟨[40] ++ (wr ++ [41]), by rw [if_pos h2, List.length_append, List.length_append, List.length_singleton, List.length_singleton]; omega, fun c l hc h hl => ?_, fun m l hm h hl => ?_⟩
        · rw [List.length_append, List.length_append, List.length_singleton, List.length_singleton] at hl
          rw [if_pos (show nI so = 2 by rw [h2]; rfl)]
          refine zCo_seq (c_byte h (by omega)) (fun c1 h1 z1 => ?_)
          refine zCo_seq (u2 c1 _ (zYC_s hc z1) h1 (by rw [List.length_append, List.length_singleton]; omega)) (fun c2 h2 z2 => ?_)
          exact zCo_ret (c_byte h2 (by rw [List.length_append, List.length_append, List.length_singleton]; omega))
        · rw [List.length_append, List.length_append, List.length_singleton, List.length_singleton] at hl
          unfold fX10_sayOperand_J112
          rw [if_pos z0, nI_clamp (by omega), M0 m hm, if_pos (show nI so = 2 by rw [h2]; rfl)]
          refine zMo_seq (m_byte h (by omega)) (fun c1 h1 z1 => ?_)
          rw [e1, if_pos (zz 1 (by omega)), nI_clamp (by omega)]
          refine zMo_seq (u3 c1 _ (zYM_s hm z1) h1 (by rw [List.length_append, List.length_singleton]; omega)) (fun c2 h2 z2 => ?_)
          exact zMo_ret (m_byte h2 (by rw [List.length_append, List.length_append, List.length_singleton]; omega))
      · have hn : ¬ nI so = (2 : Int32) := fun z => h2 ((nI_eq (b := 2) (by omega) (by decide)).mp z)
        refine ⟨[], Nat.zero_le _, fun c l hc h hl => ?_, fun m l hm h hl => ?_⟩
        · rw [if_neg hn]
          exact zCo_nil h
        · unfold fX10_sayOperand_J112
          rw [if_pos z0, nI_clamp (by omega), M0 m hm, if_neg hn]
          exact zMo_nil h
    obtain ⟨we, we1, we2, we3⟩ := hend
    have n13 : ¬ nI so = (3 : Int32) ∧ ¬ nI so = (1 : Int32) := ⟨fun z => by have := (nI_eq (b := 3) (by omega) (by decide)).mp z; omega, fun z => by have := (nI_eq (b := 1) (by omega) (by decide)).mp z; omega⟩
    have x3 : ∀ c, zYC s c → fX6_cell N (B + 3) (nI j) 2 0 c = some (nI mk, c) ∧ fX6_cell N (B + 3) (nI j) 3 0 c = some (nI (fo j), c) ∧ fX6_cell N (B + 3) (nI j) 4 0 c = some (nI C, c) := fun c hc => ⟨by rw [(x_cell hx hc 0).2.1 j 2 2 hj (by omega) rfl, o4], by rw [(x_cell hx hc 0).2.1 j 3 3 hj (by omega) rfl, o5], by rw [(x_cell hx hc 0).2.1 j 4 4 hj (by omega) rfl, o6, hCd]⟩
    have hmin : (if (60 : Int32) < nI C then 60 else nI C) = nI C := if_neg (nI_nlt (a := 60) (by omega) (by decide))
    -- the class up to the tree
    have hpre : ∀ c l, zYC s c → zOU l c → l.length + w0.length ≤ 6000 → ∃ c1, zYC s c1 ∧ zOU l c1 ∧ zeq [3001, 3003, 3004] [31, 32] c c1 ∧ c1.1 3004 = nI C ∧ (∀ c2, zeq [3001] [31] c1 c2 → ∀ l', zOU l' c2 → l'.length + w0.length ≤ 6000 → zCo (fX7_putTree N B (nI C - 1) 1 0 c2) c2 l' w0) ∧ fX7_putExpression N B (nI j) c = (if nI mk = 0 then fX7_putExpression_J73 N B (nI j) (nI mk) c1 else zbn (fX7_putByte N 37 c1) (fun _ s20 => zbn (fX2_nameOf N (nI mk) s20) (fun x22 s23 => zbn (fX7_putText N x22 s23) (fun _ s26 => zbn (fX7_putByte N 40 s26) (fun _ s29 => fX7_putExpression_J73 N B (nI j) (nI mk) s29))))) := by
      intro c l hc h hl
      obtain ⟨ca, hca⟩ : ∃ ca, ca = zsc c 3003 (nI (fo j)) := ⟨_, rfl⟩
      have za : zeq [3001, 3003, 3004] [31, 32] c ca := by rw [hca]; exact zeq_c (by decide)
      obtain ⟨cb, hcb⟩ : ∃ cb, cb = zsc ca 3004 (nI C) := ⟨_, rfl⟩
      have zb : zeq [3001, 3003, 3004] [31, 32] c cb := zeq_trans za (by rw [hcb]; exact zeq_c (by decide))
      have ob : zOU l cb := by
        rw [hcb, hca]
        exact ⟨(zsc_ne (by decide)).trans ((zsc_ne (by decide)).trans h.1), h.2⟩
      obtain ⟨c1, -, f1, f2, -, f3, -⟩ := w2 cb l (zYC_3 hc zb) (by rw [hcb, hca]; exact (zsc_ne (by decide)).trans zsc_at) (by rw [hcb]; exact zsc_at) ob hl
      have z1 : zeq [3001, 3003, 3004] [31, 32] c c1 := zeq_trans zb (zeq_mono f2 (fun _ h => absurd h List.not_mem_nil) (by decide))
      refine ⟨c1, zYC_3 hc z1, ⟨(f2.1 _ List.not_mem_nil).trans ob.1, fun i hi => by rw [f2.2.1 31 (by decide)]; exact ob.2 i hi⟩, z1, (f2.1 _ List.not_mem_nil).trans (by rw [hcb]; exact zsc_at), f3, ?_⟩
      unfold fX7_putExpression
      rw [(x3 c hc).1, zbn_s, (x3 c hc).2.1, zbn_s, ← hca, (x3 ca (zYC_3 hc za)).2.2, zbn_s, hmin, ← hcb, f1, zbn_s]
    have hJ75 : ∀ m, zYM s m → fX10_sayOperand_J75 N (nI j) (nI (5600 + 7 * j)) m = zbn (fX10_sayItems N (nI (fo j)) (nI C) m) (fun _ s7 => if zga (nI (5600 + 7 * j + 2)) (zlen 38) = true then if (s7.2.1 38 (nI (5600 + 7 * j + 2)).toNatClampNeg) ≤ 0 then fX10_sayOperand_J112 N (nI j) (nI (5600 + 7 * j)) s7 else zbn (fX10_say N 41 s7) (fun _ s22 => fX10_sayOperand_J112 N (nI j) (nI (5600 + 7 * j)) s22) else none) := by
      intro m hm
      unfold fX10_sayOperand_J75
      rw [e3, if_pos (zz 3 (by omega)), e4, if_pos (zz 4 (by omega)), nI_clamp (by omega), nI_clamp (by omega), M m hm 3 (by omega), M m hm 4 (by omega), o5, o6, ← hCd, e2]
    have hSO : ∀ m, zYM s m → fX10_sayOperand N (nI j) m = (if nI mk ≤ 0 then fX10_sayOperand_J75 N (nI j) (nI (5600 + 7 * j)) m else zbn (fX10_sayMark N (nI mk) m) (fun _ s26 => fX10_sayOperand_J75 N (nI j) (nI (5600 + 7 * j)) s26)) := by
      intro m hm
      unfold fX10_sayOperand
      rw [e0, if_pos z0, nI_clamp (by omega), M0 m hm, if_neg n13.2, if_pos z0, if_neg n13.1, e2, if_pos (zz 2 (by omega)), nI_clamp (by omega), M m hm 2 (by omega), o4, if_pos (zz 2 (by omega))]
    by_cases mk0 : mk = 0
    · rw [if_pos mk0] at hx14
      have hmz : nI mk = 0 := by rw [mk0]; rfl
      refine ⟨w0 ++ we, by rw [List.length_append, hC, ← hCd]; omega, fun c l hc h hl => ?_, fun m l hm h hl => ?_⟩
      · rw [List.length_append] at hl
        obtain ⟨c1, y1, y2, y3, y4, y5, y6⟩ := hpre c l hc h (by omega)
        obtain ⟨c2, k1, k2, k3⟩ := y5 c1 (zeq_refl _ _ _) l y2 (by omega)
        obtain ⟨c3, k4, k5, k6⟩ := we2 c2 (l ++ w0) (zYC_s y1 k3) k2 (by rw [List.length_append]; omega)
        refine ⟨c3, ?_, by rw [← List.append_assoc]; exact k5, zeq_trans y3 (zeq_trans (zeq_mono k3 (by decide) (by decide)) (zeq_mono k6 (by decide) (by decide)))⟩
        have hpe : fX7_putExpression N B (nI j) c = some ((), c2) := by
          rw [y6, if_pos hmz]
          unfold fX7_putExpression_J73
          rw [y4, k1, zbn_s, if_pos hmz]
        unfold fX7_putOperand
        rw [(x_cell hx hc (-1)).2.1 j 0 0 hj (by omega) rfl, zbn_s, o3, if_neg n13.1, if_neg n13.2, hpe, zbn_s, k4]
      · rw [List.length_append] at hl
        rw [hSO m hm, if_pos (show nI mk ≤ (0 : Int32) by rw [hmz]; decide), hJ75 m hm]
        refine zM4_seq (w3 m l hm h (by omega)) (fun m2 h2 z2 => ?_)
        have hm2 := zYM_4 hm z2
        rw [if_pos (zz 2 (by omega)), nI_clamp (by omega), M m2 hm2 2 (by omega), o4, if_pos (show nI mk ≤ (0 : Int32) by rw [hmz]; decide)]
        exact zM4_of (we3 m2 _ hm2 h2 (by rw [List.length_append]; omega))
    · rw [if_neg mk0] at hx14
      have hmz : ¬ nI mk = 0 := fun z => mk0 ((nI_eq (b := 0) (by omega) (by decide)).mp z)
      have hmp : ¬ nI mk ≤ (0 : Int32) := nI_nle (by omega) (by omega)
      have hnm : ∀ c, fX2_nameOf N (nI mk) c = some (1006 + mk, c) := by
        intro c
        unfold fX2_nameOf
        have hk : mk = 1 ∨ mk = 2 ∨ mk = 3 ∨ mk = 4 := by omega
        rcases hk with rfl | rfl | rfl | rfl <;> rfl
      have hml : (zbs (1006 + mk)).length ≤ 8 := by
        have hk : mk = 1 ∨ mk = 2 ∨ mk = 3 ∨ mk = 4 := by omega
        rcases hk with rfl | rfl | rfl | rfl <;> decide
      have hsk : zsk (1006 + mk) = true := by
        unfold zsk
        simp only [Bool.and_eq_true, decide_eq_true_eq]
        omega
      refine ⟨([37] ++ (zbs (1006 + mk) ++ [40])) ++ (w0 ++ ([41] ++ we)), ?_, fun c l hc h hl => ?_, fun m l hm h hl => ?_⟩
      · rw [List.length_append, List.length_append, List.length_append, List.length_append, List.length_append, List.length_singleton, List.length_singleton, List.length_singleton, hC, ← hCd]
        omega
      · simp only [List.length_append, List.length_singleton] at hl
        obtain ⟨c1, y1, y2, y3, y4, y5, y6⟩ := hpre c l hc h (by omega)
        have hchain : zCo (zbn (fX7_putByte N 37 c1) (fun _ s20 => zbn (fX2_nameOf N (nI mk) s20) (fun x22 s23 => zbn (fX7_putText N x22 s23) (fun _ s26 => zbn (fX7_putByte N 40 s26) (fun _ s29 => fX7_putExpression_J73 N B (nI j) (nI mk) s29))))) c1 l ([37] ++ (zbs (1006 + mk) ++ ([40] ++ (w0 ++ [41])))) := by
          refine zCo_seq (c_byte y2 (by omega)) (fun c2 h2 z2 => ?_)
          rw [hnm c2, zbn_s]
          refine zCo_seq (c_text hsk h2 (by simp only [List.length_append, List.length_singleton]; omega) (by omega)) (fun c3 h3 z3 => ?_)
          refine zCo_seq (c_byte h3 (by simp only [List.length_append, List.length_singleton]; omega)) (fun c4 h4 z4 => ?_)
          have z14 : zeq [3001] [31] c1 c4 := zeq_trans z2 (zeq_trans z3 z4)
          unfold fX7_putExpression_J73
          rw [(z14.1 3004 (by decide)).trans y4]
          refine zCo_seq (y5 c4 z14 _ h4 (by simp only [List.length_append, List.length_singleton]; omega)) (fun c5 h5 z5 => ?_)
          rw [if_neg hmz]
          exact zCo_ret (c_byte h5 (by simp only [List.length_append, List.length_singleton]; omega))
        obtain ⟨c2, k1, k2, k3⟩ := hchain
        obtain ⟨c3, k4, k5, k6⟩ := we2 c2 _ (zYC_s y1 k3) k2 (by simp only [List.length_append, List.length_singleton]; omega)
        refine ⟨c3, ?_, ?_, zeq_trans y3 (zeq_trans (zeq_mono k3 (by decide) (by decide)) (zeq_mono k6 (by decide) (by decide)))⟩
        · have hpe : fX7_putExpression N B (nI j) c = some ((), c2) := by
            rw [y6, if_neg hmz]
            exact k1
          unfold fX7_putOperand
          rw [(x_cell hx hc (-1)).2.1 j 0 0 hj (by omega) rfl, zbn_s, o3, if_neg n13.1, if_neg n13.2, hpe, zbn_s, k4]
        · simp only [List.append_assoc] at k5 ⊢
          exact k5
      · simp only [List.length_append, List.length_singleton] at hl
        rw [hSO m hm, if_neg hmp]
        refine zM4_seq (zM4_of (m_mark (by omega) o2 h (by omega))) (fun m2 h2 z2 => ?_)
        have hm2 := zYM_4 hm z2
        rw [hJ75 m2 hm2]
        refine zM4_seq (w3 m2 _ hm2 h2 (by simp only [List.length_append, List.length_singleton]; omega)) (fun m3 h3 z3 => ?_)
        have hm3 := zYM_4 hm2 z3
        rw [if_pos (zz 2 (by omega)), nI_clamp (by omega), M m3 hm3 2 (by omega), o4, if_neg hmp]
        refine zM4_seq (zM4_of (m_byte h3 (by simp only [List.length_append, List.length_singleton]; omega))) (fun m4 h4 z4 => ?_)
        exact zM4_of (we3 m4 _ (zYM_4 hm3 z4) h4 (by simp only [List.length_append, List.length_singleton]; omega))
