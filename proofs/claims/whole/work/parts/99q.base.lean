theorem nI_m1 : ∀ k, k < 200 → ¬ nI k = (-1) := by decide +kernel
set_option maxHeartbeats 400000 in
theorem OB_24 {T : Nat → Nat} {n b L N i n1 n3 nb x : Nat} {c m c1 m1 : zS} {oc : Option (Option Unit × zS)} {om : Option (Int32 × zS)} (hx : zCx T n L N) (hi : i ≤ L) (hb : zBk b) (h24 : (zw T n i).1 = 24) (h9 : c1.1 309 = (zw T n i).2.1) (h10 : c1.1 310 = nI (zw T n i).2.2.1) (hf : zFo b n1 n3 nb c m c1 m1) (ho : oc = some (none, c1)) (hm : om = some (0, zsc (zsc m1 3320 (if (zw T n i).1 = 24 then (zw T n i).2.1 else nI x)) 3321 (nI (zw T n i).2.2.1))) : zOB b n1 n3 nb c m oc om := by
  obtain ⟨f, fa, fb, fc⟩ := cx_bad hx hi h24
  rw [if_pos h24] at hm
  exact ⟨c1, _, f, (zw T n i).2.2.1, ho, hm, ⟨fa, by omega, by rw [h9, fc], h10, ((zsc_ne (by decide)).trans zsc_at).trans fc, zsc_at⟩, zFo_trans hf (zFo_x hb (zMf_F (n3 := n3) (nb := nb))) (Nat.le_refl n1) (Nat.le_refl _) (Nat.le_refl _)⟩
set_option maxHeartbeats 400000 in
theorem OB_x {T : Nat → Nat} {n b i n1 n3 nb x : Nat} {y : Int32} {c m c1 m1 : zS} {oc : Option (Option Unit × zS)} {om : Option (Int32 × zS)} (hb : zBk b) (h24 : (zw T n i).1 ≠ 24) (hx1 : 1 ≤ x) (hx8 : x ≤ 8) (h5 : c1.1 305 = nI (zw T n i).2.2.1) (hf : zFo b n1 n3 nb c m c1 m1) (hy : y = nI x) (ho : oc = some (none, zRF c1 y)) (hm : om = some (0, zsc (zsc m1 3320 (if (zw T n i).1 = 24 then (zw T n i).2.1 else nI x)) 3321 (nI (zw T n i).2.2.1))) : zOB b n1 n3 nb c m oc om := by
  rw [if_neg h24] at hm
  exact ⟨_, _, x, (zw T n i).2.2.1, ho, hm, zFF_i hx1 hx8 hy h5 rfl rfl, zFo_trans hf (zFo_x hb (zFx2_trans (n3 := n3) (nb := nb) zRF_F zMf_F (Nat.le_refl n3) (Nat.le_refl nb))) (Nat.le_refl n1) (Nat.le_refl _) (Nat.le_refl _)⟩
theorem dem_y {N kd : Nat} {c : zS} {x : Int32} (h : c.1 304 = nI kd) (hx : x = nI kd) : fX3_demand N x c = some (some (), c) := by
  unfold fX3_demand
  rw [if_pos (h.trans hx.symm)]
theorem dem_n {N kd k : Nat} {c : zS} {x : Int32} (h : c.1 304 = nI kd) (hk : kd < 25) (hx : x = nI k) (hk2 : k < 25) (hne : kd ≠ k) : fX3_demand N x c = some (none, zRF c 5) := by
  unfold fX3_demand
  rw [h, hx, if_neg (fun z => hne ((nI_eq (by omega) (by omega)).mp z))]
  rfl
theorem zW_nm2 {T : Nat → Nat} {n k : Nat} {w : Nat × Int32 × Nat × Nat} (h : zWk T n k w) (hk : w.1 = 1 ∨ w.1 = 2) : ∀ j, w.2.2.1 ≤ j → j < w.2.2.2 → znm (T j) = true := by
  rcases h with ⟨z, -⟩ | ⟨z, -⟩ | ⟨-, -, -, h⟩
  · omega
  · omega
  rcases h with ⟨-, -, -, -, z⟩ | ⟨z, -⟩ | ⟨z, -⟩ | ⟨z, -⟩ | ⟨z, -⟩ | ⟨z, -⟩ | ⟨z, -⟩
  · exact z
  all_goals omega
set_option maxHeartbeats 400000 in
theorem regI {N n b L i n0 s0 n1 n3 nb nl F k pl sc sm mk : Nat} {rv : Int32} {T : Nat → Nat} {lc : List (Int32 × Int32)} {c m : zS} (hx : zCx T n L N) (h : zMI T n b L i n0 s0 n1 n3 nb nl lc F k pl sc sm mk rv c m) (hkd : (zw T n i).1 = 2) (hn1 : n1 < 800) : ∃ r : Nat, r < 32 ∧ fX10_register N m = some (nI r, m) ∧ fX3_readRegister N c = zbt (fX3_step N (zsr c (b + 4) (nI (n1 * 8 + 1)) (nI r))) (fun sx => some (none, sx)) (fun _ s12 => some (some (), s12)) := by
  obtain ⟨⟨h1, hi, h2, h3, h4, h5, h6, ⟨f1, f2, f3, f4, f5⟩, l1, l2⟩, a2, a3, a4, -⟩ := h
  have hW := cx_w hx hi
  obtain ⟨x1, x2, x3, x4, x5, x6⟩ := id hx
  obtain ⟨w1, w2, w3, w4, w5⟩ := zW_nm hW (Or.inr hkd)
  obtain ⟨q1, q2⟩ := q_reg (N := N) h2 hW
  obtain ⟨r, hr, er⟩ := zreg_lt (q2 hkd)
  rw [if_pos hkd, er] at q1
  have hpos : 0 < T (zw T n i).2.2.1 := by
    have h9 := zW_nm2 hW (Or.inr hkd) (zw T n i).2.2.1 (Nat.le_refl _) w2
    rcases znm_p (T (zw T n i).2.2.1) (x1 _ (by omega)) with z | z
    · rw [h9] at z; cases z
    · omega
  have g3 : c.1 303 = nI i := h1.2.2.2.2.2.2.1
  have g5 : c.1 305 = nI (zw T n i).2.2.1 := h1.2.2.2.2.2.2.2.2
  refine ⟨r, hr, q1, ?_⟩
  unfold fX3_readRegister
  rw [g3, (k_kind h1 hi x4).2.2, zbn_s, w5, g5, e8_reg h1.2.2.2.1 (by omega) (by omega) hpos, zbn_s, er, h1.2.1, if_pos h1.1, a4, o_set (n1 := n1) (j := 1) (y := 1) h1.1 h1.2.2.1 a3.2.1.2.1 hn1 (by omega) rfl rfl, zbn_s]
theorem isBase_n {N n i : Nat} {T : Nat → Nat} {m : zS} (h : zPM T n i m) (hlt : (zw T n i).1 < 25) (hk : (zw T n i).1 ≠ 9) : fX10_isBase N m = some (0, m) := by
  unfold fX10_isBase
  rw [q_sign_f (kx := 9) (x := 40) h hlt rfl (by omega) hk, zbn_s, if_pos rfl]
set_option maxHeartbeats 400000 in
theorem isBase_y {N n L i : Nat} {T : Nat → Nat} {m : zS} (hx : zCx T n L N) (hi : i < L) (h : zPM T n i m) (hk : (zw T n i).1 = 9) : ∃ m', fX10_isBase N m = some ((if (zw T n (i + 1)).1 = 2 then 1 else 0), m') ∧ zPM T n i m' ∧ zeq [3311, 3315, 3316, 3317, 3318] [48] m m' := by
  obtain ⟨x1, x2, x3, x4, x5, x6⟩ := id hx
  obtain ⟨m1, e1, e2, e3⟩ := q_next (N := N) x1 x2 (by omega) hi h.1 (zPM_to h (by omega) (by omega)) h.2.2
  obtain ⟨m2, hm2⟩ : ∃ m2, m2 = zsc (zsc (zsc (zsc m1 3315 (m.1 3315)) 3316 (m.1 3316)) 3317 (m.1 3317)) 3318 (m.1 3318) := ⟨_, rfl⟩
  have z2 : zeq [3311, 3315, 3316, 3317, 3318] [48] m m2 := by
    rw [hm2]
    exact zeq_trans e3 (zeq_trans (zeq_c (by decide)) (zeq_trans (zeq_c (by decide)) (zeq_trans (zeq_c (by decide)) (zeq_c (by decide)))))
  have v8 : m2.1 3318 = m.1 3318 := by rw [hm2]; exact zsc_at
  have v7 : m2.1 3317 = m.1 3317 := by rw [hm2]; exact (zsc_ne (by decide)).trans zsc_at
  have v6 : m2.1 3316 = m.1 3316 := by rw [hm2]; exact (zsc_ne (by decide)).trans ((zsc_ne (by decide)).trans zsc_at)
  have v5 : m2.1 3315 = m.1 3315 := by rw [hm2]; exact (zsc_ne (by decide)).trans ((zsc_ne (by decide)).trans ((zsc_ne (by decide)).trans zsc_at))
  obtain ⟨q1, q2⟩ := q_reg (N := N) e2 (cx_w hx (show i + 1 ≤ L by omega))
  obtain ⟨w1, w2, w3, w4, w5, w6⟩ := h.2.1
  refine ⟨m2, ?_, ⟨zTx_keep h.1 z2 (by decide) (by decide), ⟨v5.trans w1, v7.trans w2, fun q => v8.trans (w3 q), fun q => v6.trans (w4 q), fun q1 q2 => v6.trans (w5 q1 q2), fun q => by omega⟩, (z2.1 3320 (by decide)).trans h.2.2⟩, z2⟩
  unfold fX10_isBase
  rw [q_sign_t (kx := 9) (x := 40) h rfl (by omega) hk, zbn_s, if_neg (show ¬ (1 : Int32) = 0 by decide), e1, zbn_s, q1, zbn_s]
  by_cases c2 : (zw T n (i + 1)).1 = 2
  · rw [if_pos c2, if_pos c2, if_neg (q2 c2)]
    unfold fX10_isBase_J49
    rw [if_pos (show zbo (1 : Int32) = true by decide), ← hm2]
  · rw [if_neg c2, if_neg c2, if_pos rfl]
    unfold fX10_isBase_J49
    rw [if_pos (show zbo (0 : Int32) = true by decide), ← hm2]
set_option maxHeartbeats 400000 in
theorem zMI_m {T : Nat → Nat} {n b L i n0 s0 n1 n3 nb nl F k pl sc sm mk : Nat} {rv : Int32} {lc : List (Int32 × Int32)} {c m m' : zS} (h : zMI T n b L i n0 s0 n1 n3 nb nl lc F k pl sc sm mk rv c m) (hp : zPM T n i m') (hz : zeq [3311, 3315, 3316, 3317, 3318] [48] m m') : zMI T n b L i n0 s0 n1 n3 nb nl lc F k pl sc sm mk rv c m' ∧ zFx2 b n3 nb c m c m' := by
  have h' := h
  obtain ⟨⟨h1, hi, h2, h3, h4, h5, h6, ⟨f1, f2, f3, f4, f5⟩, l1, l2⟩, -, -, -, -⟩ := h'
  have fx : zFx2 b n3 nb c m c m' := zFx2_m hz (by decide) (by simp)
  have ma : ∀ a, a ≠ 48 → m'.2.1 a = m.2.1 a := fun a q2 => hz.2.1 a (by simp [q2])
  exact ⟨zMI_x h fx ⟨h1, hi, hp, zPN_keep h3 rfl (by rw [ma 36 (by decide)]) rfl rfl rfl (ma 40 (by decide)) (ma 41 (by decide)), h4, h5, zIM_keep h6 (by rw [ma 36 (by decide)]) (ma 39 (by decide)), ⟨f1, f2, (hz.1 3324 (by decide)).trans f3, (hz.1 3325 (by decide)).trans f4, f5⟩, l1, l2⟩ (Nat.le_refl _) (Nat.le_refl _), fx⟩
set_option maxHeartbeats 400000 in
theorem closI {N n b L i n0 s0 n1 n3 nb nl F k pl sc sm mk : Nat} {rv : Int32} {T : Nat → Nat} {lc : List (Int32 × Int32)} {c m : zS} (hx : zCx T n L N) (h : zMI T n b L i n0 s0 n1 n3 nb nl lc F k pl sc sm mk rv c m) (h24 : (zw T n i).1 ≠ 24) : (∃ c' m', fX3_demand N 10 c = some (some (), c) ∧ fX3_step N c = some (some (), c') ∧ fX10_closes N m = some (1, m') ∧ i < L ∧ (zw T n (i + 1)).1 ≠ 24 ∧ zMI T n b L (i + 1) n0 s0 n1 n3 nb nl lc F k pl sc sm mk rv c' m' ∧ zFx2 b n3 nb c m c' m' ∧ c'.2.1 = c.2.1) ∨ (fX3_demand N 10 c = some (none, zRF c 5) ∧ fX10_closes N m = some (0, zsc (zsc m 3320 (if (zw T n i).1 = 24 then (zw T n i).2.1 else nI 5)) 3321 (nI (zw T n i).2.2.1))) ∨ (∃ c' m', fX3_demand N 10 c = some (some (), c) ∧ fX3_step N c = some (none, c') ∧ fX10_closes N m = some (1, m') ∧ i < L ∧ (zw T n (i + 1)).1 = 24 ∧ c'.1 309 = (zw T n (i + 1)).2.1 ∧ c'.1 310 = nI (zw T n (i + 1)).2.2.1 ∧ zPM T n (i + 1) m' ∧ zFx2 b n3 nb c m c' m') := by
  have h' := h
  obtain ⟨⟨h1, hi, h2, -⟩, -⟩ := h'
  have hlt := zw_lt (cx_w hx hi)
  have g4 : c.1 304 = nI (zw T n i).1 := h1.2.2.2.2.2.2.2.1
  by_cases c10 : (zw T n i).1 = 10
  · have hd : fX3_demand N 10 c = some (some (), c) := dem_y g4 (by rw [c10]; rfl)
    obtain ⟨c1, m1, e1, e2, e3, e4, e5, e6⟩ := stepI (N := N) hx h (by omega) h24
    have hc : fX10_closes N m = some (1, m1) := by
      unfold fX10_closes
      rw [q_sign_t (kx := 10) (x := 41) h2 rfl (by omega) c10, zbn_s, if_neg (show ¬ (1 : Int32) = 0 by decide), e1, zbn_s]
    rcases e6 with ⟨q1, q2, q3⟩ | ⟨q1, q2, q3, q4⟩
    · exact Or.inl ⟨c1, m1, hd, q2, hc, e4, q1, q3, e2, e5⟩
    · exact Or.inr (Or.inr ⟨c1, m1, hd, q2, hc, e4, q1, q3, q4, e3, e2⟩)
  · refine Or.inr (Or.inl ⟨dem_n (x := 10) g4 hlt (k := 10) rfl (by omega) c10, ?_⟩)
    unfold fX10_closes
    rw [q_sign_f (kx := 10) (x := 41) h2 hlt rfl (by omega) c10, zbn_s, if_pos rfl, q_fail (x := 5) (y := 5) h2 rfl, zbn_s, if_pos (show zbo (0 : Int32) = true by decide)]
set_option maxHeartbeats 400000 in
theorem zRow_m0 {b n1 F pl sc sm mk x : Nat} {rv y : Int32} {c m : zS} (h : zRow b n1 F pl sc sm mk rv c m) (hn1 : n1 < 800) (hy : y = nI x) : zRow b n1 F pl sc x mk rv c (zsr m 38 (nI (7 * n1)) y) := by
  obtain ⟨⟨r0, r0'⟩, ⟨r1, r1'⟩, ⟨r2, r2'⟩, ⟨r3, r3'⟩, ⟨r5, r5'⟩, ⟨r6, r6'⟩, r7⟩ := h
  refine ⟨⟨r0, ?_⟩, ⟨r1, ?_⟩, ⟨r2, ?_⟩, ⟨r3, ?_⟩, ⟨r5, ?_⟩, ⟨r6, ?_⟩, r7⟩
  · rw [zsr_g (by omega), if_pos rfl, hy]
  · rw [zsr_g (by omega), if_neg (by omega)]; exact r1'
  · rw [zsr_g (by omega), if_neg (by omega)]; exact r2'
  · rw [zsr_g (by omega), if_neg (by omega)]; exact r3'
  · rw [zsr_g (by omega), if_neg (by omega)]; exact r5'
  · rw [zsr_g (by omega), if_neg (by omega)]; exact r6'
set_option maxHeartbeats 400000 in
theorem zRow_c0 {b n1 F pl sc sm mk x : Nat} {rv y : Int32} {c m : zS} (h : zRow b n1 F pl sc sm mk rv c m) (hn1 : n1 < 800) (hy : y = nI x) : zRow b n1 F pl x sm mk rv (zsr c (b + 4) (nI (n1 * 8 + 0)) y) m := by
  obtain ⟨⟨r0, r0'⟩, ⟨r1, r1'⟩, ⟨r2, r2'⟩, ⟨r3, r3'⟩, ⟨r5, r5'⟩, ⟨r6, r6'⟩, r7⟩ := h
  refine ⟨⟨?_, r0'⟩, ⟨?_, r1'⟩, ⟨?_, r2'⟩, ⟨?_, r3'⟩, ⟨?_, r5'⟩, ⟨?_, r6'⟩, ?_⟩
  · rw [zsr_g (by omega), if_pos rfl, hy]
  · rw [zsr_g (by omega), if_neg (by omega)]; exact r1
  · rw [zsr_g (by omega), if_neg (by omega)]; exact r2
  · rw [zsr_g (by omega), if_neg (by omega)]; exact r3
  · rw [zsr_g (by omega), if_neg (by omega)]; exact r5
  · rw [zsr_g (by omega), if_neg (by omega)]; exact r6
  · rw [zsr_g (by omega), if_neg (by omega)]; exact r7
set_option maxHeartbeats 400000 in
theorem zRow_1 {b n1 F pl sc sm mk : Nat} {rv rv' : Int32} {c m : zS} (h : zRow b n1 F pl sc sm mk rv c m) (hn1 : n1 < 800) : zRow b n1 F pl sc sm mk rv' (zsr c (b + 4) (nI (n1 * 8 + 1)) rv') (zsr m 38 (nI (7 * n1 + 1)) rv') := by
  obtain ⟨⟨r0, r0'⟩, ⟨r1, r1'⟩, ⟨r2, r2'⟩, ⟨r3, r3'⟩, ⟨r5, r5'⟩, ⟨r6, r6'⟩, r7⟩ := h
  refine ⟨⟨?_, ?_⟩, ⟨?_, ?_⟩, ⟨?_, ?_⟩, ⟨?_, ?_⟩, ⟨?_, ?_⟩, ⟨?_, ?_⟩, ?_⟩
  · rw [zsr_g (by omega), if_neg (by omega)]; exact r0
  · rw [zsr_g (by omega), if_neg (by omega)]; exact r0'
  · rw [zsr_g (by omega), if_pos rfl]
  · rw [zsr_g (by omega), if_pos rfl]
  · rw [zsr_g (by omega), if_neg (by omega)]; exact r2
  · rw [zsr_g (by omega), if_neg (by omega)]; exact r2'
  · rw [zsr_g (by omega), if_neg (by omega)]; exact r3
  · rw [zsr_g (by omega), if_neg (by omega)]; exact r3'
  · rw [zsr_g (by omega), if_neg (by omega)]; exact r5
  · rw [zsr_g (by omega), if_neg (by omega)]; exact r5'
  · rw [zsr_g (by omega), if_neg (by omega)]; exact r6
  · rw [zsr_g (by omega), if_neg (by omega)]; exact r6'
  · rw [zsr_g (by omega), if_neg (by omega)]; exact r7
set_option maxHeartbeats 400000 in
theorem zRow_2 {b n1 F pl sc sm mk mk' : Nat} {rv : Int32} {c m : zS} (h : zRow b n1 F pl sc sm mk rv c m) (hn1 : n1 < 800) : zRow b n1 F pl sc sm mk' rv (zsr c (b + 4) (nI (n1 * 8 + 2)) (nI mk')) (zsr m 38 (nI (7 * n1 + 2)) (nI mk')) := by
  obtain ⟨⟨r0, r0'⟩, ⟨r1, r1'⟩, ⟨r2, r2'⟩, ⟨r3, r3'⟩, ⟨r5, r5'⟩, ⟨r6, r6'⟩, r7⟩ := h
  refine ⟨⟨?_, ?_⟩, ⟨?_, ?_⟩, ⟨?_, ?_⟩, ⟨?_, ?_⟩, ⟨?_, ?_⟩, ⟨?_, ?_⟩, ?_⟩
  · rw [zsr_g (by omega), if_neg (by omega)]; exact r0
  · rw [zsr_g (by omega), if_neg (by omega)]; exact r0'
  · rw [zsr_g (by omega), if_neg (by omega)]; exact r1
  · rw [zsr_g (by omega), if_neg (by omega)]; exact r1'
  · rw [zsr_g (by omega), if_pos rfl]
  · rw [zsr_g (by omega), if_pos rfl]
  · rw [zsr_g (by omega), if_neg (by omega)]; exact r3
  · rw [zsr_g (by omega), if_neg (by omega)]; exact r3'
  · rw [zsr_g (by omega), if_neg (by omega)]; exact r5
  · rw [zsr_g (by omega), if_neg (by omega)]; exact r5'
  · rw [zsr_g (by omega), if_neg (by omega)]; exact r6
  · rw [zsr_g (by omega), if_neg (by omega)]; exact r6'
  · rw [zsr_g (by omega), if_neg (by omega)]; exact r7
set_option maxHeartbeats 1000000 in
theorem baseI {N n b L i n0 s0 n1 n3 nb nl F k pl sm mk : Nat} {rv : Int32} {T : Nat → Nat} {lc : List (Int32 × Int32)} {c m : zS} (hx : zCx T n L N) (h : zMI T n b L i n0 s0 n1 n3 nb nl lc F k pl 2 sm mk rv c m) (hkd : (zw T n i).1 = 9) (hn1 : n1 < 800) : (∃ (r : Nat) (c' m' : zS), r < 32 ∧ fX3_readBase N c = some (some (), c') ∧ fX10_based N (nI (7 * n1)) m = some (1, m') ∧ (zw T n (i + 3)).1 ≠ 24 ∧ zMI T n b L (i + 3) n0 s0 n1 n3 nb nl lc F k pl 2 2 mk (nI r) c' m' ∧ zFo b n1 n3 nb c m c' m' ∧ c'.2.1 (b + 8) = c.2.1 (b + 8) ∧ (zw T n i).2.2.1 + 3 ≤ (zw T n (i + 3)).2.2.1) ∨ zOB b n1 n3 nb c m (fX3_readBase N c) (fX10_based N (nI (7 * n1)) m) ∨ zOC T n b L n1 n3 nb c m (fX3_readBase N c) (fX10_based N (nI (7 * n1)) m) := by
  have hb := h.1.1.1
  have hbb := zb_lt hb
  obtain ⟨x1, x2, x3, x4, x5, x6⟩ := id hx
  have z0 : zbo (0 : Int32) = true := by decide
  have z1 : zbo (1 : Int32) = true := by decide
  obtain ⟨c1, m1, e1, e2, e3, e4, e5, e6⟩ := stepI (N := N) hx h (by omega) (by omega)
  have hf1 : zFo b n1 n3 nb c m c1 m1 := zFo_x hb e2
  have hW1 := cx_w hx (show i + 1 ≤ L by omega)
  have hlt1 := zw_lt hW1
  have q1 := q_reg (N := N) e3 hW1
  rcases e6 with ⟨d4, d5, d6⟩ | ⟨d4, d5, d6, d7⟩
  case inr =>
    refine Or.inr (Or.inl (OB_24 (x := 5) hx (show i + 1 ≤ L by omega) hb d4 d6 d7 hf1 (by unfold fX3_readBase; rw [d5, zbt_n]) ?_))
    unfold fX10_based
    rw [e1, zbn_s, q1.1, if_neg (show ¬ (zw T n (i + 1)).1 = 2 by omega), zbn_s, if_pos rfl, q_fail (x := 5) (y := 5) e3 rfl, zbn_s, if_pos z0]
  have g4 : c1.1 304 = nI (zw T n (i + 1)).1 := d6.1.1.2.2.2.2.2.2.2.1
  have g5 : c1.1 305 = nI (zw T n (i + 1)).2.2.1 := d6.1.1.2.2.2.2.2.2.2.2
  by_cases k2 : (zw T n (i + 1)).1 = 2
  case neg =>
    refine Or.inr (Or.inl (OB_x (x := 5) (y := 5) hb d4 (by omega) (by omega) g5 hf1 rfl (by unfold fX3_readBase; rw [d5, zbt_s, dem_n (x := 2) g4 hlt1 (k := 2) rfl (by omega) k2, zbt_n]) ?_))
    unfold fX10_based
    rw [e1, zbn_s, q1.1, if_neg k2, zbn_s, if_pos rfl, q_fail (x := 5) (y := 5) e3 rfl, zbn_s, if_pos z0]
  obtain ⟨r, hr, r1, r2⟩ := regI (N := N) hx d6 k2 hn1
  obtain ⟨ma, hma⟩ : ∃ ma, ma = zsr m1 38 (nI (7 * n1)) 2 := ⟨_, rfl⟩
  obtain ⟨m2, hm2⟩ : ∃ m2, m2 = zsr ma 38 (nI (7 * n1 + 1)) (nI r) := ⟨_, rfl⟩
  obtain ⟨c2, hc2⟩ : ∃ c2, c2 = zsr c1 (b + 4) (nI (n1 * 8 + 1)) (nI r) := ⟨_, rfl⟩
  obtain ⟨A1, A2, A3⟩ := zMI_w (c' := c1) (m' := ma) (sc' := 2) (sm' := 2) (mk' := mk) (rv' := rv) d6 hn1 (Or.inl rfl) (Or.inr ⟨0, 2, by omega, hma⟩) (by rw [hma]; exact zRow_m0 d6.2.2.2.2 hn1 rfl)
  obtain ⟨B1, B2, B3⟩ := zMI_w (c' := c2) (m' := m2) (sc' := 2) (sm' := 2) (mk' := mk) (rv' := nI r) A1 hn1 (Or.inr ⟨1, nI r, by omega, hc2⟩) (Or.inr ⟨1, nI r, by omega, hm2⟩) (by rw [hc2, hm2]; exact zRow_1 A1.2.2.2.2 hn1)
  have hf2 : zFo b n1 n3 nb c m c2 m2 := zFo_trans hf1 (zFo_trans A2 B2 (Nat.le_refl _) (Nat.le_refl _) (Nat.le_refl _)) (Nat.le_refl _) (Nat.le_refl _) (Nat.le_refl _)
  obtain ⟨c3, m3, j1, j2, j3, j4, j5, j6⟩ := stepI (N := N) hx B1 (by omega) (by omega)
  have hf3 : zFo b n1 n3 nb c m c3 m3 := zFo_trans hf2 (zFo_x hb j2) (Nat.le_refl n1) (Nat.le_refl _) (Nat.le_refl _)
  have hC : fX3_readBase N c = zbt (fX3_step N c2) (fun sx => some (none, sx)) (fun _ s8 => zbt (fX3_demand N 10 s8) (fun sx => some (none, sx)) (fun _ s11 => zbt (fX3_step N s11) (fun sx => some (none, sx)) (fun _ s14 => some (some (), s14)))) := by
    unfold fX3_readBase
    rw [d5, zbt_s, dem_y g4 (by rw [k2]; rfl), zbt_s, r2, ← hc2]
    cases fX3_step N c2 with
    | none => rfl
    | some q =>
      obtain ⟨o, s⟩ := q
      cases o <;> rfl
  have hM : fX10_based N (nI (7 * n1)) m = zbn (fX10_closes N m3) (fun x12 s13 => if zbo x12 = true then some (x12, s13) else none) := by
    unfold fX10_based
    rw [e1, zbn_s, r1, zbn_s, if_neg (nI_m1 r (by omega)), if_pos (zga_l (by rfl) (show 7 * n1 < 11200 by omega) (by decide)), show nI (7 * n1) + 1 = nI (7 * n1 + 1) from nI_1 _, if_pos (zga_l (by rfl) (show 7 * n1 + 1 < 11200 by omega) (by decide)), ← hma, ← hm2, j1, zbn_s]
  rcases j6 with ⟨p4, p5, p6⟩ | ⟨p4, p5, p6, p7⟩
  case inr =>
    refine Or.inr (Or.inl (OB_24 (x := 5) hx (show i + 1 + 1 ≤ L by omega) hb p4 p6 p7 hf3 (by rw [hC, p5, zbt_n]) ?_))
    have hW2 := cx_w hx (show i + 1 + 1 ≤ L by omega)
    rw [hM]
    unfold fX10_closes
    rw [q_sign_f (kx := 10) (x := 41) j3 (zw_lt hW2) rfl (by omega) (by omega), zbn_s, if_pos rfl, q_fail (x := 5) (y := 5) j3 rfl, zbn_s, if_pos z0, zbn_s, if_pos z0]
  rcases closI (N := N) hx p6 p4 with ⟨c4, m4, u1, u2, u3, u4, u5, u6, u7, u8⟩ | ⟨u1, u2⟩ | ⟨c4, m4, u1, u2, u3, u4, u5, u6, u7, u8, u9⟩
  · left
    have w1 := zw_adv x1 x2 e4
    have w2 := zw_adv x1 x2 j4
    have w3 := zw_adv x1 x2 u4
    refine ⟨r, c4, m4, hr, by rw [hC, p5, zbt_s, u1, zbt_s, u2, zbt_s], by rw [hM, u3, zbn_s, if_pos z1], u5, u6, zFo_trans hf3 (zFo_x hb u7) (Nat.le_refl n1) (Nat.le_refl _) (Nat.le_refl _), ?_, ?_⟩
    · rw [u8, j5, B3, e5]
    · show (zw T n i).2.2.1 + 3 ≤ (zw T n (i + 1 + 1 + 1)).2.2.1
      omega
  · right
    left
    exact OB_x (x := 5) (y := 5) hb p4 (by omega) (by omega) p6.1.1.2.2.2.2.2.2.2.2 hf3 rfl (by rw [hC, p5, zbt_s, u1, zbt_n]) (by rw [hM, u2, zbn_s, if_pos z0])
  · right
    right
    exact ⟨i + 1 + 1 + 1, c4, m4, by rw [hC, p5, zbt_s, u1, zbt_s, u2, zbt_n], by rw [hM, u3, zbn_s, if_pos z1], by omega, u5, u6, u7, u8, zFo_trans hf3 (zFo_x hb u9) (Nat.le_refl n1) (Nat.le_refl _) (Nat.le_refl _)⟩
