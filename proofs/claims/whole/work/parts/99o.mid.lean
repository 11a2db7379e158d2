def zRow (b n1 F pl sc sm mk : Nat) (rv : Int32) (c m : zS) : Prop := (c.2.1 (b + 4) (n1 * 8 + 0) = nI sc ∧ m.2.1 38 (7 * n1) = nI sm) ∧ (c.2.1 (b + 4) (n1 * 8 + 1) = rv ∧ m.2.1 38 (7 * n1 + 1) = rv) ∧ (c.2.1 (b + 4) (n1 * 8 + 2) = nI mk ∧ m.2.1 38 (7 * n1 + 2) = nI mk) ∧ (c.2.1 (b + 4) (n1 * 8 + 3) = nI F ∧ m.2.1 38 (7 * n1 + 3) = nI F) ∧ (c.2.1 (b + 4) (n1 * 8 + 5) = nI pl ∧ m.2.1 38 (7 * n1 + 5) = nI pl) ∧ (c.2.1 (b + 4) (n1 * 8 + 6) = 0 ∧ m.2.1 38 (7 * n1 + 6) = 0) ∧ c.2.1 (b + 4) (n1 * 8 + 7) = 0
def zMI (T : Nat → Nat) (n b L i n0 s0 n1 n3 nb nl : Nat) (lc : List (Int32 × Int32)) (F k pl sc sm mk : Nat) (rv : Int32) (c m : zS) : Prop := zST T n b L i n3 nb lc F k c m ∧ nl ≤ (zw T n i).2.2.1 ∧ zOP b n0 s0 n1 (n1 + 1) nb nl c m ∧ c.1 306 = nI n1 ∧ zRow b n1 F pl sc sm mk rv c m
set_option maxHeartbeats 400000 in
theorem zOP_nb {b n0 s0 n1 s1 nb nb' nl : Nat} {c m : zS} (h : zOP b n0 s0 n1 s1 nb nl c m) (hn : nb ≤ nb') : zOP b n0 s0 n1 s1 nb' nl c m := by
  obtain ⟨h1, h2, h3, h4, h5⟩ := h
  refine ⟨h1, h2, h3, h4, fun k hk => ?_⟩
  obtain ⟨p, q, l, d1, d2⟩ := h5 k hk
  exact ⟨p, q, l, by omega, d2⟩
set_option maxHeartbeats 400000 in
theorem zMI_x {T : Nat → Nat} {n b L i i' n0 s0 n1 n3 nb nl n3' nb' F k k' pl sc sm mk : Nat} {rv : Int32} {lc lc' : List (Int32 × Int32)} {c m c' m' : zS} (h : zMI T n b L i n0 s0 n1 n3 nb nl lc F k pl sc sm mk rv c m) (hf : zFx2 b n3 nb c m c' m') (hs : zST T n b L i' n3' nb' lc' F k' c' m') (hnb : nb ≤ nb') (hp : (zw T n i).2.2.1 ≤ (zw T n i').2.2.1) : zMI T n b L i' n0 s0 n1 n3' nb' nl lc' F k' pl sc sm mk rv c' m' := by
  obtain ⟨h1, h2, h3, h4, h5⟩ := h
  have hb := h1.1.1
  have hbb := zb_lt hb
  have e4 : c'.2.1 (b + 4) = c.2.1 (b + 4) := hf.1.2.1 _ (by simp only [List.mem_cons, List.not_mem_nil, or_false]; omega)
  have e38 : m'.2.1 38 = m.2.1 38 := hf.2.2.2.1.2.1 38 (by decide)
  refine ⟨hs, by omega, zOP_nb (zOP_fx hb h3 hf (Nat.le_refl _)) hnb, (hf.1.1 306 (by unfold zKX; simp only [List.mem_cons, List.not_mem_nil, or_false]; omega)).trans h4, ?_⟩
  unfold zRow at h5 ⊢
  rw [e4, e38]
  exact h5
set_option maxHeartbeats 400000 in
theorem stepI {N n b L i n0 s0 n1 n3 nb nl F k pl sc sm mk : Nat} {rv : Int32} {T : Nat → Nat} {lc : List (Int32 × Int32)} {c m : zS} (hx : zCx T n L N) (h : zMI T n b L i n0 s0 n1 n3 nb nl lc F k pl sc sm mk rv c m) (h0 : (zw T n i).1 ≠ 0) (h24 : (zw T n i).1 ≠ 24) : ∃ c' m', fX10_next N m = some ((), m') ∧ zFx2 b n3 nb c m c' m' ∧ zPM T n (i + 1) m' ∧ i < L ∧ c'.2.1 = c.2.1 ∧ (((zw T n (i + 1)).1 ≠ 24 ∧ fX3_step N c = some (some (), c') ∧ zMI T n b L (i + 1) n0 s0 n1 n3 nb nl lc F k pl sc sm mk rv c' m') ∨ ((zw T n (i + 1)).1 = 24 ∧ fX3_step N c = some (none, c') ∧ c'.1 309 = (zw T n (i + 1)).2.1 ∧ c'.1 310 = nI (zw T n (i + 1)).2.2.1)) := by
  have h' := h
  obtain ⟨⟨h1, hi, h2, h3, h4, h5, h6, ⟨f1, f2, f3, f4, f5⟩, l1, l2⟩, -, -, -, -⟩ := h'
  have hiL : i < L := cx_lt hx hi h0 h24
  obtain ⟨x1, x2, x3, x4, x5, x6⟩ := id hx
  have hadv := zw_adv x1 x2 hiL
  have hb := h1.1
  have hbb := zb_lt hb
  obtain ⟨m3, e1, e2, e3⟩ := q_next (N := N) x1 x2 (by omega) hiL h2.1 (zPM_to h2 h24 h0) h2.2.2
  have zm : zeq zKY [36, 39, 40, 41, 43, 48] m m3 := zeq_mono e3 (by decide) (by decide)
  have fm : zFM m m3 := zFM_eq e3 (by decide) (by simp)
  have ma : ∀ a, a ≠ 48 → m3.2.1 a = m.2.1 a := fun a q2 => e3.2.1 a (by simp [q2])
  have mkk : ∀ kk, kk ∉ [3311, 3315, 3316, 3317, 3318] → m3.1 kk = m.1 kk := fun kk q2 => e3.1 kk q2
  obtain ⟨c1, d1, d2, d3⟩ := s3_step (N := N) h1 hiL x4
  have zc1 : zeq (zKX b) [b + 6, b + 8, b + 9] c c1 := zeq_mono d1 (fun kk hk => by unfold zKX; simp only [List.mem_cons, List.not_mem_nil, or_false] at hk ⊢; omega) (fun _ h => absurd h List.not_mem_nil)
  have nk : ∀ kk, 700 ≤ kk → c1.1 kk = c.1 kk := fun kk hk => d1.1 kk (by simp only [List.mem_cons, List.not_mem_nil, or_false]; omega)
  have ar : ∀ a, c1.2.1 a = c.2.1 a := fun a => d1.2.1 a List.not_mem_nil
  have fx : zFx2 b n3 nb c m c1 m3 := ⟨zc1, fun x _ => by rw [ar], fun x _ => by rw [ar], zm, fm, fun j _ _ => by rw [ma 36 (by decide)]⟩
  refine ⟨c1, m3, e1, fx, e2, hiL, funext ar, ?_⟩
  rcases d3 with ⟨d4, d5⟩ | ⟨d4, d5, d6, d7⟩
  · refine Or.inl ⟨d4, d5, zMI_x h fx ⟨(d2 d4), by omega, e2, zPN_keep h3 (nk _ (by omega)) (by rw [ma 36 (by decide)]) (nk _ (by omega)) (ar _) (ar _) (ma 40 (by decide)) (ma 41 (by decide)), by omega, zIC_keep h5 (nk _ (by omega)) (ar _), zIM_keep h6 (by rw [ma 36 (by decide)]) (ma 39 (by decide)), ⟨(d1.1 307 (by decide)).trans f1, (d1.1 308 (by decide)).trans f2, (mkk 3324 (by decide)).trans f3, (mkk 3325 (by decide)).trans f4, f5⟩, by omega, by omega⟩ (Nat.le_refl _) (by omega)⟩
  · exact Or.inr ⟨d4, d5, d6, d7⟩
set_option maxHeartbeats 400000 in
theorem zMI_w {T : Nat → Nat} {n b L i n0 s0 n1 n3 nb nl F k pl sc sm mk sc' sm' mk' : Nat} {rv rv' : Int32} {lc : List (Int32 × Int32)} {c m c' m' : zS} (h : zMI T n b L i n0 s0 n1 n3 nb nl lc F k pl sc sm mk rv c m) (hn1 : n1 < 800) (hc : c' = c ∨ ∃ (j : Nat) (v : Int32), j < 8 ∧ c' = zsr c (b + 4) (nI (n1 * 8 + j)) v) (hm : m' = m ∨ ∃ (j : Nat) (v : Int32), j < 7 ∧ m' = zsr m 38 (nI (7 * n1 + j)) v) (hr : zRow b n1 F pl sc' sm' mk' rv' c' m') : zMI T n b L i n0 s0 n1 n3 nb nl lc F k pl sc' sm' mk' rv' c' m' ∧ zFo b n1 n3 nb c m c' m' ∧ c'.2.1 (b + 8) = c.2.1 (b + 8) := by
  obtain ⟨⟨h1, hi, h2, h3, h4, h5, h6, ⟨f1, f2, f3, f4, f5⟩, l1, l2⟩, a2, ⟨⟨o1, o2, o3, o4⟩, ⟨p1, p2, p3, p4⟩, ⟨q1, q2, q3⟩⟩, a4, -⟩ := h
  have hb := h1.1
  have hbb := zb_lt hb
  have zc : zeq [] [b + 4] c c' ∧ ∀ y, y < n1 * 8 → c'.2.1 (b + 4) y = c.2.1 (b + 4) y := by
    rcases hc with rfl | ⟨j, v, hj, rfl⟩
    · exact ⟨zeq_refl _ _ _, fun _ _ => rfl⟩
    · exact ⟨zeq_r (by simp), fun y hy => zsr_n (by omega) (by omega)⟩
  have zm : zeq [] [38] m m' ∧ (∀ y, y < 7 * n1 → m'.2.1 38 y = m.2.1 38 y) ∧ zFM m m' := by
    rcases hm with rfl | ⟨j, v, hj, rfl⟩
    · exact ⟨zeq_refl _ _ _, fun _ _ => rfl, zFM_refl _⟩
    · exact ⟨zeq_r (by simp), fun y hy => zsr_n (by omega) (by omega), zFM_r (by decide) (by omega) (fun h => absurd h (by decide)) (fun h => absurd h (by decide)) (fun _ => by omega) (fun h => absurd h (by decide)) (fun h => absurd h (by decide)) (fun h => absurd h (by decide)) (fun h => absurd h (by decide)) (fun h => absurd h (by decide))⟩
  obtain ⟨z1, z2⟩ := zc
  obtain ⟨w1, w2, w3⟩ := zm
  have kc : ∀ y, c'.1 y = c.1 y := fun y => z1.1 y List.not_mem_nil
  have km : ∀ y, m'.1 y = m.1 y := fun y => w1.1 y List.not_mem_nil
  have ac : ∀ a, a ≠ b + 4 → c'.2.1 a = c.2.1 a := fun a ha => z1.2.1 a (by simp [ha])
  have am : ∀ a, a ≠ 38 → m'.2.1 a = m.2.1 a := fun a ha => w1.2.1 a (by simp [ha])
  have zc2 : zeq (zKC b) (zAC b) c c' := zeq_mono z1 (fun _ h => absurd h List.not_mem_nil) (fun a ha => by rw [List.mem_singleton.mp ha]; unfold zAC; simp)
  refine ⟨⟨⟨zPC_keep h1 zc2 (kc _) (kc _) (kc _) (kc _) (kc _), hi, zPM_keep h2 w1 (by simp) (by decide), zPN_keep h3 (kc _) (by rw [am 36 (by decide)]) (kc _) (ac _ (by omega)) (ac _ (by omega)) (am 40 (by decide)) (am 41 (by decide)), h4, zIC_keep h5 (kc _) (ac _ (by omega)), zIM_keep h6 (by rw [am 36 (by decide)]) (am 39 (by decide)), ⟨(kc _).trans f1, (kc _).trans f2, (km _).trans f3, (km _).trans f4, f5⟩, l1, l2⟩, a2, ⟨⟨o1, (kc _).trans o2, by rw [am 36 (by decide)]; exact o3, fun y j hy hj => by rw [ac _ (by omega), am 37 (by decide)]; exact o4 y j hy hj⟩, ⟨p1, (kc _).trans p2, by rw [am 36 (by decide)]; exact p3, fun y j hy hj => by rw [z2 _ (by omega), w2 _ (by omega)]; exact p4 y j hy hj⟩, ⟨q1, (km _).trans q2, fun y hy => ?_⟩⟩, (kc _).trans a4, hr⟩, ⟨zeq_mono z1 (fun _ h => absurd h List.not_mem_nil) (by simp), z2, fun y _ => by rw [ac _ (by omega)], fun y _ => by rw [ac _ (by omega)], zeq_mono w1 (fun _ h => absurd h List.not_mem_nil) (by decide), w3, by rw [am 36 (by decide)]⟩, ac _ (by omega)⟩
  obtain ⟨p, q, l, d1, d2, d3, d4, d5, d6⟩ := q3 y hy
  refine ⟨p, q, l, d1, d2, ?_, ?_, ?_, fun x hx => ?_⟩
  · rw [z2 _ (by omega)]; exact d3
  · rw [z2 _ (by omega)]; exact d4
  · rw [am 49 (by decide)]; exact d5
  · rw [ac _ (by omega), am 42 (by decide)]; exact d6 x hx
set_option maxHeartbeats 400000 in
theorem finI {N n b L i n0 s0 n1 n3 nb nl F k pl so mk : Nat} {rv : Int32} {T : Nat → Nat} {lc : List (Int32 × Int32)} {c m : zS} (hx : zCx T n L N) (h : zMI T n b L i n0 s0 n1 n3 nb nl lc F k pl so so mk rv c m) (hn1 : 2 * n1 + 2 ≤ i) (hk : lc.length = F + k) : ∃ c' m', fX3_readOperand_J191 N c = some (some (), c') ∧ fX10_takeOperand_J421 N (nI (7 * n1)) m = some (1, m') ∧ zEN T n b L i n0 s0 (n1 + 1) n3 nb nl lc c' m' ∧ zFo b n1 n3 nb c m c' m' ∧ c'.2.1 (b + 8) = c.2.1 (b + 8) ∧ c'.2.1 (b + 4) (n1 * 8 + 0) = nI so ∧ c'.2.1 (b + 4) (n1 * 8 + 1) = rv ∧ c'.2.1 (b + 4) (n1 * 8 + 2) = nI mk ∧ c'.2.1 (b + 4) (n1 * 8 + 3) = nI F ∧ c'.2.1 (b + 4) (n1 * 8 + 4) = nI k := by
  obtain ⟨⟨h1, hi, h2, h3, h4, h5, h6, ⟨f1, f2, f3, f4, f5⟩, l1, l2⟩, a2, a3, a4, r⟩ := h
  obtain ⟨x1, x2, x3, x4, x5, x6⟩ := id hx
  have hb := h1.1
  have hbb := zb_lt hb
  have e1 := o_fin (N := N) hb h1.2.1 h1.2.2.1 a3.2.1.2.1 (by omega) a4 f1 h5.1 (by omega)
  have e2 := t_fin (N := N) (n1 := n1) (by omega) h6.1 r.2.2.2.1.2 (by omega)
  rw [show lc.length - F = k by omega] at e1 e2
  have D := o_done (v := nI k) hb (by omega) a3 (fun j hj h4 => by
    obtain ⟨⟨r0, r0'⟩, ⟨r1, r1'⟩, ⟨r2, r2'⟩, ⟨r3, r3'⟩, ⟨r5, r5'⟩, ⟨r6, r6'⟩, r7⟩ := r
    have hj : j = 0 ∨ j = 1 ∨ j = 2 ∨ j = 3 ∨ j = 5 ∨ j = 6 := by omega
    rcases hj with rfl | rfl | rfl | rfl | rfl | rfl
    · rw [r0]; exact r0'.symm
    · rw [r1, r1']
    · rw [r2, r2']
    · rw [r3, r3']
    · rw [r5, r5']
    · rw [r6, r6']) ⟨0, 0, 0, by omega, by omega, r.2.2.2.2.2.2, r.2.2.2.2.2.1.1, fun h => absurd h (by omega), fun x hx => absurd hx (by omega)⟩
  obtain ⟨c', hc'⟩ : ∃ c', c' = zsr c (b + 4) (nI (n1 * 8 + 4)) (nI k) := ⟨_, rfl⟩
  obtain ⟨m', hm'⟩ : ∃ m', m' = zsr m 38 (nI (7 * n1 + 4)) (nI k) := ⟨_, rfl⟩
  have zc : zeq [] [b + 4] c c' := by rw [hc']; exact zeq_r (by simp)
  have zm : zeq [] [38] m m' := by rw [hm']; exact zeq_r (by simp)
  have fm : zFM m m' := by
    rw [hm']
    exact zFM_r (by decide) (by omega) (fun h => absurd h (by decide)) (fun h => absurd h (by decide)) (fun _ => by omega) (fun h => absurd h (by decide)) (fun h => absurd h (by decide)) (fun h => absurd h (by decide)) (fun h => absurd h (by decide)) (fun h => absurd h (by decide))
  rw [← hc', ← hm'] at D
  rw [← hc'] at e1
  rw [← hm'] at e2
  have kc : ∀ y, c'.1 y = c.1 y := fun y => zc.1 y List.not_mem_nil
  have km : ∀ y, m'.1 y = m.1 y := fun y => zm.1 y List.not_mem_nil
  have ac : ∀ a, a ≠ b + 4 → c'.2.1 a = c.2.1 a := fun a ha => zc.2.1 a (by simp [ha])
  have am : ∀ a, a ≠ 38 → m'.2.1 a = m.2.1 a := fun a ha => zm.2.1 a (by simp [ha])
  have g4 : ∀ y, c'.2.1 (b + 4) y = if y = n1 * 8 + 4 then nI k else c.2.1 (b + 4) y := fun y => by rw [hc', zsr_g (by omega)]
  have zc2 : zeq (zKC b) (zAC b) c c' := zeq_mono zc (fun _ h => absurd h List.not_mem_nil) (fun a ha => by rw [List.mem_singleton.mp ha]; unfold zAC; simp)
  refine ⟨c', m', e1, e2, ⟨zPC_keep h1 zc2 (kc _) (kc _) (kc _) (kc _) (kc _), hi, zPM_keep h2 zm (by simp) (by decide), zPN_keep h3 (kc _) (by rw [am 36 (by decide)]) (kc _) (ac _ (by omega)) (ac _ (by omega)) (am 40 (by decide)) (am 41 (by decide)), ⟨h4, a2⟩, zIC_keep h5 (kc _) (ac _ (by omega)), zIM_keep h6 (by rw [am 36 (by decide)]) (am 39 (by decide)), (km _).trans (by rw [f3, hk]), ⟨l1, by omega⟩, D⟩, ⟨zeq_mono zc (fun _ h => absurd h List.not_mem_nil) (by simp), fun y hy => by rw [g4, if_neg (by omega)], fun y _ => by rw [ac _ (by omega)], fun y _ => by rw [ac _ (by omega)], zeq_mono zm (fun _ h => absurd h List.not_mem_nil) (by decide), fm, by rw [am 36 (by decide)]⟩, ac _ (by omega), ?_, ?_, ?_, ?_, ?_⟩
  · rw [g4, if_neg (by omega)]; exact r.1.1
  · rw [g4, if_neg (by omega)]; exact r.2.1.1
  · rw [g4, if_neg (by omega)]; exact r.2.2.1.1
  · rw [g4, if_neg (by omega)]; exact r.2.2.2.1.1
  · rw [g4, if_pos rfl]
set_option maxHeartbeats 400000 in
theorem begI {N n b L i n0 s0 n1 n3 nb nl so : Nat} {x : Int32} {T : Nat → Nat} {lc : List (Int32 × Int32)} {c m : zS} (hx : zCx T n L N) (h : zEN T n b L i n0 s0 n1 n3 nb nl lc c m) (hs : x = nI so) : ∃ c1 m1, fX3_addOperand N x c = some (some (), c1) ∧ zMI T n b L i n0 s0 n1 n3 nb nl lc lc.length 0 (zw T n i).2.2.1 so 0 0 (-1) c1 m1 ∧ zFo b n1 n3 nb c m c1 m1 ∧ c1.2.1 (b + 8) = c.2.1 (b + 8) ∧ m1.2.1 36 1 = nI (n1 + 1) ∧ fX10_takeOperand_J82 N 1 m = zbn (fX10_register N m1) (fun x12 s13 => if (s13.1 3315) = 4 then if zga (nI (7 * n1)) (zlen 38) = true then if zga (nI (7 * n1 + 1)) (zlen 38) = true then if zga (nI (7 * n1 + 6)) (zlen 38) = true then if zga 1 (zlen 36) = true then if zga ((s13.2.1 36 1) - 1) (zlen 49) = true then zbl (fX10_takeOperand_L260 N  N (nI (7 * n1)) 0 (zsr (zsr (zsr (zsr s13 38 (nI (7 * n1)) 3) 38 (nI (7 * n1 + 1)) (-1)) 38 (nI (7 * n1 + 6)) (s13.1 3311)) 49 ((s13.2.1 36 1) - 1) (s13.1 3312))) (fun x => some x) (fun lq57 => match lq57 with | (y60, s61) => zbn (fX10_next N  (zsc s61 3312 ((s61.1 3312) + (s61.1 3311)))) (fun x62 s63 => fX10_takeOperand_J421 N  y60 s63)) else none else none else none else none else none else if x12 = (-1) then zbn (fX10_isBase N  s13) (fun x15 s16 => if x15 = 0 then zbn (fX10_isSign N 37 s16) (fun x18 s19 => if x18 = 0 then zbn (fX10_expression N  s19) (fun x21 s22 => fX10_takeOperand_J395 N  (nI (7 * n1)) x21 s22) else zbn (fX10_marked N (nI (7 * n1)) s19) (fun x33 s34 => fX10_takeOperand_J395 N  (nI (7 * n1)) x33 s34)) else zbn (fX10_tally N  s16) (fun x36 s37 => if x36 = 0 then some (0, s37) else zbn (fX10_emit N 0 0 s37) (fun x39 s40 => zbn (fX10_based N (nI (7 * n1)) s40) (fun x42 s43 => if x42 = 0 then some (0, s43) else fX10_takeOperand_J421 N  (nI (7 * n1)) s43)))) else if zga (nI (7 * n1)) (zlen 38) = true then if zga (nI (7 * n1 + 1)) (zlen 38) = true then zbn (fX10_next N  (zsr (zsr s13 38 (nI (7 * n1)) 1) 38 (nI (7 * n1 + 1)) x12)) (fun x47 s48 => fX10_takeOperand_J421 N  (nI (7 * n1)) s48) else none else none) := by
  obtain ⟨h1, hi, h2, h3, ⟨h4, h4'⟩, h5, h6, h7, ⟨l1, l2⟩, ⟨⟨o1, o2, o3, o4⟩, ⟨p1, p2, p3, p4⟩, ⟨q1, q2, q3⟩⟩⟩ := h
  obtain ⟨x1, x2, x3, x4, x5, x6⟩ := id hx
  have hb := h1.1
  have hbb := zb_lt hb
  obtain ⟨c1, a1, a2, a3, a4, a5, a6, a7, r0, r1, r2, r3, r4, r5, r6, r7⟩ := o_add (N := N) (x := x) hb h1.2.1 h1.2.2.1 p2 (by omega) h5.1 hs (by omega)
  obtain ⟨m1, b1, b2, b3, b4, b5, b6, b7, b8, b9, b10, b11, b12, b13⟩ := t_82 (N := N) h2 p3 (by omega) h6.1
  have kc : ∀ y, y ∉ [306, 307, 308, 100 * (b + 3) + 3] → c1.1 y = c.1 y := fun y => a2.1 y
  have km : ∀ y, y ≠ 3325 → m1.1 y = m.1 y := fun y hy => b1.1 y (by simp [hy])
  have ac : ∀ a, a ≠ b + 4 → c1.2.1 a = c.2.1 a := fun a ha => a2.2.1 a (by simp [ha])
  have am : ∀ a, a ≠ 36 → a ≠ 38 → m1.2.1 a = m.2.1 a := fun a ha hb => b1.2.1 a (by simp [ha, hb])
  have nk : ∀ y, y < 306 ∨ 308 < y → y ≠ 100 * (b + 3) + 3 → y ∉ [306, 307, 308, 100 * (b + 3) + 3] := fun y q1 q2 => by simp only [List.mem_cons, List.not_mem_nil, or_false]; omega
  refine ⟨c1, m1, a1, ⟨⟨zPC_keep h1 (zeq_mono a2 (fun y hy => by unfold zKC; simp only [List.mem_cons, List.not_mem_nil, or_false] at hy ⊢; omega) (fun y hy => by rw [List.mem_singleton.mp hy]; unfold zAC; simp)) (kc _ (nk _ (by omega) (by omega))) (kc _ (nk _ (by omega) (by omega))) (kc _ (nk _ (by omega) (by omega))) (kc _ (nk _ (by omega) (by omega))) (kc _ (nk _ (by omega) (by omega))), hi, zPM_keep h2 b1 (by decide) (by decide), zPN_keep h3 (kc _ (nk _ (by omega) (by omega))) (b5 3 (by decide)) (kc _ (nk _ (by omega) (by omega))) (ac _ (by omega)) (ac _ (by omega)) (am 40 (by decide) (by decide)) (am 41 (by decide) (by decide)), h4, zIC_keep h5 (kc _ (nk _ (by omega) (by omega))) (ac _ (by omega)), zIM_keep h6 (b5 2 (by decide)) (am 39 (by decide) (by decide)), ⟨a4, a5, (km _ (by decide)).trans h7, b3, by omega⟩, l1, l1⟩, h4', ⟨⟨o1, (kc _ (nk _ (by omega) (by omega))).trans o2, (b5 0 (by decide)).trans o3, fun y j hy hj => by rw [ac _ (by omega), am 37 (by decide) (by decide)]; exact o4 y j hy hj⟩, ⟨by omega, a6, b4, fun y j hy hj => by rw [a7 _ (by omega), b6 _ (by omega)]; exact p4 y j hy hj⟩, ⟨q1, (km _ (by decide)).trans q2, fun y hy => ?_⟩⟩, a3, ⟨⟨r0, b7⟩, ⟨r1, b8⟩, ⟨r2, b9⟩, ⟨r3, b10⟩, ⟨r5.trans h1.2.2.2.2.2.2.2.2, b11⟩, ⟨r6, b12⟩, r7⟩⟩, ⟨zeq_mono a2 (fun y hy => by unfold zKX; simp only [List.mem_cons, List.not_mem_nil, or_false] at hy ⊢; omega) (by simp), a7, fun y _ => by rw [ac _ (by omega)], fun y _ => by rw [ac _ (by omega)], zeq_mono b1 (by decide) (by decide), b2, b5 0 (by decide)⟩, ac _ (by omega), b4, b13⟩
  obtain ⟨p, q, l, d1, d2, d3, d4, d5, d6⟩ := q3 y hy
  refine ⟨p, q, l, d1, d2, ?_, ?_, ?_, fun x hx => ?_⟩
  · rw [a7 _ (by omega)]; exact d3
  · rw [a7 _ (by omega)]; exact d4
  · rw [am 49 (by decide) (by decide)]; exact d5
  · rw [ac _ (by omega), am 42 (by decide) (by decide)]; exact d6 x hx
