set_option maxHeartbeats 1000000 in
theorem t_82 {N n i n1 F : Nat} {T : Nat → Nat} {m : zS} (h : zPM T n i m) (h1 : m.2.1 36 1 = nI n1) (hn1 : n1 < 800) (h2 : m.2.1 36 2 = nI F) : ∃ m1, zeq [3325] [36, 38] m m1 ∧ zFM m m1 ∧ m1.1 3325 = nI 0 ∧ m1.2.1 36 1 = nI (n1 + 1) ∧ (∀ j, j ≠ 1 → m1.2.1 36 j = m.2.1 36 j) ∧ (∀ y, y < 7 * n1 → m1.2.1 38 y = m.2.1 38 y) ∧ m1.2.1 38 (7 * n1) = 0 ∧ m1.2.1 38 (7 * n1 + 1) = (-1) ∧ m1.2.1 38 (7 * n1 + 2) = 0 ∧ m1.2.1 38 (7 * n1 + 3) = nI F ∧ m1.2.1 38 (7 * n1 + 5) = nI (zw T n i).2.2.1 ∧ m1.2.1 38 (7 * n1 + 6) = 0 ∧ fX10_takeOperand_J82 N 1 m = zbn (fX10_register N m1) (fun x12 s13 => if (s13.1 3315) = 4 then if zga (nI (7 * n1)) (zlen 38) = true then if zga (nI (7 * n1 + 1)) (zlen 38) = true then if zga (nI (7 * n1 + 6)) (zlen 38) = true then if zga 1 (zlen 36) = true then if zga ((s13.2.1 36 1) - 1) (zlen 49) = true then zbl (fX10_takeOperand_L260 N  N (nI (7 * n1)) 0 (zsr (zsr (zsr (zsr s13 38 (nI (7 * n1)) 3) 38 (nI (7 * n1 + 1)) (-1)) 38 (nI (7 * n1 + 6)) (s13.1 3311)) 49 ((s13.2.1 36 1) - 1) (s13.1 3312))) (fun x => some x) (fun lq57 => match lq57 with | (y60, s61) => zbn (fX10_next N  (zsc s61 3312 ((s61.1 3312) + (s61.1 3311)))) (fun x62 s63 => fX10_takeOperand_J421 N  y60 s63)) else none else none else none else none else none else if x12 = (-1) then zbn (fX10_isBase N  s13) (fun x15 s16 => if x15 = 0 then zbn (fX10_isSign N 37 s16) (fun x18 s19 => if x18 = 0 then zbn (fX10_expression N  s19) (fun x21 s22 => fX10_takeOperand_J395 N  (nI (7 * n1)) x21 s22) else zbn (fX10_marked N (nI (7 * n1)) s19) (fun x33 s34 => fX10_takeOperand_J395 N  (nI (7 * n1)) x33 s34)) else zbn (fX10_tally N  s16) (fun x36 s37 => if x36 = 0 then some (0, s37) else zbn (fX10_emit N 0 0 s37) (fun x39 s40 => zbn (fX10_based N (nI (7 * n1)) s40) (fun x42 s43 => if x42 = 0 then some (0, s43) else fX10_takeOperand_J421 N  (nI (7 * n1)) s43)))) else if zga (nI (7 * n1)) (zlen 38) = true then if zga (nI (7 * n1 + 1)) (zlen 38) = true then zbn (fX10_next N  (zsr (zsr s13 38 (nI (7 * n1)) 1) 38 (nI (7 * n1 + 1)) x12)) (fun x47 s48 => fX10_takeOperand_J421 N  (nI (7 * n1)) s48) else none else none) := by
  have g1 : (1 : Int32).toNatClampNeg = 1 := by decide
  have g2 : (2 : Int32).toNatClampNeg = 2 := by decide
  have e7 : 7 * nI n1 = nI (7 * n1) := pk_mul 7 n1
  have p1 : nI (7 * n1) + 1 = nI (7 * n1 + 1) := nI_1 _
  have p2 : nI (7 * n1) + 2 = nI (7 * n1 + 2) := nI_add _ 2
  have p3 : nI (7 * n1) + 3 = nI (7 * n1 + 3) := nI_add _ 3
  have p5 : nI (7 * n1) + 5 = nI (7 * n1 + 5) := nI_add _ 5
  have p6 : nI (7 * n1) + 6 = nI (7 * n1 + 6) := nI_add _ 6
  obtain ⟨ma, hma⟩ : ∃ ma, ma = zsr (zsc m 3325 0) 36 1 (nI n1 + 1) := ⟨_, rfl⟩
  obtain ⟨m1, hm1⟩ : ∃ m1, m1 = zsr (zsr (zsr (zsr (zsr (zsr ma 38 (nI (7 * n1)) 0) 38 (nI (7 * n1 + 1)) (-1)) 38 (nI (7 * n1 + 2)) 0) 38 (nI (7 * n1 + 3)) (nI F)) 38 (nI (7 * n1 + 5)) (m.1 3317)) 38 (nI (7 * n1 + 6)) 0 := ⟨_, rfl⟩
  have a36 : ∀ j, ma.2.1 36 j = if j = 1 then nI (n1 + 1) else m.2.1 36 j := by
    intro j
    rw [hma, zsr_same, g1]
    by_cases e : j = 1
    · rw [if_pos e, e, pk_us, nI_1]
    · rw [if_neg e, pk_un e]
  have a38 : ma.2.1 38 = m.2.1 38 := by rw [hma, zsr_o (show (38 : Nat) ≠ 36 by decide)]
  have b36 : m1.2.1 36 = ma.2.1 36 := by
    rw [hm1, zsr_o (show (36 : Nat) ≠ 38 by decide), zsr_o (show (36 : Nat) ≠ 38 by decide), zsr_o (show (36 : Nat) ≠ 38 by decide), zsr_o (show (36 : Nat) ≠ 38 by decide), zsr_o (show (36 : Nat) ≠ 38 by decide), zsr_o (show (36 : Nat) ≠ 38 by decide)]
  have b38 : ∀ y, m1.2.1 38 y = if y = 7 * n1 + 6 then 0 else if y = 7 * n1 + 5 then m.1 3317 else if y = 7 * n1 + 3 then nI F else if y = 7 * n1 + 2 then 0 else if y = 7 * n1 + 1 then (-1) else if y = 7 * n1 then 0 else m.2.1 38 y := by
    intro y
    rw [hm1, zsr_g (by omega), zsr_g (by omega), zsr_g (by omega), zsr_g (by omega), zsr_g (by omega), zsr_g (by omega), a38]
  have fa : zFM m ma := by
    rw [hma]
    exact zFM_trans (zFM_eq (zeq_c (K := [3325]) (A := []) (by decide)) (by decide) (by simp)) (zFM_r (i := 1) (by decide) (by omega) (fun _ => by omega) (fun h => absurd h (by decide)) (fun h => absurd h (by decide)) (fun h => absurd h (by decide)) (fun h => absurd h (by decide)) (fun h => absurd h (by decide)) (fun h => absurd h (by decide)) (fun h => absurd h (by decide)))
  have fr : ∀ (t : zS) (y : Nat) (v : Int32), y < 5600 → zFM t (zsr t 38 (nI y) v) := fun t y v hy => zFM_r (by decide) (by omega) (fun h => absurd h (by decide)) (fun h => absurd h (by decide)) (fun _ => hy) (fun h => absurd h (by decide)) (fun h => absurd h (by decide)) (fun h => absurd h (by decide)) (fun h => absurd h (by decide)) (fun h => absurd h (by decide))
  have fm : zFM m m1 := by
    rw [hm1]
    exact zFM_trans fa (zFM_trans (fr _ _ _ (by omega)) (zFM_trans (fr _ _ _ (by omega)) (zFM_trans (fr _ _ _ (by omega)) (zFM_trans (fr _ _ _ (by omega)) (zFM_trans (fr _ _ _ (by omega)) (fr _ _ _ (by omega)))))))
  have zm : zeq [3325] [36, 38] m m1 := by
    rw [hm1, hma]
    exact zeq_trans (zeq_c (by decide)) (zeq_trans (zeq_r (by decide)) (zeq_trans (zeq_r (by decide)) (zeq_trans (zeq_r (by decide)) (zeq_trans (zeq_r (by decide)) (zeq_trans (zeq_r (by decide)) (zeq_trans (zeq_r (by decide)) (zeq_r (by decide))))))))
  have h25 : m1.1 3325 = nI 0 := by
    rw [hm1, hma]
    show (zsc m 3325 0).1 3325 = nI 0
    exact zsc_at
  refine ⟨m1, zm, fm, h25, by rw [b36, a36, if_pos rfl], fun j hj => by rw [b36, a36, if_neg hj], fun y hy => by rw [b38, if_neg (by omega), if_neg (by omega), if_neg (by omega), if_neg (by omega), if_neg (by omega), if_neg (by omega)], by rw [b38, if_neg (by omega), if_neg (by omega), if_neg (by omega), if_neg (by omega), if_neg (by omega), if_pos rfl], by rw [b38, if_neg (by omega), if_neg (by omega), if_neg (by omega), if_neg (by omega), if_pos rfl], by rw [b38, if_neg (by omega), if_neg (by omega), if_neg (by omega), if_pos rfl], by rw [b38, if_neg (by omega), if_neg (by omega), if_pos rfl], by rw [b38, if_neg (by omega), if_pos rfl]; exact h.2.1.2.1, by rw [b38, if_pos rfl], ?_⟩
  have z1 : zga 1 (zlen 36) = true := by decide +kernel
  have z2 : zga 2 (zlen 36) = true := by decide +kernel
  have zz : ∀ y, y < 11200 → zga (nI y) (zlen 38) = true := fun y hy => zga_l (by rfl) hy (by decide)
  have e2 : ∀ t : zS, t.2.1 36 = ma.2.1 36 → t.2.1 36 2 = nI F := fun t ht => by rw [ht, a36, if_neg (by decide), h2]
  unfold fX10_takeOperand_J82
  rw [g1, h1, e7, if_neg (show ¬ (1 : Int32) = 0 by decide), if_pos z1, if_neg (show ¬ nI n1 = (800 : Int32) from fun z => by have := (nI_eq (b := 800) (by omega) (by decide)).mp z; omega), if_pos z1, if_pos z1, if_pos z1, if_pos (zz _ (by omega)), p1, if_pos (zz _ (by omega)), p2, if_pos (zz _ (by omega)), if_pos z2, p3, if_pos (zz _ (by omega)), p5, if_pos (zz _ (by omega)), p6, if_pos (zz _ (by omega)), ← hma, g2, e2 _ (by rw [zsr_o (show (36 : Nat) ≠ 38 by decide), zsr_o (show (36 : Nat) ≠ 38 by decide), zsr_o (show (36 : Nat) ≠ 38 by decide)]), ← hm1]
