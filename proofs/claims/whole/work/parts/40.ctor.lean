theorem zg_eq {h : List zE} {t : Nat} {c x : zE} (hh : h[t]? = some c) : (h.set t x)[t]? = some x := by
  rw [List.getElem?_set_self (List.getElem?_eq_some_iff.mp hh).1]
theorem zg_app {h r : List zE} {t : Nat} {c : zE} (hh : h[t]? = some c) : (h ++ r)[t]? = some c := by
  rw [List.getElem?_append_left (List.getElem?_eq_some_iff.mp hh).1, hh]
theorem zall_set {p : zE → Bool} {h : List zE} {t : Nat} {c : zE} (hh : h.all p = true) (hc : p c = true) : (h.set t c).all p = true := by
  apply List.all_eq_true.mpr
  intro x hx
  rcases List.mem_or_eq_of_mem_set hx with hx | rfl
  · exact List.all_eq_true.mp hh x hx
  · exact hc
set_option maxRecDepth 100000 in
theorem i_Table {g : zGl} (d : Nat) (t : Nat) (mo w : Int32) (N : Nat) (h : List zE) (ht : h[t]? = some (.inr (3, [.null, .int 0, .int 0, .int 0]))) (hfr : h.all (zfc h.length (h.length + 1)) = true) (hlen : h.length + 1 ≤ 1000) (hn1 : ¬ mo * w < 0) (hN : (mo * w).toNatClampNeg = N) (hby : N * componentBytes .int ≤ 536870912) :
    zMet g mX6_init d 1 N [.ref t, .int mo, .int w] h (zret none (h.set t (.inr (3, [.ref h.length, .int w, .int mo, .int 0])) ++ [.inl (0, N, .inl (fun _ => 0))])) := by
  have htl : t < h.length := (List.getElem?_eq_some_iff.mp ht).1
  refine zMet.ofW (by decide +kernel) (Nat.le_of_ble_eq_true rfl) ?_
  show zW g mX6_init d 1 N h.length _ 0 0 h [some (.ref t), some (.int mo), some (.int w)] [] 0
  refine z_aload_n dX6_init_0 rfl ?_
  refine z_objInit dX6_init_1 oX6_3 (Nat.le_of_ble_eq_true rfl) ?_
  refine z_aload_n dX6_init_4 rfl ?_
  refine z_iload_n dX6_init_5 rfl ?_
  refine z_putF dX6_init_6 fX6_9 wX6_2 rfl rfl ht (Nat.le_of_ble_eq_true rfl) (fun _ => rfl) (fun _ => rfl) rfl ?_
  refine z_aload_n dX6_init_9 rfl ?_
  refine z_iload_n dX6_init_10 rfl ?_
  refine z_putF dX6_init_11 fX6_15 wX6_1 rfl rfl (zg_eq ht) (Nat.le_of_ble_eq_true rfl) (fun _ => rfl) (fun _ => rfl) rfl ?_
  refine z_aload_n dX6_init_14 rfl ?_
  refine z_iload_n dX6_init_15 rfl ?_
  refine z_iload_n dX6_init_16 rfl ?_
  refine z_imul dX6_init_17 ?_
  refine z_newa N 0 .int (N, .inl (fun _ => 0)) dX6_init_18 rfl rfl (fun _ => rfl) (fun _ _ => rfl) ac_int hn1 hN hby ⟨?_, ?_, ?_, ?_⟩ (by omega) (by omega) ?_
  · rw [List.length_set, List.length_set]; exact zall_set (zall_set hfr rfl) rfl
  · rw [List.length_set, List.length_set]; simp [zfo, zfv, htl]
  · rw [List.length_set, List.length_set]; simp [zfv, htl]
  · rw [List.length_set, List.length_set]; exact hlen
  refine z_putF dX6_init_20 fX6_18 wX6_0 rfl rfl (zg_app (zg_eq (zg_eq ht))) (Nat.le_of_ble_eq_true rfl) (fun _ => rfl) (fun _ => rfl) rfl ?_
  exact z_vret rfl dX6_init_23 (by omega) (by omega) ⟨rfl, by rw [List.length_set, List.length_set, List.set_append_left _ _ (by rw [List.length_set, List.length_set]; exact htl), List.set_set, List.set_set]; rfl⟩
set_option maxHeartbeats 4000000 in
set_option maxRecDepth 100000 in
theorem i_Words {g : zGl} (hok : zGok g) (d : Nat) (hd : 1 ≤ d) : zMet g mX8_init d 3 12007 [.ref 4] [.inr (6, [.ref 1, .ref 2, .null, .null, .null]), .inl (0, 20, .inl (fun _ => 0)), .inl (0, 16, .inl (fun _ => 0)), .inr (1, [.null, .null, .null, .int 0, .int 0, .int 0, .int 0, .int 0, .int 0, .int 0, .int 0]), .inr (5, [.null, .null, .int 0, .int 0, .int 0, .int 0])] (zret none [.inr (6, [.ref 1, .ref 2, .null, .null, .null]), .inl (0, 20, .inl (fun _ => 0)), .inl (0, 16, .inl (fun _ => 0)), .inr (1, [.null, .null, .null, .int 0, .int 0, .int 0, .int 0, .int 0, .int 0, .int 0, .int 0]), .inr (5, [.ref 5, .ref 6, .int 0, .int 0, .int 0, .int 0]), .inl (0, 3000, .inl (fun _ => 0)), .inr (3, [.ref 7, .int 3, .int 3001, .int 0]), .inl (0, 9003, .inl (fun _ => 0))]) := by
  refine zMet.ofW (by decide +kernel) (Nat.le_of_ble_eq_true rfl) ?_
  show zW g mX8_init d 3 12007 5 _ 0 0 _ [some (.ref 4)] [] 0
  refine z_aload_n dX8_init_0 rfl ?_
  refine z_objInit dX8_init_1 oX8_3 (Nat.le_of_ble_eq_true rfl) ?_
  refine z_aload_n dX8_init_4 rfl ?_
  refine z_sipush 3000 dX8_init_5 (by decide +kernel) ?_
  refine z_newa 3000 0 .int (3000, .inl (fun _ => 0)) dX8_init_8 rfl rfl (fun _ => rfl) (fun _ _ => rfl) ac_int (by decide) (by decide +kernel) (by decide) ⟨by rfl, by rfl, by rfl, by decide⟩ (by decide) (by decide) ?_
  refine z_putF dX8_init_10 fX8_9 wX8_0 rfl rfl (by rfl) (Nat.le_of_ble_eq_true rfl) (fun _ => rfl) (fun _ => rfl) rfl ?_
  refine z_aload_n dX8_init_13 rfl ?_
  refine z_new 4 dX8_init_14 nX8_15 rfl (fun _ => rfl) ⟨by rfl, by rfl, by rfl, by decide⟩ (by rfl) (by decide) (by decide) ?_
  refine z_dup dX8_init_17 rfl ?_
  refine z_sipush 3001 dX8_init_18 (by decide +kernel) ?_
  refine z_iconst 3 dX8_init_21 (by decide +kernel) ?_
  refine z_callI hok dX8_init_22 kX8_17 (i_Table (d - 1) _ 3001 3 9003 _ (by rfl) (by rfl) (by decide) (by decide) (by decide +kernel) (by decide)) (fun _ _ q => by cases q.1) rfl rfl (by omega) (Nat.le_of_ble_eq_true rfl) (by decide) (by decide) (fun v h' q => ?_)
  obtain ⟨q1, q2⟩ := q
  cases q1
  subst q2
  refine ⟨⟨by rfl, by rfl⟩, ?_⟩
  refine z_putF dX8_init_25 fX8_20 wX8_1 rfl rfl (by rfl) (Nat.le_of_ble_eq_true rfl) (fun _ => rfl) (fun _ => rfl) rfl ?_
  exact z_vret rfl dX8_init_28 (by decide) (by decide) ⟨rfl, rfl⟩
set_option maxHeartbeats 4000000 in
set_option maxRecDepth 100000 in
theorem i_Book1 {g : zGl} (hok : zGok g) (d : Nat) (hd : 1 ≤ d) : zMet g mX0_init d 9 16116 [.ref 8] [.inr (6, [.ref 1, .ref 2, .null, .null, .null]), .inl (0, 20, .inl (fun _ => 0)), .inl (0, 16, .inl (fun _ => 0)), .inr (1, [.ref 4, .null, .null, .int 0, .int 0, .int 0, .int 0, .int 0, .int 0, .int 0, .int 0]), .inr (5, [.ref 5, .ref 6, .int 0, .int 0, .int 0, .int 0]), .inl (0, 3000, .inl (fun _ => 0)), .inr (3, [.ref 7, .int 3, .int 3001, .int 0]), .inl (0, 9003, .inl (fun _ => 0)), .inr (0, [.null, .null, .null, .null, .null, .int 0])] (zret none [.inr (6, [.ref 1, .ref 2, .null, .null, .null]), .inl (0, 20, .inl (fun _ => 0)), .inl (0, 16, .inl (fun _ => 0)), .inr (1, [.ref 4, .null, .null, .int 0, .int 0, .int 0, .int 0, .int 0, .int 0, .int 0, .int 0]), .inr (5, [.ref 5, .ref 6, .int 0, .int 0, .int 0, .int 0]), .inl (0, 3000, .inl (fun _ => 0)), .inr (3, [.ref 7, .int 3, .int 3001, .int 0]), .inl (0, 9003, .inl (fun _ => 0)), .inr (0, [.ref 9, .ref 11, .ref 13, .ref 15, .ref 17, .int 0]), .inr (3, [.ref 10, .int 6, .int 400, .int 0]), .inl (0, 2400, .inl (fun _ => 0)), .inr (3, [.ref 12, .int 8, .int 800, .int 0]), .inl (0, 6400, .inl (fun _ => 0)), .inr (3, [.ref 14, .int 2, .int 2000, .int 0]), .inl (0, 4000, .inl (fun _ => 0)), .inr (3, [.ref 16, .int 2, .int 150, .int 0]), .inl (0, 300, .inl (fun _ => 0)), .inl (0, 3000, .inl (fun _ => 0))]) := by
  refine zMet.ofW (by decide +kernel) (Nat.le_of_ble_eq_true rfl) ?_
  show zW g mX0_init d 9 16116 9 _ 0 0 _ [some (.ref 8)] [] 0
  refine z_aload_n dX0_init_0 rfl ?_
  refine z_objInit dX0_init_1 oX0_3 (Nat.le_of_ble_eq_true rfl) ?_
  refine z_aload_n dX0_init_4 rfl ?_
  refine z_new 4 dX0_init_5 nX0_9 rfl (fun _ => rfl) ⟨by rfl, by rfl, by rfl, by decide⟩ (by rfl) (by decide) (by decide) ?_
  refine z_dup dX0_init_8 rfl ?_
  refine z_sipush 400 dX0_init_9 (by decide +kernel) ?_
  refine z_bipush 6 dX0_init_12 (by decide +kernel) ?_
  refine z_callI hok dX0_init_14 kX0_11 (i_Table (d - 1) _ 400 6 2400 _ (by rfl) (by rfl) (by decide) (by decide) (by decide +kernel) (by decide)) (fun _ _ q => by cases q.1) rfl rfl (by omega) (Nat.le_of_ble_eq_true rfl) (by decide) (by decide) (fun v h' q => ?_)
  obtain ⟨q1, q2⟩ := q
  cases q1
  subst q2
  refine ⟨⟨by rfl, by rfl⟩, ?_⟩
  refine z_putF dX0_init_17 fX0_14 wX0_0 rfl rfl (by rfl) (Nat.le_of_ble_eq_true rfl) (fun _ => rfl) (fun _ => rfl) rfl ?_
  refine z_aload_n dX0_init_20 rfl ?_
  refine z_new 4 dX0_init_21 nX0_9 rfl (fun _ => rfl) ⟨by rfl, by rfl, by rfl, by decide⟩ (by rfl) (by decide) (by decide) ?_
  refine z_dup dX0_init_24 rfl ?_
  refine z_sipush 800 dX0_init_25 (by decide +kernel) ?_
  refine z_bipush 8 dX0_init_28 (by decide +kernel) ?_
  refine z_callI hok dX0_init_30 kX0_11 (i_Table (d - 1) _ 800 8 6400 _ (by rfl) (by rfl) (by decide) (by decide) (by decide +kernel) (by decide)) (fun _ _ q => by cases q.1) rfl rfl (by omega) (Nat.le_of_ble_eq_true rfl) (by decide) (by decide) (fun v h' q => ?_)
  obtain ⟨q1, q2⟩ := q
  cases q1
  subst q2
  refine ⟨⟨by rfl, by rfl⟩, ?_⟩
  refine z_putF dX0_init_33 fX0_20 wX0_1 rfl rfl (by rfl) (Nat.le_of_ble_eq_true rfl) (fun _ => rfl) (fun _ => rfl) rfl ?_
  refine z_aload_n dX0_init_36 rfl ?_
  refine z_new 4 dX0_init_37 nX0_9 rfl (fun _ => rfl) ⟨by rfl, by rfl, by rfl, by decide⟩ (by rfl) (by decide) (by decide) ?_
  refine z_dup dX0_init_40 rfl ?_
  refine z_sipush 2000 dX0_init_41 (by decide +kernel) ?_
  refine z_iconst 2 dX0_init_44 (by decide +kernel) ?_
  refine z_callI hok dX0_init_45 kX0_11 (i_Table (d - 1) _ 2000 2 4000 _ (by rfl) (by rfl) (by decide) (by decide) (by decide +kernel) (by decide)) (fun _ _ q => by cases q.1) rfl rfl (by omega) (Nat.le_of_ble_eq_true rfl) (by decide) (by decide) (fun v h' q => ?_)
  obtain ⟨q1, q2⟩ := q
  cases q1
  subst q2
  refine ⟨⟨by rfl, by rfl⟩, ?_⟩
  refine z_putF dX0_init_48 fX0_23 wX0_2 rfl rfl (by rfl) (Nat.le_of_ble_eq_true rfl) (fun _ => rfl) (fun _ => rfl) rfl ?_
  refine z_aload_n dX0_init_51 rfl ?_
  refine z_new 4 dX0_init_52 nX0_9 rfl (fun _ => rfl) ⟨by rfl, by rfl, by rfl, by decide⟩ (by rfl) (by decide) (by decide) ?_
  refine z_dup dX0_init_55 rfl ?_
  refine z_sipush 150 dX0_init_56 (by decide +kernel) ?_
  refine z_iconst 2 dX0_init_59 (by decide +kernel) ?_
  refine z_callI hok dX0_init_60 kX0_11 (i_Table (d - 1) _ 150 2 300 _ (by rfl) (by rfl) (by decide) (by decide) (by decide +kernel) (by decide)) (fun _ _ q => by cases q.1) rfl rfl (by omega) (Nat.le_of_ble_eq_true rfl) (by decide) (by decide) (fun v h' q => ?_)
  obtain ⟨q1, q2⟩ := q
  cases q1
  subst q2
  refine ⟨⟨by rfl, by rfl⟩, ?_⟩
  refine z_putF dX0_init_63 fX0_26 wX0_3 rfl rfl (by rfl) (Nat.le_of_ble_eq_true rfl) (fun _ => rfl) (fun _ => rfl) rfl ?_
  refine z_aload_n dX0_init_66 rfl ?_
  refine z_sipush 3000 dX0_init_67 (by decide +kernel) ?_
  refine z_newa 3000 0 .int (3000, .inl (fun _ => 0)) dX0_init_70 rfl rfl (fun _ => rfl) (fun _ _ => rfl) ac_int (by decide) (by decide +kernel) (by decide) ⟨by rfl, by rfl, by rfl, by decide⟩ (by decide) (by decide) ?_
  refine z_putF dX0_init_72 fX0_29 wX0_4 rfl rfl (by rfl) (Nat.le_of_ble_eq_true rfl) (fun _ => rfl) (fun _ => rfl) rfl ?_
  exact z_vret rfl dX0_init_75 (by decide) (by decide) ⟨rfl, rfl⟩
set_option maxHeartbeats 4000000 in
set_option maxRecDepth 100000 in
theorem i_Book2 {g : zGl} (hok : zGok g) (d : Nat) (hd : 1 ≤ d) : zMet g mX0_init d 9 16116 [.ref 18] [.inr (6, [.ref 1, .ref 2, .null, .null, .null]), .inl (0, 20, .inl (fun _ => 0)), .inl (0, 16, .inl (fun _ => 0)), .inr (1, [.ref 4, .ref 8, .null, .int 0, .int 0, .int 0, .int 0, .int 0, .int 0, .int 0, .int 0]), .inr (5, [.ref 5, .ref 6, .int 0, .int 0, .int 0, .int 0]), .inl (0, 3000, .inl (fun _ => 0)), .inr (3, [.ref 7, .int 3, .int 3001, .int 0]), .inl (0, 9003, .inl (fun _ => 0)), .inr (0, [.ref 9, .ref 11, .ref 13, .ref 15, .ref 17, .int 0]), .inr (3, [.ref 10, .int 6, .int 400, .int 0]), .inl (0, 2400, .inl (fun _ => 0)), .inr (3, [.ref 12, .int 8, .int 800, .int 0]), .inl (0, 6400, .inl (fun _ => 0)), .inr (3, [.ref 14, .int 2, .int 2000, .int 0]), .inl (0, 4000, .inl (fun _ => 0)), .inr (3, [.ref 16, .int 2, .int 150, .int 0]), .inl (0, 300, .inl (fun _ => 0)), .inl (0, 3000, .inl (fun _ => 0)), .inr (0, [.null, .null, .null, .null, .null, .int 0])] (zret none [.inr (6, [.ref 1, .ref 2, .null, .null, .null]), .inl (0, 20, .inl (fun _ => 0)), .inl (0, 16, .inl (fun _ => 0)), .inr (1, [.ref 4, .ref 8, .null, .int 0, .int 0, .int 0, .int 0, .int 0, .int 0, .int 0, .int 0]), .inr (5, [.ref 5, .ref 6, .int 0, .int 0, .int 0, .int 0]), .inl (0, 3000, .inl (fun _ => 0)), .inr (3, [.ref 7, .int 3, .int 3001, .int 0]), .inl (0, 9003, .inl (fun _ => 0)), .inr (0, [.ref 9, .ref 11, .ref 13, .ref 15, .ref 17, .int 0]), .inr (3, [.ref 10, .int 6, .int 400, .int 0]), .inl (0, 2400, .inl (fun _ => 0)), .inr (3, [.ref 12, .int 8, .int 800, .int 0]), .inl (0, 6400, .inl (fun _ => 0)), .inr (3, [.ref 14, .int 2, .int 2000, .int 0]), .inl (0, 4000, .inl (fun _ => 0)), .inr (3, [.ref 16, .int 2, .int 150, .int 0]), .inl (0, 300, .inl (fun _ => 0)), .inl (0, 3000, .inl (fun _ => 0)), .inr (0, [.ref 19, .ref 21, .ref 23, .ref 25, .ref 27, .int 0]), .inr (3, [.ref 20, .int 6, .int 400, .int 0]), .inl (0, 2400, .inl (fun _ => 0)), .inr (3, [.ref 22, .int 8, .int 800, .int 0]), .inl (0, 6400, .inl (fun _ => 0)), .inr (3, [.ref 24, .int 2, .int 2000, .int 0]), .inl (0, 4000, .inl (fun _ => 0)), .inr (3, [.ref 26, .int 2, .int 150, .int 0]), .inl (0, 300, .inl (fun _ => 0)), .inl (0, 3000, .inl (fun _ => 0))]) := by
  refine zMet.ofW (by decide +kernel) (Nat.le_of_ble_eq_true rfl) ?_
  show zW g mX0_init d 9 16116 19 _ 0 0 _ [some (.ref 18)] [] 0
  refine z_aload_n dX0_init_0 rfl ?_
  refine z_objInit dX0_init_1 oX0_3 (Nat.le_of_ble_eq_true rfl) ?_
  refine z_aload_n dX0_init_4 rfl ?_
  refine z_new 4 dX0_init_5 nX0_9 rfl (fun _ => rfl) ⟨by rfl, by rfl, by rfl, by decide⟩ (by rfl) (by decide) (by decide) ?_
  refine z_dup dX0_init_8 rfl ?_
  refine z_sipush 400 dX0_init_9 (by decide +kernel) ?_
  refine z_bipush 6 dX0_init_12 (by decide +kernel) ?_
  refine z_callI hok dX0_init_14 kX0_11 (i_Table (d - 1) _ 400 6 2400 _ (by rfl) (by rfl) (by decide) (by decide) (by decide +kernel) (by decide)) (fun _ _ q => by cases q.1) rfl rfl (by omega) (Nat.le_of_ble_eq_true rfl) (by decide) (by decide) (fun v h' q => ?_)
  obtain ⟨q1, q2⟩ := q
  cases q1
  subst q2
  refine ⟨⟨by rfl, by rfl⟩, ?_⟩
  refine z_putF dX0_init_17 fX0_14 wX0_0 rfl rfl (by rfl) (Nat.le_of_ble_eq_true rfl) (fun _ => rfl) (fun _ => rfl) rfl ?_
  refine z_aload_n dX0_init_20 rfl ?_
  refine z_new 4 dX0_init_21 nX0_9 rfl (fun _ => rfl) ⟨by rfl, by rfl, by rfl, by decide⟩ (by rfl) (by decide) (by decide) ?_
  refine z_dup dX0_init_24 rfl ?_
  refine z_sipush 800 dX0_init_25 (by decide +kernel) ?_
  refine z_bipush 8 dX0_init_28 (by decide +kernel) ?_
  refine z_callI hok dX0_init_30 kX0_11 (i_Table (d - 1) _ 800 8 6400 _ (by rfl) (by rfl) (by decide) (by decide) (by decide +kernel) (by decide)) (fun _ _ q => by cases q.1) rfl rfl (by omega) (Nat.le_of_ble_eq_true rfl) (by decide) (by decide) (fun v h' q => ?_)
  obtain ⟨q1, q2⟩ := q
  cases q1
  subst q2
  refine ⟨⟨by rfl, by rfl⟩, ?_⟩
  refine z_putF dX0_init_33 fX0_20 wX0_1 rfl rfl (by rfl) (Nat.le_of_ble_eq_true rfl) (fun _ => rfl) (fun _ => rfl) rfl ?_
  refine z_aload_n dX0_init_36 rfl ?_
  refine z_new 4 dX0_init_37 nX0_9 rfl (fun _ => rfl) ⟨by rfl, by rfl, by rfl, by decide⟩ (by rfl) (by decide) (by decide) ?_
  refine z_dup dX0_init_40 rfl ?_
  refine z_sipush 2000 dX0_init_41 (by decide +kernel) ?_
  refine z_iconst 2 dX0_init_44 (by decide +kernel) ?_
  refine z_callI hok dX0_init_45 kX0_11 (i_Table (d - 1) _ 2000 2 4000 _ (by rfl) (by rfl) (by decide) (by decide) (by decide +kernel) (by decide)) (fun _ _ q => by cases q.1) rfl rfl (by omega) (Nat.le_of_ble_eq_true rfl) (by decide) (by decide) (fun v h' q => ?_)
  obtain ⟨q1, q2⟩ := q
  cases q1
  subst q2
  refine ⟨⟨by rfl, by rfl⟩, ?_⟩
  refine z_putF dX0_init_48 fX0_23 wX0_2 rfl rfl (by rfl) (Nat.le_of_ble_eq_true rfl) (fun _ => rfl) (fun _ => rfl) rfl ?_
  refine z_aload_n dX0_init_51 rfl ?_
  refine z_new 4 dX0_init_52 nX0_9 rfl (fun _ => rfl) ⟨by rfl, by rfl, by rfl, by decide⟩ (by rfl) (by decide) (by decide) ?_
  refine z_dup dX0_init_55 rfl ?_
  refine z_sipush 150 dX0_init_56 (by decide +kernel) ?_
  refine z_iconst 2 dX0_init_59 (by decide +kernel) ?_
  refine z_callI hok dX0_init_60 kX0_11 (i_Table (d - 1) _ 150 2 300 _ (by rfl) (by rfl) (by decide) (by decide) (by decide +kernel) (by decide)) (fun _ _ q => by cases q.1) rfl rfl (by omega) (Nat.le_of_ble_eq_true rfl) (by decide) (by decide) (fun v h' q => ?_)
  obtain ⟨q1, q2⟩ := q
  cases q1
  subst q2
  refine ⟨⟨by rfl, by rfl⟩, ?_⟩
  refine z_putF dX0_init_63 fX0_26 wX0_3 rfl rfl (by rfl) (Nat.le_of_ble_eq_true rfl) (fun _ => rfl) (fun _ => rfl) rfl ?_
  refine z_aload_n dX0_init_66 rfl ?_
  refine z_sipush 3000 dX0_init_67 (by decide +kernel) ?_
  refine z_newa 3000 0 .int (3000, .inl (fun _ => 0)) dX0_init_70 rfl rfl (fun _ => rfl) (fun _ _ => rfl) ac_int (by decide) (by decide +kernel) (by decide) ⟨by rfl, by rfl, by rfl, by decide⟩ (by decide) (by decide) ?_
  refine z_putF dX0_init_72 fX0_29 wX0_4 rfl rfl (by rfl) (Nat.le_of_ble_eq_true rfl) (fun _ => rfl) (fun _ => rfl) rfl ?_
  exact z_vret rfl dX0_init_75 (by decide) (by decide) ⟨rfl, rfl⟩
set_option maxHeartbeats 4000000 in
set_option maxRecDepth 100000 in
theorem i_Reader {g : zGl} (hok : zGok g) (d : Nat) (hd : 2 ≤ d) : zMet g mX3_init d 24 44257 [.ref 3] [.inr (6, [.ref 1, .ref 2, .null, .null, .null]), .inl (0, 20, .inl (fun _ => 0)), .inl (0, 16, .inl (fun _ => 0)), .inr (1, [.null, .null, .null, .int 0, .int 0, .int 0, .int 0, .int 0, .int 0, .int 0, .int 0])] (zret none [.inr (6, [.ref 1, .ref 2, .null, .null, .null]), .inl (0, 20, .inl (fun _ => 0)), .inl (0, 16, .inl (fun _ => 0)), .inr (1, [.ref 4, .ref 8, .ref 18, .int 0, .int 0, .int 0, .int 0, .int 0, .int 0, .int 0, .int (-1)]), .inr (5, [.ref 5, .ref 6, .int 0, .int 0, .int 0, .int 0]), .inl (0, 3000, .inl (fun _ => 0)), .inr (3, [.ref 7, .int 3, .int 3001, .int 0]), .inl (0, 9003, .inl (fun _ => 0)), .inr (0, [.ref 9, .ref 11, .ref 13, .ref 15, .ref 17, .int 0]), .inr (3, [.ref 10, .int 6, .int 400, .int 0]), .inl (0, 2400, .inl (fun _ => 0)), .inr (3, [.ref 12, .int 8, .int 800, .int 0]), .inl (0, 6400, .inl (fun _ => 0)), .inr (3, [.ref 14, .int 2, .int 2000, .int 0]), .inl (0, 4000, .inl (fun _ => 0)), .inr (3, [.ref 16, .int 2, .int 150, .int 0]), .inl (0, 300, .inl (fun _ => 0)), .inl (0, 3000, .inl (fun _ => 0)), .inr (0, [.ref 19, .ref 21, .ref 23, .ref 25, .ref 27, .int 0]), .inr (3, [.ref 20, .int 6, .int 400, .int 0]), .inl (0, 2400, .inl (fun _ => 0)), .inr (3, [.ref 22, .int 8, .int 800, .int 0]), .inl (0, 6400, .inl (fun _ => 0)), .inr (3, [.ref 24, .int 2, .int 2000, .int 0]), .inl (0, 4000, .inl (fun _ => 0)), .inr (3, [.ref 26, .int 2, .int 150, .int 0]), .inl (0, 300, .inl (fun _ => 0)), .inl (0, 3000, .inl (fun _ => 0))]) := by
  refine zMet.ofW (by decide +kernel) (Nat.le_of_ble_eq_true rfl) ?_
  show zW g mX3_init d 24 44257 4 _ 0 0 _ [some (.ref 3)] [] 0
  refine z_aload_n dX3_init_0 rfl ?_
  refine z_objInit dX3_init_1 oX3_3 (Nat.le_of_ble_eq_true rfl) ?_
  refine z_aload_n dX3_init_4 rfl ?_
  refine z_new 6 dX3_init_5 nX3_9 rfl (fun _ => rfl) ⟨by rfl, by rfl, by rfl, by decide⟩ (by rfl) (by decide) (by decide) ?_
  refine z_dup dX3_init_8 rfl ?_
  refine z_callI hok dX3_init_9 kX3_11 (i_Words hok (d - 1) (by omega)) (fun _ _ q => by cases q.1) rfl rfl (by omega) (Nat.le_of_ble_eq_true rfl) (by decide) (by decide) (fun v h' q => ?_)
  obtain ⟨q1, q2⟩ := q
  cases q1
  subst q2
  refine ⟨⟨by rfl, by rfl⟩, ?_⟩
  refine z_putF dX3_init_12 fX3_12 wX3_0 rfl rfl (by rfl) (Nat.le_of_ble_eq_true rfl) (fun _ => rfl) (fun _ => rfl) rfl ?_
  refine z_aload_n dX3_init_15 rfl ?_
  refine z_new 6 dX3_init_16 nX3_18 rfl (fun _ => rfl) ⟨by rfl, by rfl, by rfl, by decide⟩ (by rfl) (by decide) (by decide) ?_
  refine z_dup dX3_init_19 rfl ?_
  refine z_callI hok dX3_init_20 kX3_20 (i_Book1 hok (d - 1) (by omega)) (fun _ _ q => by cases q.1) rfl rfl (by omega) (Nat.le_of_ble_eq_true rfl) (by decide) (by decide) (fun v h' q => ?_)
  obtain ⟨q1, q2⟩ := q
  cases q1
  subst q2
  refine ⟨⟨by rfl, by rfl⟩, ?_⟩
  refine z_putf dX3_init_23 fX3_21 wX3_1 (by rfl) (Nat.le_of_ble_eq_true rfl) (fun _ => rfl) (fun _ => rfl) rfl ?_
  refine z_aload_n dX3_init_26 rfl ?_
  refine z_new 6 dX3_init_27 nX3_18 rfl (fun _ => rfl) ⟨by rfl, by rfl, by rfl, by decide⟩ (by rfl) (by decide) (by decide) ?_
  refine z_dup dX3_init_30 rfl ?_
  refine z_callI hok dX3_init_31 kX3_20 (i_Book2 hok (d - 1) (by omega)) (fun _ _ q => by cases q.1) rfl rfl (by omega) (Nat.le_of_ble_eq_true rfl) (by decide) (by decide) (fun v h' q => ?_)
  obtain ⟨q1, q2⟩ := q
  cases q1
  subst q2
  refine ⟨⟨by rfl, by rfl⟩, ?_⟩
  refine z_putf dX3_init_34 fX3_25 wX3_2 (by rfl) (Nat.le_of_ble_eq_true rfl) (fun _ => rfl) (fun _ => rfl) rfl ?_
  refine z_aload_n dX3_init_37 rfl ?_
  refine z_iconst (-1) dX3_init_38 (by decide +kernel) ?_
  refine z_putf dX3_init_39 fX3_28 wX3_10 (by rfl) (Nat.le_of_ble_eq_true rfl) (fun _ => rfl) (fun _ => rfl) rfl ?_
  exact z_vret rfl dX3_init_42 (by decide) (by decide) ⟨rfl, rfl⟩
set_option maxHeartbeats 4000000 in
set_option maxRecDepth 100000 in
theorem i_Reckoner {g : zGl} (hok : zGok g) (d : Nat)  : zMet g mX4_init d 1 60 [.ref 28] [.inr (6, [.ref 1, .ref 2, .ref 3, .null, .null]), .inl (0, 20, .inl (fun _ => 0)), .inl (0, 16, .inl (fun _ => 0)), .inr (1, [.ref 4, .ref 8, .ref 18, .int 0, .int 0, .int 0, .int 0, .int 0, .int 0, .int 0, .int (-1)]), .inr (5, [.ref 5, .ref 6, .int 0, .int 0, .int 0, .int 0]), .inl (0, 3000, .inl (fun _ => 0)), .inr (3, [.ref 7, .int 3, .int 3001, .int 0]), .inl (0, 9003, .inl (fun _ => 0)), .inr (0, [.ref 9, .ref 11, .ref 13, .ref 15, .ref 17, .int 0]), .inr (3, [.ref 10, .int 6, .int 400, .int 0]), .inl (0, 2400, .inl (fun _ => 0)), .inr (3, [.ref 12, .int 8, .int 800, .int 0]), .inl (0, 6400, .inl (fun _ => 0)), .inr (3, [.ref 14, .int 2, .int 2000, .int 0]), .inl (0, 4000, .inl (fun _ => 0)), .inr (3, [.ref 16, .int 2, .int 150, .int 0]), .inl (0, 300, .inl (fun _ => 0)), .inl (0, 3000, .inl (fun _ => 0)), .inr (0, [.ref 19, .ref 21, .ref 23, .ref 25, .ref 27, .int 0]), .inr (3, [.ref 20, .int 6, .int 400, .int 0]), .inl (0, 2400, .inl (fun _ => 0)), .inr (3, [.ref 22, .int 8, .int 800, .int 0]), .inl (0, 6400, .inl (fun _ => 0)), .inr (3, [.ref 24, .int 2, .int 2000, .int 0]), .inl (0, 4000, .inl (fun _ => 0)), .inr (3, [.ref 26, .int 2, .int 150, .int 0]), .inl (0, 300, .inl (fun _ => 0)), .inl (0, 3000, .inl (fun _ => 0)), .inr (2, [.null])] (zret none [.inr (6, [.ref 1, .ref 2, .ref 3, .null, .null]), .inl (0, 20, .inl (fun _ => 0)), .inl (0, 16, .inl (fun _ => 0)), .inr (1, [.ref 4, .ref 8, .ref 18, .int 0, .int 0, .int 0, .int 0, .int 0, .int 0, .int 0, .int (-1)]), .inr (5, [.ref 5, .ref 6, .int 0, .int 0, .int 0, .int 0]), .inl (0, 3000, .inl (fun _ => 0)), .inr (3, [.ref 7, .int 3, .int 3001, .int 0]), .inl (0, 9003, .inl (fun _ => 0)), .inr (0, [.ref 9, .ref 11, .ref 13, .ref 15, .ref 17, .int 0]), .inr (3, [.ref 10, .int 6, .int 400, .int 0]), .inl (0, 2400, .inl (fun _ => 0)), .inr (3, [.ref 12, .int 8, .int 800, .int 0]), .inl (0, 6400, .inl (fun _ => 0)), .inr (3, [.ref 14, .int 2, .int 2000, .int 0]), .inl (0, 4000, .inl (fun _ => 0)), .inr (3, [.ref 16, .int 2, .int 150, .int 0]), .inl (0, 300, .inl (fun _ => 0)), .inl (0, 3000, .inl (fun _ => 0)), .inr (0, [.ref 19, .ref 21, .ref 23, .ref 25, .ref 27, .int 0]), .inr (3, [.ref 20, .int 6, .int 400, .int 0]), .inl (0, 2400, .inl (fun _ => 0)), .inr (3, [.ref 22, .int 8, .int 800, .int 0]), .inl (0, 6400, .inl (fun _ => 0)), .inr (3, [.ref 24, .int 2, .int 2000, .int 0]), .inl (0, 4000, .inl (fun _ => 0)), .inr (3, [.ref 26, .int 2, .int 150, .int 0]), .inl (0, 300, .inl (fun _ => 0)), .inl (0, 3000, .inl (fun _ => 0)), .inr (2, [.ref 29]), .inl (0, 60, .inl (fun _ => 0))]) := by
  refine zMet.ofW (by decide +kernel) (Nat.le_of_ble_eq_true rfl) ?_
  show zW g mX4_init d 1 60 29 _ 0 0 _ [some (.ref 28)] [] 0
  refine z_aload_n dX4_init_0 rfl ?_
  refine z_objInit dX4_init_1 oX4_3 (Nat.le_of_ble_eq_true rfl) ?_
  refine z_aload_n dX4_init_4 rfl ?_
  refine z_bipush 60 dX4_init_5 (by decide +kernel) ?_
  refine z_newa 60 0 .int (60, .inl (fun _ => 0)) dX4_init_7 rfl rfl (fun _ => rfl) (fun _ _ => rfl) ac_int (by decide) (by decide +kernel) (by decide) ⟨by rfl, by rfl, by rfl, by decide⟩ (by decide) (by decide) ?_
  refine z_putF dX4_init_9 fX4_9 wX4_0 rfl rfl (by rfl) (Nat.le_of_ble_eq_true rfl) (fun _ => rfl) (fun _ => rfl) rfl ?_
  exact z_vret rfl dX4_init_12 (by decide) (by decide) ⟨rfl, rfl⟩
set_option maxHeartbeats 4000000 in
set_option maxRecDepth 100000 in
theorem i_Teller {g : zGl} (hok : zGok g) (d : Nat)  : zMet g mX7_init d 2 6060 [.ref 30] [.inr (6, [.ref 1, .ref 2, .ref 3, .ref 28, .null]), .inl (0, 20, .inl (fun _ => 0)), .inl (0, 16, .inl (fun _ => 0)), .inr (1, [.ref 4, .ref 8, .ref 18, .int 0, .int 0, .int 0, .int 0, .int 0, .int 0, .int 0, .int (-1)]), .inr (5, [.ref 5, .ref 6, .int 0, .int 0, .int 0, .int 0]), .inl (0, 3000, .inl (fun _ => 0)), .inr (3, [.ref 7, .int 3, .int 3001, .int 0]), .inl (0, 9003, .inl (fun _ => 0)), .inr (0, [.ref 9, .ref 11, .ref 13, .ref 15, .ref 17, .int 0]), .inr (3, [.ref 10, .int 6, .int 400, .int 0]), .inl (0, 2400, .inl (fun _ => 0)), .inr (3, [.ref 12, .int 8, .int 800, .int 0]), .inl (0, 6400, .inl (fun _ => 0)), .inr (3, [.ref 14, .int 2, .int 2000, .int 0]), .inl (0, 4000, .inl (fun _ => 0)), .inr (3, [.ref 16, .int 2, .int 150, .int 0]), .inl (0, 300, .inl (fun _ => 0)), .inl (0, 3000, .inl (fun _ => 0)), .inr (0, [.ref 19, .ref 21, .ref 23, .ref 25, .ref 27, .int 0]), .inr (3, [.ref 20, .int 6, .int 400, .int 0]), .inl (0, 2400, .inl (fun _ => 0)), .inr (3, [.ref 22, .int 8, .int 800, .int 0]), .inl (0, 6400, .inl (fun _ => 0)), .inr (3, [.ref 24, .int 2, .int 2000, .int 0]), .inl (0, 4000, .inl (fun _ => 0)), .inr (3, [.ref 26, .int 2, .int 150, .int 0]), .inl (0, 300, .inl (fun _ => 0)), .inl (0, 3000, .inl (fun _ => 0)), .inr (2, [.ref 29]), .inl (0, 60, .inl (fun _ => 0)), .inr (4, [.null, .int 0, .null, .int 0, .int 0])] (zret none [.inr (6, [.ref 1, .ref 2, .ref 3, .ref 28, .null]), .inl (0, 20, .inl (fun _ => 0)), .inl (0, 16, .inl (fun _ => 0)), .inr (1, [.ref 4, .ref 8, .ref 18, .int 0, .int 0, .int 0, .int 0, .int 0, .int 0, .int 0, .int (-1)]), .inr (5, [.ref 5, .ref 6, .int 0, .int 0, .int 0, .int 0]), .inl (0, 3000, .inl (fun _ => 0)), .inr (3, [.ref 7, .int 3, .int 3001, .int 0]), .inl (0, 9003, .inl (fun _ => 0)), .inr (0, [.ref 9, .ref 11, .ref 13, .ref 15, .ref 17, .int 0]), .inr (3, [.ref 10, .int 6, .int 400, .int 0]), .inl (0, 2400, .inl (fun _ => 0)), .inr (3, [.ref 12, .int 8, .int 800, .int 0]), .inl (0, 6400, .inl (fun _ => 0)), .inr (3, [.ref 14, .int 2, .int 2000, .int 0]), .inl (0, 4000, .inl (fun _ => 0)), .inr (3, [.ref 16, .int 2, .int 150, .int 0]), .inl (0, 300, .inl (fun _ => 0)), .inl (0, 3000, .inl (fun _ => 0)), .inr (0, [.ref 19, .ref 21, .ref 23, .ref 25, .ref 27, .int 0]), .inr (3, [.ref 20, .int 6, .int 400, .int 0]), .inl (0, 2400, .inl (fun _ => 0)), .inr (3, [.ref 22, .int 8, .int 800, .int 0]), .inl (0, 6400, .inl (fun _ => 0)), .inr (3, [.ref 24, .int 2, .int 2000, .int 0]), .inl (0, 4000, .inl (fun _ => 0)), .inr (3, [.ref 26, .int 2, .int 150, .int 0]), .inl (0, 300, .inl (fun _ => 0)), .inl (0, 3000, .inl (fun _ => 0)), .inr (2, [.ref 29]), .inl (0, 60, .inl (fun _ => 0)), .inr (4, [.ref 31, .int 0, .ref 32, .int 0, .int 0]), .inl (0, 6000, .inl (fun _ => 0)), .inl (0, 60, .inl (fun _ => 0))]) := by
  refine zMet.ofW (by decide +kernel) (Nat.le_of_ble_eq_true rfl) ?_
  show zW g mX7_init d 2 6060 31 _ 0 0 _ [some (.ref 30)] [] 0
  refine z_aload_n dX7_init_0 rfl ?_
  refine z_objInit dX7_init_1 oX7_3 (Nat.le_of_ble_eq_true rfl) ?_
  refine z_aload_n dX7_init_4 rfl ?_
  refine z_sipush 6000 dX7_init_5 (by decide +kernel) ?_
  refine z_newa 6000 0 .int (6000, .inl (fun _ => 0)) dX7_init_8 rfl rfl (fun _ => rfl) (fun _ _ => rfl) ac_int (by decide) (by decide +kernel) (by decide) ⟨by rfl, by rfl, by rfl, by decide⟩ (by decide) (by decide) ?_
  refine z_putF dX7_init_10 fX7_11 wX7_0 rfl rfl (by rfl) (Nat.le_of_ble_eq_true rfl) (fun _ => rfl) (fun _ => rfl) rfl ?_
  refine z_aload_n dX7_init_13 rfl ?_
  refine z_bipush 60 dX7_init_14 (by decide +kernel) ?_
  refine z_newa 60 0 .int (60, .inl (fun _ => 0)) dX7_init_16 rfl rfl (fun _ => rfl) (fun _ _ => rfl) ac_int (by decide) (by decide +kernel) (by decide) ⟨by rfl, by rfl, by rfl, by decide⟩ (by decide) (by decide) ?_
  refine z_putF dX7_init_18 fX7_15 wX7_2 rfl rfl (by rfl) (Nat.le_of_ble_eq_true rfl) (fun _ => rfl) (fun _ => rfl) rfl ?_
  exact z_vret rfl dX7_init_21 (by decide) (by decide) ⟨rfl, rfl⟩
set_option maxHeartbeats 4000000 in
set_option maxRecDepth 100000 in
theorem i_UnitText {g : zGl} (hok : zGok g) (d : Nat) (hd : 3 ≤ d) : zMet g mX9_init d 32 50430 [.ref 0] [.inr (6, [.null, .null, .null, .null, .null])] (zret none [.inr (6, [.ref 1, .ref 2, .ref 3, .ref 28, .ref 30]), .inl (0, 20, .inl (fun _ => 0)), .inl (0, 16, .inl (fun _ => 0)), .inr (1, [.ref 4, .ref 8, .ref 18, .int 0, .int 0, .int 0, .int 0, .int 0, .int 0, .int 0, .int (-1)]), .inr (5, [.ref 5, .ref 6, .int 0, .int 0, .int 0, .int 0]), .inl (0, 3000, .inl (fun _ => 0)), .inr (3, [.ref 7, .int 3, .int 3001, .int 0]), .inl (0, 9003, .inl (fun _ => 0)), .inr (0, [.ref 9, .ref 11, .ref 13, .ref 15, .ref 17, .int 0]), .inr (3, [.ref 10, .int 6, .int 400, .int 0]), .inl (0, 2400, .inl (fun _ => 0)), .inr (3, [.ref 12, .int 8, .int 800, .int 0]), .inl (0, 6400, .inl (fun _ => 0)), .inr (3, [.ref 14, .int 2, .int 2000, .int 0]), .inl (0, 4000, .inl (fun _ => 0)), .inr (3, [.ref 16, .int 2, .int 150, .int 0]), .inl (0, 300, .inl (fun _ => 0)), .inl (0, 3000, .inl (fun _ => 0)), .inr (0, [.ref 19, .ref 21, .ref 23, .ref 25, .ref 27, .int 0]), .inr (3, [.ref 20, .int 6, .int 400, .int 0]), .inl (0, 2400, .inl (fun _ => 0)), .inr (3, [.ref 22, .int 8, .int 800, .int 0]), .inl (0, 6400, .inl (fun _ => 0)), .inr (3, [.ref 24, .int 2, .int 2000, .int 0]), .inl (0, 4000, .inl (fun _ => 0)), .inr (3, [.ref 26, .int 2, .int 150, .int 0]), .inl (0, 300, .inl (fun _ => 0)), .inl (0, 3000, .inl (fun _ => 0)), .inr (2, [.ref 29]), .inl (0, 60, .inl (fun _ => 0)), .inr (4, [.ref 31, .int 0, .ref 32, .int 0, .int 0]), .inl (0, 6000, .inl (fun _ => 0)), .inl (0, 60, .inl (fun _ => 0))]) := by
  refine zMet.ofW (by decide +kernel) (Nat.le_of_ble_eq_true rfl) ?_
  show zW g mX9_init d 32 50430 1 _ 0 0 _ [some (.ref 0)] [] 0
  refine z_aload_n dX9_init_0 rfl ?_
  refine z_objInit dX9_init_1 oX9_1 (Nat.le_of_ble_eq_true rfl) ?_
  refine z_aload_n dX9_init_4 rfl ?_
  refine z_bipush 20 dX9_init_5 (by decide +kernel) ?_
  refine z_newa 20 0 .int (20, .inl (fun _ => 0)) dX9_init_7 rfl rfl (fun _ => rfl) (fun _ _ => rfl) ac_int (by decide) (by decide +kernel) (by decide) ⟨by rfl, by rfl, by rfl, by decide⟩ (by decide) (by decide) ?_
  refine z_putF dX9_init_9 fX9_9 wX9_0 rfl rfl (by rfl) (Nat.le_of_ble_eq_true rfl) (fun _ => rfl) (fun _ => rfl) rfl ?_
  refine z_aload_n dX9_init_12 rfl ?_
  refine z_bipush 16 dX9_init_13 (by decide +kernel) ?_
  refine z_newa 16 0 .int (16, .inl (fun _ => 0)) dX9_init_15 rfl rfl (fun _ => rfl) (fun _ _ => rfl) ac_int (by decide) (by decide +kernel) (by decide) ⟨by rfl, by rfl, by rfl, by decide⟩ (by decide) (by decide) ?_
  refine z_putF dX9_init_17 fX9_13 wX9_1 rfl rfl (by rfl) (Nat.le_of_ble_eq_true rfl) (fun _ => rfl) (fun _ => rfl) rfl ?_
  refine z_aload_n dX9_init_20 rfl ?_
  refine z_new 11 dX9_init_21 nX9_16 rfl (fun _ => rfl) ⟨by rfl, by rfl, by rfl, by decide⟩ (by rfl) (by decide) (by decide) ?_
  refine z_dup dX9_init_24 rfl ?_
  refine z_callI hok dX9_init_25 kX9_18 (i_Reader hok (d - 1) (by omega)) (fun _ _ q => by cases q.1) rfl rfl (by omega) (Nat.le_of_ble_eq_true rfl) (by decide) (by decide) (fun v h' q => ?_)
  obtain ⟨q1, q2⟩ := q
  cases q1
  subst q2
  refine ⟨⟨by rfl, by rfl⟩, ?_⟩
  refine z_putF dX9_init_28 fX9_19 wX9_2 rfl rfl (by rfl) (Nat.le_of_ble_eq_true rfl) (fun _ => rfl) (fun _ => rfl) rfl ?_
  refine z_aload_n dX9_init_31 rfl ?_
  refine z_new 1 dX9_init_32 nX9_23 rfl (fun _ => rfl) ⟨by rfl, by rfl, by rfl, by decide⟩ (by rfl) (by decide) (by decide) ?_
  refine z_dup dX9_init_35 rfl ?_
  refine z_callI hok dX9_init_36 kX9_25 (i_Reckoner hok (d - 1)) (fun _ _ q => by cases q.1) rfl rfl (by omega) (Nat.le_of_ble_eq_true rfl) (by decide) (by decide) (fun v h' q => ?_)
  obtain ⟨q1, q2⟩ := q
  cases q1
  subst q2
  refine ⟨⟨by rfl, by rfl⟩, ?_⟩
  refine z_putF dX9_init_39 fX9_26 wX9_3 rfl rfl (by rfl) (Nat.le_of_ble_eq_true rfl) (fun _ => rfl) (fun _ => rfl) rfl ?_
  refine z_aload_n dX9_init_42 rfl ?_
  refine z_new 5 dX9_init_43 nX9_30 rfl (fun _ => rfl) ⟨by rfl, by rfl, by rfl, by decide⟩ (by rfl) (by decide) (by decide) ?_
  refine z_dup dX9_init_46 rfl ?_
  refine z_callI hok dX9_init_47 kX9_32 (i_Teller hok (d - 1)) (fun _ _ q => by cases q.1) rfl rfl (by omega) (Nat.le_of_ble_eq_true rfl) (by decide) (by decide) (fun v h' q => ?_)
  obtain ⟨q1, q2⟩ := q
  cases q1
  subst q2
  refine ⟨⟨by rfl, by rfl⟩, ?_⟩
  refine z_putF dX9_init_50 fX9_33 wX9_4 rfl rfl (by rfl) (Nat.le_of_ble_eq_true rfl) (fun _ => rfl) (fun _ => rfl) rfl ?_
  exact z_vret rfl dX9_init_53 (by decide) (by decide) ⟨rfl, rfl⟩
set_option maxHeartbeats 4000000 in
set_option maxRecDepth 100000 in
theorem i_Model {g : zGl} (hok : zGok g) (d : Nat)  : zMet g mX10_init d 16 80931 [.ref 33] [.inr (6, [.ref 1, .ref 2, .ref 3, .ref 28, .ref 30]), .inl (0, 20, .inl (fun _ => 0)), .inl (0, 16, .inl (fun _ => 0)), .inr (1, [.ref 4, .ref 8, .ref 18, .int 0, .int 0, .int 0, .int 0, .int 0, .int 0, .int 0, .int (-1)]), .inr (5, [.ref 5, .ref 6, .int 0, .int 0, .int 0, .int 0]), .inl (0, 3000, .inl (fun _ => 0)), .inr (3, [.ref 7, .int 3, .int 3001, .int 0]), .inl (0, 9003, .inl (fun _ => 0)), .inr (0, [.ref 9, .ref 11, .ref 13, .ref 15, .ref 17, .int 0]), .inr (3, [.ref 10, .int 6, .int 400, .int 0]), .inl (0, 2400, .inl (fun _ => 0)), .inr (3, [.ref 12, .int 8, .int 800, .int 0]), .inl (0, 6400, .inl (fun _ => 0)), .inr (3, [.ref 14, .int 2, .int 2000, .int 0]), .inl (0, 4000, .inl (fun _ => 0)), .inr (3, [.ref 16, .int 2, .int 150, .int 0]), .inl (0, 300, .inl (fun _ => 0)), .inl (0, 3000, .inl (fun _ => 0)), .inr (0, [.ref 19, .ref 21, .ref 23, .ref 25, .ref 27, .int 0]), .inr (3, [.ref 20, .int 6, .int 400, .int 0]), .inl (0, 2400, .inl (fun _ => 0)), .inr (3, [.ref 22, .int 8, .int 800, .int 0]), .inl (0, 6400, .inl (fun _ => 0)), .inr (3, [.ref 24, .int 2, .int 2000, .int 0]), .inl (0, 4000, .inl (fun _ => 0)), .inr (3, [.ref 26, .int 2, .int 150, .int 0]), .inl (0, 300, .inl (fun _ => 0)), .inl (0, 3000, .inl (fun _ => 0)), .inr (2, [.ref 29]), .inl (0, 60, .inl (fun _ => 0)), .inr (4, [.ref 31, .int 0, .ref 32, .int 0, .int 0]), .inl (0, 6000, .inl (fun _ => 0)), .inl (0, 60, .inl (fun _ => 0)), .inr (7, [.int 0, .null, .null, .int 0, .null, .null, .null, .null, .null, .null, .null, .int 0, .int 0, .int 0, .int 0, .int 0, .int 0, .int 0, .int 0, .int 0, .int 0, .int 0, .null, .int 0, .int 0, .int 0, .int 0, .int 0, .null, .int 0, .null, .null, .null, .null, .null, .int 0])] (zret none [.inr (6, [.ref 1, .ref 2, .ref 3, .ref 28, .ref 30]), .inl (0, 20, .inl (fun _ => 0)), .inl (0, 16, .inl (fun _ => 0)), .inr (1, [.ref 4, .ref 8, .ref 18, .int 0, .int 0, .int 0, .int 0, .int 0, .int 0, .int 0, .int (-1)]), .inr (5, [.ref 5, .ref 6, .int 0, .int 0, .int 0, .int 0]), .inl (0, 3000, .inl (fun _ => 0)), .inr (3, [.ref 7, .int 3, .int 3001, .int 0]), .inl (0, 9003, .inl (fun _ => 0)), .inr (0, [.ref 9, .ref 11, .ref 13, .ref 15, .ref 17, .int 0]), .inr (3, [.ref 10, .int 6, .int 400, .int 0]), .inl (0, 2400, .inl (fun _ => 0)), .inr (3, [.ref 12, .int 8, .int 800, .int 0]), .inl (0, 6400, .inl (fun _ => 0)), .inr (3, [.ref 14, .int 2, .int 2000, .int 0]), .inl (0, 4000, .inl (fun _ => 0)), .inr (3, [.ref 16, .int 2, .int 150, .int 0]), .inl (0, 300, .inl (fun _ => 0)), .inl (0, 3000, .inl (fun _ => 0)), .inr (0, [.ref 19, .ref 21, .ref 23, .ref 25, .ref 27, .int 0]), .inr (3, [.ref 20, .int 6, .int 400, .int 0]), .inl (0, 2400, .inl (fun _ => 0)), .inr (3, [.ref 22, .int 8, .int 800, .int 0]), .inl (0, 6400, .inl (fun _ => 0)), .inr (3, [.ref 24, .int 2, .int 2000, .int 0]), .inl (0, 4000, .inl (fun _ => 0)), .inr (3, [.ref 26, .int 2, .int 150, .int 0]), .inl (0, 300, .inl (fun _ => 0)), .inl (0, 3000, .inl (fun _ => 0)), .inr (2, [.ref 29]), .inl (0, 60, .inl (fun _ => 0)), .inr (4, [.ref 31, .int 0, .ref 32, .int 0, .int 0]), .inl (0, 6000, .inl (fun _ => 0)), .inl (0, 60, .inl (fun _ => 0)), .inr (7, [.int 0, .ref 34, .ref 35, .int 0, .ref 36, .ref 37, .ref 38, .ref 39, .ref 40, .ref 41, .ref 42, .int 0, .int 0, .int 0, .int (-1), .int 0, .int 0, .int 0, .int 0, .int 0, .int 0, .int 0, .ref 43, .int 0, .int 0, .int 0, .int 0, .int 0, .ref 44, .int 0, .ref 45, .ref 46, .ref 47, .ref 48, .ref 49, .int 0]), .inl (0, 20, .inl (fun _ => 0)), .inl (0, 3000, .inl (fun _ => 0)), .inl (0, 8, .inl (fun _ => 0)), .inl (0, 4800, .inl (fun _ => 0)), .inl (0, 11200, .inl (fun _ => 0)), .inl (0, 8000, .inl (fun _ => 0)), .inl (0, 4800, .inl (fun _ => 0)), .inl (0, 300, .inl (fun _ => 0)), .inl (0, 6000, .inl (fun _ => 0)), .inl (0, 2100, .inl (fun _ => 0)), .inl (0, 24000, .inl (fun _ => 0)), .inl (0, 2001, .inl (fun _ => 0)), .inl (0, 8100, .inl (fun _ => 0)), .inl (0, 2001, .inl (fun _ => 0)), .inl (0, 3001, .inl (fun _ => 0)), .inl (0, 1600, .inl (fun _ => 0))]) := by
  refine zMet.ofW (by decide +kernel) (Nat.le_of_ble_eq_true rfl) ?_
  show zW g mX10_init d 16 80931 34 _ 0 0 _ [some (.ref 33)] [] 0
  refine z_aload_n dX10_init_0 rfl ?_
  refine z_objInit dX10_init_1 oX10_1 (Nat.le_of_ble_eq_true rfl) ?_
  refine z_aload_n dX10_init_4 rfl ?_
  refine z_bipush 20 dX10_init_5 (by decide +kernel) ?_
  refine z_newa 20 0 .int (20, .inl (fun _ => 0)) dX10_init_7 rfl rfl (fun _ => rfl) (fun _ _ => rfl) ac_int (by decide) (by decide +kernel) (by decide) ⟨by rfl, by rfl, by rfl, by decide⟩ (by decide) (by decide) ?_
  refine z_putF dX10_init_9 fX10_7 wX10_1 rfl rfl (by rfl) (Nat.le_of_ble_eq_true rfl) (fun _ => rfl) (fun _ => rfl) rfl ?_
  refine z_aload_n dX10_init_12 rfl ?_
  refine z_sipush 3000 dX10_init_13 (by decide +kernel) ?_
  refine z_newa 3000 0 .int (3000, .inl (fun _ => 0)) dX10_init_16 rfl rfl (fun _ => rfl) (fun _ _ => rfl) ac_int (by decide) (by decide +kernel) (by decide) ⟨by rfl, by rfl, by rfl, by decide⟩ (by decide) (by decide) ?_
  refine z_putF dX10_init_18 fX10_13 wX10_2 rfl rfl (by rfl) (Nat.le_of_ble_eq_true rfl) (fun _ => rfl) (fun _ => rfl) rfl ?_
  refine z_aload_n dX10_init_21 rfl ?_
  refine z_bipush 8 dX10_init_22 (by decide +kernel) ?_
  refine z_newa 8 0 .int (8, .inl (fun _ => 0)) dX10_init_24 rfl rfl (fun _ => rfl) (fun _ _ => rfl) ac_int (by decide) (by decide +kernel) (by decide) ⟨by rfl, by rfl, by rfl, by decide⟩ (by decide) (by decide) ?_
  refine z_putF dX10_init_26 fX10_16 wX10_4 rfl rfl (by rfl) (Nat.le_of_ble_eq_true rfl) (fun _ => rfl) (fun _ => rfl) rfl ?_
  refine z_aload_n dX10_init_29 rfl ?_
  refine z_sipush 4800 dX10_init_30 (by decide +kernel) ?_
  refine z_newa 4800 0 .int (4800, .inl (fun _ => 0)) dX10_init_33 rfl rfl (fun _ => rfl) (fun _ _ => rfl) ac_int (by decide) (by decide +kernel) (by decide) ⟨by rfl, by rfl, by rfl, by decide⟩ (by decide) (by decide) ?_
  refine z_putF dX10_init_35 fX10_19 wX10_5 rfl rfl (by rfl) (Nat.le_of_ble_eq_true rfl) (fun _ => rfl) (fun _ => rfl) rfl ?_
  refine z_aload_n dX10_init_38 rfl ?_
  refine z_sipush 11200 dX10_init_39 (by decide +kernel) ?_
  refine z_newa 11200 0 .int (11200, .inl (fun _ => 0)) dX10_init_42 rfl rfl (fun _ => rfl) (fun _ _ => rfl) ac_int (by decide) (by decide +kernel) (by decide) ⟨by rfl, by rfl, by rfl, by decide⟩ (by decide) (by decide) ?_
  refine z_putF dX10_init_44 fX10_22 wX10_6 rfl rfl (by rfl) (Nat.le_of_ble_eq_true rfl) (fun _ => rfl) (fun _ => rfl) rfl ?_
  refine z_aload_n dX10_init_47 rfl ?_
  refine z_sipush 8000 dX10_init_48 (by decide +kernel) ?_
  refine z_newa 8000 0 .int (8000, .inl (fun _ => 0)) dX10_init_51 rfl rfl (fun _ => rfl) (fun _ _ => rfl) ac_int (by decide) (by decide +kernel) (by decide) ⟨by rfl, by rfl, by rfl, by decide⟩ (by decide) (by decide) ?_
  refine z_putF dX10_init_53 fX10_25 wX10_7 rfl rfl (by rfl) (Nat.le_of_ble_eq_true rfl) (fun _ => rfl) (fun _ => rfl) rfl ?_
  refine z_aload_n dX10_init_56 rfl ?_
  refine z_sipush 4800 dX10_init_57 (by decide +kernel) ?_
  refine z_newa 4800 0 .int (4800, .inl (fun _ => 0)) dX10_init_60 rfl rfl (fun _ => rfl) (fun _ _ => rfl) ac_int (by decide) (by decide +kernel) (by decide) ⟨by rfl, by rfl, by rfl, by decide⟩ (by decide) (by decide) ?_
  refine z_putF dX10_init_62 fX10_28 wX10_8 rfl rfl (by rfl) (Nat.le_of_ble_eq_true rfl) (fun _ => rfl) (fun _ => rfl) rfl ?_
  refine z_aload_n dX10_init_65 rfl ?_
  refine z_sipush 300 dX10_init_66 (by decide +kernel) ?_
  refine z_newa 300 0 .int (300, .inl (fun _ => 0)) dX10_init_69 rfl rfl (fun _ => rfl) (fun _ _ => rfl) ac_int (by decide) (by decide +kernel) (by decide) ⟨by rfl, by rfl, by rfl, by decide⟩ (by decide) (by decide) ?_
  refine z_putF dX10_init_71 fX10_31 wX10_9 rfl rfl (by rfl) (Nat.le_of_ble_eq_true rfl) (fun _ => rfl) (fun _ => rfl) rfl ?_
  refine z_aload_n dX10_init_74 rfl ?_
  refine z_sipush 6000 dX10_init_75 (by decide +kernel) ?_
  refine z_newa 6000 0 .int (6000, .inl (fun _ => 0)) dX10_init_78 rfl rfl (fun _ => rfl) (fun _ _ => rfl) ac_int (by decide) (by decide +kernel) (by decide) ⟨by rfl, by rfl, by rfl, by decide⟩ (by decide) (by decide) ?_
  refine z_putF dX10_init_80 fX10_34 wX10_10 rfl rfl (by rfl) (Nat.le_of_ble_eq_true rfl) (fun _ => rfl) (fun _ => rfl) rfl ?_
  refine z_aload_n dX10_init_83 rfl ?_
  refine z_iconst (-1) dX10_init_84 (by decide +kernel) ?_
  refine z_putf dX10_init_85 fX10_37 wX10_14 (by rfl) (Nat.le_of_ble_eq_true rfl) (fun _ => rfl) (fun _ => rfl) rfl ?_
  refine z_aload_n dX10_init_88 rfl ?_
  refine z_sipush 2100 dX10_init_89 (by decide +kernel) ?_
  refine z_newa 2100 0 .int (2100, .inl (fun _ => 0)) dX10_init_92 rfl rfl (fun _ => rfl) (fun _ _ => rfl) ac_int (by decide) (by decide +kernel) (by decide) ⟨by rfl, by rfl, by rfl, by decide⟩ (by decide) (by decide) ?_
  refine z_putF dX10_init_94 fX10_41 wX10_22 rfl rfl (by rfl) (Nat.le_of_ble_eq_true rfl) (fun _ => rfl) (fun _ => rfl) rfl ?_
  refine z_aload_n dX10_init_97 rfl ?_
  refine z_sipush 24000 dX10_init_98 (by decide +kernel) ?_
  refine z_newa 24000 0 .int (24000, .inl (fun _ => 0)) dX10_init_101 rfl rfl (fun _ => rfl) (fun _ _ => rfl) ac_int (by decide) (by decide +kernel) (by decide) ⟨by rfl, by rfl, by rfl, by decide⟩ (by decide) (by decide) ?_
  refine z_putF dX10_init_103 fX10_44 wX10_28 rfl rfl (by rfl) (Nat.le_of_ble_eq_true rfl) (fun _ => rfl) (fun _ => rfl) rfl ?_
  refine z_aload_n dX10_init_106 rfl ?_
  refine z_sipush 2001 dX10_init_107 (by decide +kernel) ?_
  refine z_newa 2001 0 .int (2001, .inl (fun _ => 0)) dX10_init_110 rfl rfl (fun _ => rfl) (fun _ _ => rfl) ac_int (by decide) (by decide +kernel) (by decide) ⟨by rfl, by rfl, by rfl, by decide⟩ (by decide) (by decide) ?_
  refine z_putF dX10_init_112 fX10_47 wX10_30 rfl rfl (by rfl) (Nat.le_of_ble_eq_true rfl) (fun _ => rfl) (fun _ => rfl) rfl ?_
  refine z_aload_n dX10_init_115 rfl ?_
  refine z_sipush 8100 dX10_init_116 (by decide +kernel) ?_
  refine z_newa 8100 0 .int (8100, .inl (fun _ => 0)) dX10_init_119 rfl rfl (fun _ => rfl) (fun _ _ => rfl) ac_int (by decide) (by decide +kernel) (by decide) ⟨by rfl, by rfl, by rfl, by decide⟩ (by decide) (by decide) ?_
  refine z_putF dX10_init_121 fX10_50 wX10_31 rfl rfl (by rfl) (Nat.le_of_ble_eq_true rfl) (fun _ => rfl) (fun _ => rfl) rfl ?_
  refine z_aload_n dX10_init_124 rfl ?_
  refine z_sipush 2001 dX10_init_125 (by decide +kernel) ?_
  refine z_newa 2001 0 .int (2001, .inl (fun _ => 0)) dX10_init_128 rfl rfl (fun _ => rfl) (fun _ _ => rfl) ac_int (by decide) (by decide +kernel) (by decide) ⟨by rfl, by rfl, by rfl, by decide⟩ (by decide) (by decide) ?_
  refine z_putF dX10_init_130 fX10_53 wX10_32 rfl rfl (by rfl) (Nat.le_of_ble_eq_true rfl) (fun _ => rfl) (fun _ => rfl) rfl ?_
  refine z_aload_n dX10_init_133 rfl ?_
  refine z_sipush 3001 dX10_init_134 (by decide +kernel) ?_
  refine z_newa 3001 0 .int (3001, .inl (fun _ => 0)) dX10_init_137 rfl rfl (fun _ => rfl) (fun _ _ => rfl) ac_int (by decide) (by decide +kernel) (by decide) ⟨by rfl, by rfl, by rfl, by decide⟩ (by decide) (by decide) ?_
  refine z_putF dX10_init_139 fX10_56 wX10_33 rfl rfl (by rfl) (Nat.le_of_ble_eq_true rfl) (fun _ => rfl) (fun _ => rfl) rfl ?_
  refine z_aload_n dX10_init_142 rfl ?_
  refine z_sipush 1600 dX10_init_143 (by decide +kernel) ?_
  refine z_newa 1600 0 .int (1600, .inl (fun _ => 0)) dX10_init_146 rfl rfl (fun _ => rfl) (fun _ _ => rfl) ac_int (by decide) (by decide +kernel) (by decide) ⟨by rfl, by rfl, by rfl, by decide⟩ (by decide) (by decide) ?_
  refine z_putF dX10_init_148 fX10_59 wX10_34 rfl rfl (by rfl) (Nat.le_of_ble_eq_true rfl) (fun _ => rfl) (fun _ => rfl) rfl ?_
  exact z_vret rfl dX10_init_151 (by decide) (by decide) ⟨rfl, rfl⟩
