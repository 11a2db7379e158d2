noncomputable def fX10_isSign (N : Nat) (p0 : Int32) (s : zS) : Option (Int32 × zS) := if (s.1 3315) = 5 then if (s.1 3316) = p0 then some (1, s) else some (0, s) else some (0, s)
set_option maxHeartbeats 400000 in
set_option maxRecDepth 100000 in
theorem tX10_isSign {g : zGl} (hok : zGok g) (d : Nat)  (N : Nat) (p0 : Int32)  {s s' : zS} {w : Int32} (hf : fX10_isSign N p0 s = some (w, s')) : zMet g mX10_isSign d 0 0 [.ref 33, .int p0] (zHp s) (zret (some (.int w)) (zHp s')) := by
  refine zMet.ofW (by decide +kernel) (Nat.le_of_ble_eq_true rfl) ?_
  show zW g mX10_isSign d 0 0 51 _ 0 0 (zHp s) [some (.ref 33), some (.int p0)] [] 0
  unfold fX10_isSign at hf
  refine z_aload_n dX10_isSign_0 rfl ?_
  refine z_getf dX10_isSign_1 fX10_79 (at_Model s) rfl ?_
  refine z_iconst 5 dX10_isSign_4 (by decide +kernel) ?_
  refine z_icmp_ne 20 dX10_isSign_5 (by decide) (fun c5 => ?_) (fun c5 => ?_)
  · have hf := zifn hf c5
    refine z_iconst 0 dX10_isSign_20 (by decide +kernel) ?_
    cases hf
    exact z_zret rfl (by decide) dX10_isSign_21 (Nat.zero_le _) (Nat.zero_le _) ⟨rfl, rfl⟩
  · have hf := zifp hf c5
    refine z_aload_n dX10_isSign_8 rfl ?_
    refine z_getf dX10_isSign_9 fX10_82 (at_Model s) rfl ?_
    refine z_iload_n dX10_isSign_12 rfl ?_
    refine z_icmp_ne 20 dX10_isSign_13 (by decide) (fun c13 => ?_) (fun c13 => ?_)
    · have hf := zifn hf c13
      refine z_iconst 0 dX10_isSign_20 (by decide +kernel) ?_
      cases hf
      exact z_zret rfl (by decide) dX10_isSign_21 (Nat.zero_le _) (Nat.zero_le _) ⟨rfl, rfl⟩
    · have hf := zifp hf c13
      refine z_iconst 1 dX10_isSign_16 (by decide +kernel) ?_
      refine z_goto 21 dX10_isSign_17 (by decide) ?_
      cases hf
      exact z_zret rfl (by decide) dX10_isSign_21 (Nat.zero_le _) (Nat.zero_le _) ⟨rfl, rfl⟩

noncomputable def fX10_isBase_J49 (N : Nat)  (v1 : Int32) (v2 : Int32) (v3 : Int32) (v4 : Int32) (k0 : Int32) (s : zS) : Option (Int32 × zS) := if zbo k0 = true then some (k0, (zsc (zsc (zsc (zsc s 3315 v1) 3316 v2) 3317 v3) 3318 v4)) else none
set_option maxHeartbeats 400000 in
set_option maxRecDepth 100000 in
theorem tX10_isBase_J49 {g : zGl} (hok : zGok g) (d : Nat) (hd : 4 ≤ d) (N : Nat)   {mc ms n0 : Nat} (v1 : Int32) (v2 : Int32) (v3 : Int32) (v4 : Int32) (k0 : Int32) {s s' : zS} {w : Int32} (hf : fX10_isBase_J49 N  v1 v2 v3 v4 k0 s = some (w, s')) : zW g mX10_isBase d mc ms n0 (zret (some (.int w)) (zHp s')) 0 0 (zHp s) [some (.ref 33), some (.int v1), some (.int v2), some (.int v3), some (.int v4), none] [.int k0] 49 := by
  unfold fX10_isBase_J49 at hf
  refine z_istore (ls' := [_, _, _, _, _, _]) dX10_isBase_49 (by decide) rfl ?_
  refine z_aload_n dX10_isBase_51 rfl ?_
  refine z_iload_n dX10_isBase_52 rfl ?_
  refine z_putf dX10_isBase_53 fX10_79 wX10_15 (at_Model s) (Nat.le_of_ble_eq_true rfl) (fun _ => rfl) (fun _ => rfl) (st_Model_15 s v1) ?_
  refine z_aload_n dX10_isBase_56 rfl ?_
  refine z_iload_n dX10_isBase_57 rfl ?_
  refine z_putf dX10_isBase_58 fX10_82 wX10_16 (at_Model (zsc s 3315 v1)) (Nat.le_of_ble_eq_true rfl) (fun _ => rfl) (fun _ => rfl) (st_Model_16 (zsc s 3315 v1) v2) ?_
  refine z_aload_n dX10_isBase_61 rfl ?_
  refine z_iload_n dX10_isBase_62 rfl ?_
  refine z_putf dX10_isBase_63 fX10_85 wX10_17 (at_Model (zsc (zsc s 3315 v1) 3316 v2)) (Nat.le_of_ble_eq_true rfl) (fun _ => rfl) (fun _ => rfl) (st_Model_17 (zsc (zsc s 3315 v1) 3316 v2) v3) ?_
  refine z_aload_n dX10_isBase_66 rfl ?_
  refine z_iload dX10_isBase_67 rfl ?_
  refine z_putf dX10_isBase_69 fX10_88 wX10_18 (at_Model (zsc (zsc (zsc s 3315 v1) 3316 v2) 3317 v3)) (Nat.le_of_ble_eq_true rfl) (fun _ => rfl) (fun _ => rfl) (st_Model_18 (zsc (zsc (zsc s 3315 v1) 3316 v2) 3317 v3) v4) ?_
  refine z_iload dX10_isBase_72 rfl ?_
  obtain ⟨bo10, hf⟩ := zifs hf
  cases hf
  exact z_zret rfl (zbo_n bo10) dX10_isBase_74 (Nat.zero_le _) (Nat.zero_le _) ⟨rfl, rfl⟩
noncomputable def fX10_isBase (N : Nat)  (s : zS) : Option (Int32 × zS) := zbn (fX10_isSign N 40 s) (fun x1 s2 => if x1 = 0 then some (0, s2) else zbn (fX10_next N  s2) (fun x4 s5 => zbn (fX10_register N  s5) (fun x7 s8 => if x7 = (-1) then fX10_isBase_J49 N  (s2.1 3315) (s2.1 3316) (s2.1 3317) (s2.1 3318) 0 s8 else fX10_isBase_J49 N  (s2.1 3315) (s2.1 3316) (s2.1 3317) (s2.1 3318) 1 s8)))
set_option maxHeartbeats 400000 in
set_option maxRecDepth 100000 in
theorem tX10_isBase {g : zGl} (hok : zGok g) (d : Nat) (hd : 4 ≤ d) (N : Nat)   {s s' : zS} {w : Int32} (hf : fX10_isBase N  s = some (w, s')) : zMet g mX10_isBase d 0 0 [.ref 33] (zHp s) (zret (some (.int w)) (zHp s')) := by
  refine zMet.ofW (by decide +kernel) (Nat.le_of_ble_eq_true rfl) ?_
  show zW g mX10_isBase d 0 0 51 _ 0 0 (zHp s) [some (.ref 33), none, none, none, none, none] [] 0
  unfold fX10_isBase at hf
  refine z_aload_n dX10_isBase_0 rfl ?_
  refine z_bipush 40 dX10_isBase_1 (by decide +kernel) ?_
  obtain ⟨x1, s2, q3, hf⟩ := zbn_of hf
  refine z_cV (as := [_]) hok dX10_isBase_3 kX10_167 (tX10_isSign hok (d - 1) N 40  q3) rfl (at_Model s) rfl rfl (by omega) (Nat.le_of_ble_eq_true rfl) (Nat.zero_le _) (Nat.zero_le _) rfl ?_
  refine z_if_ne 11 dX10_isBase_6 (by decide) (fun c6 => ?_) (fun c6 => ?_)
  · have hf := zifn hf c6
    refine z_aload_n dX10_isBase_11 rfl ?_
    refine z_getf dX10_isBase_12 fX10_79 (at_Model s2) rfl ?_
    refine z_istore_n (ls' := [_, _, _, _, _, _]) dX10_isBase_15 (by decide) rfl ?_
    refine z_aload_n dX10_isBase_16 rfl ?_
    refine z_getf dX10_isBase_17 fX10_82 (at_Model s2) rfl ?_
    refine z_istore_n (ls' := [_, _, _, _, _, _]) dX10_isBase_20 (by decide) rfl ?_
    refine z_aload_n dX10_isBase_21 rfl ?_
    refine z_getf dX10_isBase_22 fX10_85 (at_Model s2) rfl ?_
    refine z_istore_n (ls' := [_, _, _, _, _, _]) dX10_isBase_25 (by decide) rfl ?_
    refine z_aload_n dX10_isBase_26 rfl ?_
    refine z_getf dX10_isBase_27 fX10_88 (at_Model s2) rfl ?_
    refine z_istore (ls' := [_, _, _, _, _, _]) dX10_isBase_30 (by decide) rfl ?_
    refine z_aload_n dX10_isBase_32 rfl ?_
    obtain ⟨x4, s5, q6, hf⟩ := zbn_of hf
    refine z_cV (as := []) hok dX10_isBase_33 kX10_177 (tX10_next hok (d - 1) (by omega) N   q6) rfl (at_Model s2) rfl rfl (by omega) (Nat.le_of_ble_eq_true rfl) (Nat.zero_le _) (Nat.zero_le _) rfl ?_
    refine z_aload_n dX10_isBase_36 rfl ?_
    obtain ⟨x7, s8, q9, hf⟩ := zbn_of hf
    refine z_cV (as := []) hok dX10_isBase_37 kX10_170 (tX10_register hok (d - 1) (by omega) N   q9) rfl (at_Model s5) rfl rfl (by omega) (Nat.le_of_ble_eq_true rfl) (Nat.zero_le _) (Nat.zero_le _) rfl ?_
    refine z_iconst (-1) dX10_isBase_40 (by decide +kernel) ?_
    refine z_icmp_eq 48 dX10_isBase_41 (by decide) (fun c41 => ?_) (fun c41 => ?_)
    · have hf := zifp hf c41
      refine z_iconst 0 dX10_isBase_48 (by decide +kernel) ?_
      refine z_mask (ls' := [_, _, _, _, _, _]) [true, true, true, true, true, false] rfl ?_
      exact tX10_isBase_J49 hok d (by omega) N   (s2.1 3315) (s2.1 3316) (s2.1 3317) (s2.1 3318) 0 hf
    · have hf := zifn hf c41
      refine z_iconst 1 dX10_isBase_44 (by decide +kernel) ?_
      refine z_goto 49 dX10_isBase_45 (by decide) ?_
      refine z_mask (ls' := [_, _, _, _, _, _]) [true, true, true, true, true, false] rfl ?_
      exact tX10_isBase_J49 hok d (by omega) N   (s2.1 3315) (s2.1 3316) (s2.1 3317) (s2.1 3318) 1 hf
  · have hf := zifp hf c6
    refine z_iconst 0 dX10_isBase_9 (by decide +kernel) ?_
    cases hf
    exact z_zret rfl (by decide) dX10_isBase_10 (Nat.zero_le _) (Nat.zero_le _) ⟨rfl, rfl⟩

noncomputable def fX10_tally (N : Nat)  (s : zS) : Option (Int32 × zS) := if (s.1 3324) = 2000 then zbn (fX10_fail N 8 s) (fun x1 s2 => if zbo x1 = true then some (x1, s2) else none) else if (s.1 3325) = 60 then zbn (fX10_fail N 8 s) (fun x5 s6 => if zbo x5 = true then some (x5, s6) else none) else some (1, (zsc (zsc s 3324 ((s.1 3324) + 1)) 3325 ((s.1 3325) + 1)))
set_option maxHeartbeats 400000 in
set_option maxRecDepth 100000 in
theorem tX10_tally {g : zGl} (hok : zGok g) (d : Nat) (hd : 1 ≤ d) (N : Nat)   {s s' : zS} {w : Int32} (hf : fX10_tally N  s = some (w, s')) : zMet g mX10_tally d 0 0 [.ref 33] (zHp s) (zret (some (.int w)) (zHp s')) := by
  refine zMet.ofW (by decide +kernel) (Nat.le_of_ble_eq_true rfl) ?_
  show zW g mX10_tally d 0 0 51 _ 0 0 (zHp s) [some (.ref 33)] [] 0
  unfold fX10_tally at hf
  refine z_aload_n dX10_tally_0 rfl ?_
  refine z_getf dX10_tally_1 fX10_146 (at_Model s) rfl ?_
  refine z_sipush 2000 dX10_tally_4 (by decide +kernel) ?_
  refine z_icmp_eq 19 dX10_tally_7 (by decide) (fun c7 => ?_) (fun c7 => ?_)
  · have hf := zifp hf c7
    refine z_aload_n dX10_tally_19 rfl ?_
    refine z_bipush 8 dX10_tally_20 (by decide +kernel) ?_
    obtain ⟨x1, s2, q3, hf⟩ := zbn_of hf
    refine z_cV (as := [_]) hok dX10_tally_22 kX10_152 (tX10_fail hok (d - 1) N 8  q3) rfl (at_Model s) rfl rfl (by omega) (Nat.le_of_ble_eq_true rfl) (Nat.zero_le _) (Nat.zero_le _) rfl ?_
    obtain ⟨bo4, hf⟩ := zifs hf
    cases hf
    exact z_zret rfl (zbo_n bo4) dX10_tally_25 (Nat.zero_le _) (Nat.zero_le _) ⟨rfl, rfl⟩
  · have hf := zifn hf c7
    refine z_aload_n dX10_tally_10 rfl ?_
    refine z_getf dX10_tally_11 fX10_149 (at_Model s) rfl ?_
    refine z_bipush 60 dX10_tally_14 (by decide +kernel) ?_
    refine z_icmp_ne 26 dX10_tally_16 (by decide) (fun c16 => ?_) (fun c16 => ?_)
    · have hf := zifn hf c16
      refine z_aload_n dX10_tally_26 rfl ?_
      refine z_dup dX10_tally_27 rfl ?_
      refine z_getf dX10_tally_28 fX10_146 (at_Model s) rfl ?_
      refine z_iconst 1 dX10_tally_31 (by decide +kernel) ?_
      refine z_iadd dX10_tally_32 ?_
      refine z_putf dX10_tally_33 fX10_146 wX10_24 (at_Model s) (Nat.le_of_ble_eq_true rfl) (fun _ => rfl) (fun _ => rfl) (st_Model_24 s ((s.1 3324) + 1)) ?_
      refine z_aload_n dX10_tally_36 rfl ?_
      refine z_dup dX10_tally_37 rfl ?_
      refine z_getf dX10_tally_38 fX10_149 (at_Model (zsc s 3324 ((s.1 3324) + 1))) rfl ?_
      refine z_iconst 1 dX10_tally_41 (by decide +kernel) ?_
      refine z_iadd dX10_tally_42 ?_
      refine z_putf dX10_tally_43 fX10_149 wX10_25 (at_Model (zsc s 3324 ((s.1 3324) + 1))) (Nat.le_of_ble_eq_true rfl) (fun _ => rfl) (fun _ => rfl) (st_Model_25 (zsc s 3324 ((s.1 3324) + 1)) ((s.1 3325) + 1)) ?_
      refine z_iconst 1 dX10_tally_46 (by decide +kernel) ?_
      cases hf
      exact z_zret rfl (by decide) dX10_tally_47 (Nat.zero_le _) (Nat.zero_le _) ⟨rfl, rfl⟩
    · have hf := zifp hf c16
      refine z_aload_n dX10_tally_19 rfl ?_
      refine z_bipush 8 dX10_tally_20 (by decide +kernel) ?_
      obtain ⟨x5, s6, q7, hf⟩ := zbn_of hf
      refine z_cV (as := [_]) hok dX10_tally_22 kX10_152 (tX10_fail hok (d - 1) N 8  q7) rfl (at_Model s) rfl rfl (by omega) (Nat.le_of_ble_eq_true rfl) (Nat.zero_le _) (Nat.zero_le _) rfl ?_
      obtain ⟨bo8, hf⟩ := zifs hf
      cases hf
      exact z_zret rfl (zbo_n bo8) dX10_tally_25 (Nat.zero_le _) (Nat.zero_le _) ⟨rfl, rfl⟩

noncomputable def fX10_emit (N : Nat) (p0 : Int32) (p1 : Int32) (s : zS) : Option (Unit × zS) := if zga 2 (zlen 36) = true then if zga (2 * (s.2.1 36 (2 : Int32).toNatClampNeg)) (zlen 39) = true then if zga ((2 * (s.2.1 36 (2 : Int32).toNatClampNeg)) + 1) (zlen 39) = true then if zga 2 (zlen 36) = true then if zga 2 (zlen 36) = true then some ((), (zsr (zsr (zsr s 39 (2 * (s.2.1 36 (2 : Int32).toNatClampNeg)) p0) 39 ((2 * (s.2.1 36 (2 : Int32).toNatClampNeg)) + 1) p1) 36 2 ((s.2.1 36 (2 : Int32).toNatClampNeg) + 1))) else none else none else none else none else none
set_option maxHeartbeats 400000 in
set_option maxRecDepth 100000 in
theorem tX10_emit {g : zGl} (hok : zGok g) (d : Nat)  (N : Nat) (p0 : Int32) (p1 : Int32)  {s s' : zS} {w : Unit} (hf : fX10_emit N p0 p1 s = some (w, s')) : zMet g mX10_emit d 0 0 [.ref 33, .int p0, .int p1] (zHp s) (zret none (zHp s')) := by
  refine zMet.ofW (by decide +kernel) (Nat.le_of_ble_eq_true rfl) ?_
  show zW g mX10_emit d 0 0 51 _ 0 0 (zHp s) [some (.ref 33), some (.int p0), some (.int p1), none] [] 0
  unfold fX10_emit at hf
  refine z_iconst 2 dX10_emit_0 (by decide +kernel) ?_
  refine z_aload_n dX10_emit_1 rfl ?_
  refine z_getf dX10_emit_2 fX10_16 (at_Model s) rfl ?_
  refine z_iconst 2 dX10_emit_5 (by decide +kernel) ?_
  obtain ⟨hi1, hf⟩ := zifs hf
  refine z_iald dX10_emit_6 (at_arr s 36 (by decide)) (zga_in hi1) ?_
  refine z_imul dX10_emit_7 ?_
  refine z_istore_n (ls' := [_, _, _, _]) dX10_emit_8 (by decide) rfl ?_
  refine z_aload_n dX10_emit_9 rfl ?_
  refine z_getf dX10_emit_10 fX10_25 (at_Model s) rfl ?_
  refine z_iload_n dX10_emit_13 rfl ?_
  refine z_iload_n dX10_emit_14 rfl ?_
  obtain ⟨hi2, hf⟩ := zifs hf
  refine z_iastore dX10_emit_15 (at_arr s 39 (by decide)) (zga_in hi2) (st_arr s 39 (by decide) (2 * (s.2.1 36 (2 : Int32).toNatClampNeg)) p0) ?_
  refine z_aload_n dX10_emit_16 rfl ?_
  refine z_getf dX10_emit_17 fX10_25 (at_Model (zsr s 39 (2 * (s.2.1 36 (2 : Int32).toNatClampNeg)) p0)) rfl ?_
  refine z_iload_n dX10_emit_20 rfl ?_
  refine z_iconst 1 dX10_emit_21 (by decide +kernel) ?_
  refine z_iadd dX10_emit_22 ?_
  refine z_iload_n dX10_emit_23 rfl ?_
  obtain ⟨hi3, hf⟩ := zifs hf
  refine z_iastore dX10_emit_24 (at_arr (zsr s 39 (2 * (s.2.1 36 (2 : Int32).toNatClampNeg)) p0) 39 (by decide)) (zga_in hi3) (st_arr (zsr s 39 (2 * (s.2.1 36 (2 : Int32).toNatClampNeg)) p0) 39 (by decide) ((2 * (s.2.1 36 (2 : Int32).toNatClampNeg)) + 1) p1) ?_
  refine z_aload_n dX10_emit_25 rfl ?_
  refine z_getf dX10_emit_26 fX10_16 (at_Model (zsr (zsr s 39 (2 * (s.2.1 36 (2 : Int32).toNatClampNeg)) p0) 39 ((2 * (s.2.1 36 (2 : Int32).toNatClampNeg)) + 1) p1)) rfl ?_
  refine z_iconst 2 dX10_emit_29 (by decide +kernel) ?_
  refine z_dup2_11 dX10_emit_30 rfl rfl ?_
  obtain ⟨hi4, hf⟩ := zifs hf
  refine z_iald dX10_emit_31 (at_arr (zsr (zsr s 39 (2 * (s.2.1 36 (2 : Int32).toNatClampNeg)) p0) 39 ((2 * (s.2.1 36 (2 : Int32).toNatClampNeg)) + 1) p1) 36 (by decide)) (zga_in hi4) ?_
  refine z_iconst 1 dX10_emit_32 (by decide +kernel) ?_
  refine z_iadd dX10_emit_33 ?_
  obtain ⟨hi5, hf⟩ := zifs hf
  refine z_iastore dX10_emit_34 (at_arr (zsr (zsr s 39 (2 * (s.2.1 36 (2 : Int32).toNatClampNeg)) p0) 39 ((2 * (s.2.1 36 (2 : Int32).toNatClampNeg)) + 1) p1) 36 (by decide)) (zga_in hi5) (st_arr (zsr (zsr s 39 (2 * (s.2.1 36 (2 : Int32).toNatClampNeg)) p0) 39 ((2 * (s.2.1 36 (2 : Int32).toNatClampNeg)) + 1) p1) 36 (by decide) 2 ((s.2.1 36 (2 : Int32).toNatClampNeg) + 1)) ?_
  cases hf
  exact z_vret rfl dX10_emit_35 (Nat.zero_le _) (Nat.zero_le _) ⟨rfl, rfl⟩

noncomputable def fX10_closes (N : Nat)  (s : zS) : Option (Int32 × zS) := zbn (fX10_isSign N 41 s) (fun x1 s2 => if x1 = 0 then zbn (fX10_fail N 5 s2) (fun x7 s8 => if zbo x7 = true then some (x7, s8) else none) else zbn (fX10_next N  s2) (fun x4 s5 => some (1, s5)))
set_option maxHeartbeats 400000 in
set_option maxRecDepth 100000 in
theorem tX10_closes {g : zGl} (hok : zGok g) (d : Nat) (hd : 4 ≤ d) (N : Nat)   {s s' : zS} {w : Int32} (hf : fX10_closes N  s = some (w, s')) : zMet g mX10_closes d 0 0 [.ref 33] (zHp s) (zret (some (.int w)) (zHp s')) := by
  refine zMet.ofW (by decide +kernel) (Nat.le_of_ble_eq_true rfl) ?_
  show zW g mX10_closes d 0 0 51 _ 0 0 (zHp s) [some (.ref 33)] [] 0
  unfold fX10_closes at hf
  refine z_aload_n dX10_closes_0 rfl ?_
  refine z_bipush 41 dX10_closes_1 (by decide +kernel) ?_
  obtain ⟨x1, s2, q3, hf⟩ := zbn_of hf
  refine z_cV (as := [_]) hok dX10_closes_3 kX10_167 (tX10_isSign hok (d - 1) N 41  q3) rfl (at_Model s) rfl rfl (by omega) (Nat.le_of_ble_eq_true rfl) (Nat.zero_le _) (Nat.zero_le _) rfl ?_
  refine z_if_ne 15 dX10_closes_6 (by decide) (fun c6 => ?_) (fun c6 => ?_)
  · have hf := zifn hf c6
    refine z_aload_n dX10_closes_15 rfl ?_
    obtain ⟨x4, s5, q6, hf⟩ := zbn_of hf
    refine z_cV (as := []) hok dX10_closes_16 kX10_177 (tX10_next hok (d - 1) (by omega) N   q6) rfl (at_Model s2) rfl rfl (by omega) (Nat.le_of_ble_eq_true rfl) (Nat.zero_le _) (Nat.zero_le _) rfl ?_
    refine z_iconst 1 dX10_closes_19 (by decide +kernel) ?_
    cases hf
    exact z_zret rfl (by decide) dX10_closes_20 (Nat.zero_le _) (Nat.zero_le _) ⟨rfl, rfl⟩
  · have hf := zifp hf c6
    refine z_aload_n dX10_closes_9 rfl ?_
    refine z_iconst 5 dX10_closes_10 (by decide +kernel) ?_
    obtain ⟨x7, s8, q9, hf⟩ := zbn_of hf
    refine z_cV (as := [_]) hok dX10_closes_11 kX10_152 (tX10_fail hok (d - 1) N 5  q9) rfl (at_Model s2) rfl rfl (by omega) (Nat.le_of_ble_eq_true rfl) (Nat.zero_le _) (Nat.zero_le _) rfl ?_
    obtain ⟨bo10, hf⟩ := zifs hf
    cases hf
    exact z_zret rfl (zbo_n bo10) dX10_closes_14 (Nat.zero_le _) (Nat.zero_le _) ⟨rfl, rfl⟩

noncomputable def fX10_based (N : Nat) (p0 : Int32) (s : zS) : Option (Int32 × zS) := zbn (fX10_next N  s) (fun x1 s2 => zbn (fX10_register N  s2) (fun x4 s5 => if x4 = (-1) then zbn (fX10_fail N 5 s5) (fun x16 s17 => if zbo x16 = true then some (x16, s17) else none) else if zga p0 (zlen 38) = true then if zga (p0 + 1) (zlen 38) = true then zbn (fX10_next N  (zsr (zsr s5 38 p0 2) 38 (p0 + 1) x4)) (fun x9 s10 => zbn (fX10_closes N  s10) (fun x12 s13 => if zbo x12 = true then some (x12, s13) else none)) else none else none))
set_option maxHeartbeats 400000 in
set_option maxRecDepth 100000 in
theorem tX10_based {g : zGl} (hok : zGok g) (d : Nat) (hd : 5 ≤ d) (N : Nat) (p0 : Int32)  {s s' : zS} {w : Int32} (hf : fX10_based N p0 s = some (w, s')) : zMet g mX10_based d 0 0 [.ref 33, .int p0] (zHp s) (zret (some (.int w)) (zHp s')) := by
  refine zMet.ofW (by decide +kernel) (Nat.le_of_ble_eq_true rfl) ?_
  show zW g mX10_based d 0 0 51 _ 0 0 (zHp s) [some (.ref 33), some (.int p0), none] [] 0
  unfold fX10_based at hf
  refine z_aload_n dX10_based_0 rfl ?_
  obtain ⟨x1, s2, q3, hf⟩ := zbn_of hf
  refine z_cV (as := []) hok dX10_based_1 kX10_177 (tX10_next hok (d - 1) (by omega) N   q3) rfl (at_Model s) rfl rfl (by omega) (Nat.le_of_ble_eq_true rfl) (Nat.zero_le _) (Nat.zero_le _) rfl ?_
  refine z_aload_n dX10_based_4 rfl ?_
  obtain ⟨x4, s5, q6, hf⟩ := zbn_of hf
  refine z_cV (as := []) hok dX10_based_5 kX10_170 (tX10_register hok (d - 1) (by omega) N   q6) rfl (at_Model s2) rfl rfl (by omega) (Nat.le_of_ble_eq_true rfl) (Nat.zero_le _) (Nat.zero_le _) rfl ?_
  refine z_istore_n (ls' := [_, _, _]) dX10_based_8 (by decide) rfl ?_
  refine z_iload_n dX10_based_9 rfl ?_
  refine z_iconst (-1) dX10_based_10 (by decide +kernel) ?_
  refine z_icmp_ne 20 dX10_based_11 (by decide) (fun c11 => ?_) (fun c11 => ?_)
  · have hf := zifn hf c11
    refine z_aload_n dX10_based_20 rfl ?_
    refine z_getf dX10_based_21 fX10_22 (at_Model s5) rfl ?_
    refine z_iload_n dX10_based_24 rfl ?_
    refine z_iconst 2 dX10_based_25 (by decide +kernel) ?_
    obtain ⟨hi7, hf⟩ := zifs hf
    refine z_iastore dX10_based_26 (at_arr s5 38 (by decide)) (zga_in hi7) (st_arr s5 38 (by decide) p0 2) ?_
    refine z_aload_n dX10_based_27 rfl ?_
    refine z_getf dX10_based_28 fX10_22 (at_Model (zsr s5 38 p0 2)) rfl ?_
    refine z_iload_n dX10_based_31 rfl ?_
    refine z_iconst 1 dX10_based_32 (by decide +kernel) ?_
    refine z_iadd dX10_based_33 ?_
    refine z_iload_n dX10_based_34 rfl ?_
    obtain ⟨hi8, hf⟩ := zifs hf
    refine z_iastore dX10_based_35 (at_arr (zsr s5 38 p0 2) 38 (by decide)) (zga_in hi8) (st_arr (zsr s5 38 p0 2) 38 (by decide) (p0 + 1) x4) ?_
    refine z_aload_n dX10_based_36 rfl ?_
    obtain ⟨x9, s10, q11, hf⟩ := zbn_of hf
    refine z_cV (as := []) hok dX10_based_37 kX10_177 (tX10_next hok (d - 1) (by omega) N   q11) rfl (at_Model (zsr (zsr s5 38 p0 2) 38 (p0 + 1) x4)) rfl rfl (by omega) (Nat.le_of_ble_eq_true rfl) (Nat.zero_le _) (Nat.zero_le _) rfl ?_
    refine z_aload_n dX10_based_40 rfl ?_
    obtain ⟨x12, s13, q14, hf⟩ := zbn_of hf
    refine z_cV (as := []) hok dX10_based_41 kX10_199 (tX10_closes hok (d - 1) (by omega) N   q14) rfl (at_Model s10) rfl rfl (by omega) (Nat.le_of_ble_eq_true rfl) (Nat.zero_le _) (Nat.zero_le _) rfl ?_
    obtain ⟨bo15, hf⟩ := zifs hf
    cases hf
    exact z_zret rfl (zbo_n bo15) dX10_based_44 (Nat.zero_le _) (Nat.zero_le _) ⟨rfl, rfl⟩
  · have hf := zifp hf c11
    refine z_aload_n dX10_based_14 rfl ?_
    refine z_iconst 5 dX10_based_15 (by decide +kernel) ?_
    obtain ⟨x16, s17, q18, hf⟩ := zbn_of hf
    refine z_cV (as := [_]) hok dX10_based_16 kX10_152 (tX10_fail hok (d - 1) N 5  q18) rfl (at_Model s5) rfl rfl (by omega) (Nat.le_of_ble_eq_true rfl) (Nat.zero_le _) (Nat.zero_le _) rfl ?_
    obtain ⟨bo19, hf⟩ := zifs hf
    cases hf
    exact z_zret rfl (zbo_n bo19) dX10_based_19 (Nat.zero_le _) (Nat.zero_le _) ⟨rfl, rfl⟩

noncomputable def fX10_mark_J148 (N : Nat)  (v1 : Int32) (s : zS) : Option (Int32 × zS) := if v1 = 0 then some (0, s) else zbn (fX10_byteOf N 6 s) (fun x10 s11 => if x10 = 108 then zbn (fX10_byteOf N 7 s11) (fun x13 s14 => if x13 = 111 then some (4, s14) else some (0, s14)) else some (0, s11))
set_option maxHeartbeats 400000 in
set_option maxRecDepth 100000 in
theorem tX10_mark_J148 {g : zGl} (hok : zGok g) (d : Nat) (hd : 2 ≤ d) (N : Nat)   {mc ms n0 : Nat} (v1 : Int32) {s s' : zS} {w : Int32} (hf : fX10_mark_J148 N  v1 s = some (w, s')) : zW g mX10_mark d mc ms n0 (zret (some (.int w)) (zHp s')) 0 0 (zHp s) [some (.ref 33), some (.int v1)] [] 148 := by
  unfold fX10_mark_J148 at hf
  refine z_iload_n dX10_mark_148 rfl ?_
  refine z_if_eq 178 dX10_mark_149 (by decide) (fun c149 => ?_) (fun c149 => ?_)
  · have hf := zifp hf c149
    refine z_iconst 0 dX10_mark_178 (by decide +kernel) ?_
    cases hf
    exact z_iret rfl dX10_mark_179 (Nat.zero_le _) (Nat.zero_le _) ⟨rfl, rfl⟩
  · have hf := zifn hf c149
    refine z_aload_n dX10_mark_152 rfl ?_
    refine z_bipush 6 dX10_mark_153 (by decide +kernel) ?_
    obtain ⟨x10, s11, q12, hf⟩ := zbn_of hf
    refine z_cV (as := [_]) hok dX10_mark_155 kX10_129 (tX10_byteOf hok (d - 1) N 6  q12) rfl (at_Model s) rfl rfl (by omega) (Nat.le_of_ble_eq_true rfl) (Nat.zero_le _) (Nat.zero_le _) rfl ?_
    refine z_bipush 108 dX10_mark_158 (by decide +kernel) ?_
    refine z_icmp_ne 178 dX10_mark_160 (by decide) (fun c160 => ?_) (fun c160 => ?_)
    · have hf := zifn hf c160
      refine z_iconst 0 dX10_mark_178 (by decide +kernel) ?_
      cases hf
      exact z_iret rfl dX10_mark_179 (Nat.zero_le _) (Nat.zero_le _) ⟨rfl, rfl⟩
    · have hf := zifp hf c160
      refine z_aload_n dX10_mark_163 rfl ?_
      refine z_bipush 7 dX10_mark_164 (by decide +kernel) ?_
      obtain ⟨x13, s14, q15, hf⟩ := zbn_of hf
      refine z_cV (as := [_]) hok dX10_mark_166 kX10_129 (tX10_byteOf hok (d - 1) N 7  q15) rfl (at_Model s11) rfl rfl (by omega) (Nat.le_of_ble_eq_true rfl) (Nat.zero_le _) (Nat.zero_le _) rfl ?_
      refine z_bipush 111 dX10_mark_169 (by decide +kernel) ?_
      refine z_icmp_ne 178 dX10_mark_171 (by decide) (fun c171 => ?_) (fun c171 => ?_)
      · have hf := zifn hf c171
        refine z_iconst 0 dX10_mark_178 (by decide +kernel) ?_
        cases hf
        exact z_iret rfl dX10_mark_179 (Nat.zero_le _) (Nat.zero_le _) ⟨rfl, rfl⟩
      · have hf := zifp hf c171
        refine z_iconst 4 dX10_mark_174 (by decide +kernel) ?_
        refine z_goto 179 dX10_mark_175 (by decide) ?_
        cases hf
        exact z_iret rfl dX10_mark_179 (Nat.zero_le _) (Nat.zero_le _) ⟨rfl, rfl⟩
noncomputable def fX10_mark_J119 (N : Nat)  (k0 : Int32) (s : zS) : Option (Int32 × zS) := if k0 = 0 then fX10_mark_J148 N  k0 s else zbn (fX10_byteOf N 6 s) (fun x16 s17 => if x16 = 104 then zbn (fX10_byteOf N 7 s17) (fun x19 s20 => if x19 = 105 then some (3, s20) else fX10_mark_J148 N  k0 s20) else fX10_mark_J148 N  k0 s17)
set_option maxHeartbeats 400000 in
set_option maxRecDepth 100000 in
theorem tX10_mark_J119 {g : zGl} (hok : zGok g) (d : Nat) (hd : 2 ≤ d) (N : Nat)   {mc ms n0 : Nat} (k0 : Int32) {s s' : zS} {w : Int32} (hf : fX10_mark_J119 N  k0 s = some (w, s')) : zW g mX10_mark d mc ms n0 (zret (some (.int w)) (zHp s')) 0 0 (zHp s) [some (.ref 33), none] [.int k0] 119 := by
  unfold fX10_mark_J119 at hf
  refine z_istore_n (ls' := [_, _]) dX10_mark_119 (by decide) rfl ?_
  refine z_iload_n dX10_mark_120 rfl ?_
  refine z_if_eq 148 dX10_mark_121 (by decide) (fun c121 => ?_) (fun c121 => ?_)
  · have hf := zifp hf c121
    refine z_mask (ls' := [_, _]) [true, true] rfl ?_
    exact tX10_mark_J148 hok d (by omega) N   k0 hf
  · have hf := zifn hf c121
    refine z_aload_n dX10_mark_124 rfl ?_
    refine z_bipush 6 dX10_mark_125 (by decide +kernel) ?_
    obtain ⟨x16, s17, q18, hf⟩ := zbn_of hf
    refine z_cV (as := [_]) hok dX10_mark_127 kX10_129 (tX10_byteOf hok (d - 1) N 6  q18) rfl (at_Model s) rfl rfl (by omega) (Nat.le_of_ble_eq_true rfl) (Nat.zero_le _) (Nat.zero_le _) rfl ?_
    refine z_bipush 104 dX10_mark_130 (by decide +kernel) ?_
    refine z_icmp_ne 148 dX10_mark_132 (by decide) (fun c132 => ?_) (fun c132 => ?_)
    · have hf := zifn hf c132
      refine z_mask (ls' := [_, _]) [true, true] rfl ?_
      exact tX10_mark_J148 hok d (by omega) N   k0 hf
    · have hf := zifp hf c132
      refine z_aload_n dX10_mark_135 rfl ?_
      refine z_bipush 7 dX10_mark_136 (by decide +kernel) ?_
      obtain ⟨x19, s20, q21, hf⟩ := zbn_of hf
      refine z_cV (as := [_]) hok dX10_mark_138 kX10_129 (tX10_byteOf hok (d - 1) N 7  q21) rfl (at_Model s17) rfl rfl (by omega) (Nat.le_of_ble_eq_true rfl) (Nat.zero_le _) (Nat.zero_le _) rfl ?_
      refine z_bipush 105 dX10_mark_141 (by decide +kernel) ?_
      refine z_icmp_ne 148 dX10_mark_143 (by decide) (fun c143 => ?_) (fun c143 => ?_)
      · have hf := zifn hf c143
        refine z_mask (ls' := [_, _]) [true, true] rfl ?_
        exact tX10_mark_J148 hok d (by omega) N   k0 hf
      · have hf := zifp hf c143
        refine z_iconst 3 dX10_mark_146 (by decide +kernel) ?_
        cases hf
        exact z_iret rfl dX10_mark_147 (Nat.zero_le _) (Nat.zero_le _) ⟨rfl, rfl⟩
noncomputable def fX10_mark_J118 (N : Nat)   (s : zS) : Option (Int32 × zS) := fX10_mark_J119 N  0 s
set_option maxHeartbeats 400000 in
set_option maxRecDepth 100000 in
theorem tX10_mark_J118 {g : zGl} (hok : zGok g) (d : Nat) (hd : 2 ≤ d) (N : Nat)   {mc ms n0 : Nat}  {s s' : zS} {w : Int32} (hf : fX10_mark_J118 N   s = some (w, s')) : zW g mX10_mark d mc ms n0 (zret (some (.int w)) (zHp s')) 0 0 (zHp s) [some (.ref 33), none] [] 118 := by
  unfold fX10_mark_J118 at hf
  refine z_iconst 0 dX10_mark_118 (by decide +kernel) ?_
  refine z_mask (ls' := [_, _]) [true, false] rfl ?_
  exact tX10_mark_J119 hok d (by omega) N   0 hf
noncomputable def fX10_mark (N : Nat)  (s : zS) : Option (Int32 × zS) := if (s.1 3315) = 1 then zbn (fX10_is N 104 105 0 0 s) (fun x1 s2 => if x1 = 0 then zbn (fX10_is N 108 111 0 0 s2) (fun x4 s5 => if x4 = 0 then zbn (fX10_byteOf N 0 s5) (fun x7 s8 => if x7 = 112 then zbn (fX10_byteOf N 1 s8) (fun x22 s23 => if x22 = 99 then zbn (fX10_byteOf N 2 s23) (fun x25 s26 => if x25 = 114 then zbn (fX10_byteOf N 3 s26) (fun x28 s29 => if x28 = 101 then zbn (fX10_byteOf N 4 s29) (fun x31 s32 => if x31 = 108 then zbn (fX10_byteOf N 5 s32) (fun x34 s35 => if x34 = 95 then if ((s35.1 3318) - (s35.1 3317)) = 8 then fX10_mark_J119 N  1 s35 else fX10_mark_J118 N   s35 else fX10_mark_J118 N   s35) else fX10_mark_J118 N   s32) else fX10_mark_J118 N   s29) else fX10_mark_J118 N   s26) else fX10_mark_J118 N   s23) else fX10_mark_J118 N   s8) else some (2, s5)) else some (1, s2)) else some (0, s)
set_option maxHeartbeats 400000 in
set_option maxRecDepth 100000 in
theorem tX10_mark {g : zGl} (hok : zGok g) (d : Nat) (hd : 2 ≤ d) (N : Nat)   {s s' : zS} {w : Int32} (hf : fX10_mark N  s = some (w, s')) : zMet g mX10_mark d 0 0 [.ref 33] (zHp s) (zret (some (.int w)) (zHp s')) := by
  refine zMet.ofW (by decide +kernel) (Nat.le_of_ble_eq_true rfl) ?_
  show zW g mX10_mark d 0 0 51 _ 0 0 (zHp s) [some (.ref 33), none] [] 0
  unfold fX10_mark at hf
  refine z_aload_n dX10_mark_0 rfl ?_
  refine z_getf dX10_mark_1 fX10_79 (at_Model s) rfl ?_
  refine z_iconst 1 dX10_mark_4 (by decide +kernel) ?_
  refine z_icmp_eq 10 dX10_mark_5 (by decide) (fun c5 => ?_) (fun c5 => ?_)
  · have hf := zifp hf c5
    refine z_aload_n dX10_mark_10 rfl ?_
    refine z_bipush 104 dX10_mark_11 (by decide +kernel) ?_
    refine z_bipush 105 dX10_mark_13 (by decide +kernel) ?_
    refine z_iconst 0 dX10_mark_15 (by decide +kernel) ?_
    refine z_iconst 0 dX10_mark_16 (by decide +kernel) ?_
    obtain ⟨x1, s2, q3, hf⟩ := zbn_of hf
    refine z_cV (as := [_, _, _, _]) hok dX10_mark_17 kX10_132 (tX10_is hok (d - 1) (by omega) N 104 105 0 0  q3) rfl (at_Model s) rfl rfl (by omega) (Nat.le_of_ble_eq_true rfl) (Nat.zero_le _) (Nat.zero_le _) rfl ?_
    refine z_if_eq 25 dX10_mark_20 (by decide) (fun c20 => ?_) (fun c20 => ?_)
    · have hf := zifp hf c20
      refine z_aload_n dX10_mark_25 rfl ?_
      refine z_bipush 108 dX10_mark_26 (by decide +kernel) ?_
      refine z_bipush 111 dX10_mark_28 (by decide +kernel) ?_
      refine z_iconst 0 dX10_mark_30 (by decide +kernel) ?_
      refine z_iconst 0 dX10_mark_31 (by decide +kernel) ?_
      obtain ⟨x4, s5, q6, hf⟩ := zbn_of hf
      refine z_cV (as := [_, _, _, _]) hok dX10_mark_32 kX10_132 (tX10_is hok (d - 1) (by omega) N 108 111 0 0  q6) rfl (at_Model s2) rfl rfl (by omega) (Nat.le_of_ble_eq_true rfl) (Nat.zero_le _) (Nat.zero_le _) rfl ?_
      refine z_if_eq 40 dX10_mark_35 (by decide) (fun c35 => ?_) (fun c35 => ?_)
      · have hf := zifp hf c35
        refine z_aload_n dX10_mark_40 rfl ?_
        refine z_iconst 0 dX10_mark_41 (by decide +kernel) ?_
        obtain ⟨x7, s8, q9, hf⟩ := zbn_of hf
        refine z_cV (as := [_]) hok dX10_mark_42 kX10_129 (tX10_byteOf hok (d - 1) N 0  q9) rfl (at_Model s5) rfl rfl (by omega) (Nat.le_of_ble_eq_true rfl) (Nat.zero_le _) (Nat.zero_le _) rfl ?_
        refine z_bipush 112 dX10_mark_45 (by decide +kernel) ?_
        refine z_icmp_ne 118 dX10_mark_47 (by decide) (fun c47 => ?_) (fun c47 => ?_)
        · have hf := zifn hf c47
          refine z_mask (ls' := [_, _]) [true, false] rfl ?_
          exact tX10_mark_J118 hok d (by omega) N    hf
        · have hf := zifp hf c47
          refine z_aload_n dX10_mark_50 rfl ?_
          refine z_iconst 1 dX10_mark_51 (by decide +kernel) ?_
          obtain ⟨x22, s23, q24, hf⟩ := zbn_of hf
          refine z_cV (as := [_]) hok dX10_mark_52 kX10_129 (tX10_byteOf hok (d - 1) N 1  q24) rfl (at_Model s8) rfl rfl (by omega) (Nat.le_of_ble_eq_true rfl) (Nat.zero_le _) (Nat.zero_le _) rfl ?_
          refine z_bipush 99 dX10_mark_55 (by decide +kernel) ?_
          refine z_icmp_ne 118 dX10_mark_57 (by decide) (fun c57 => ?_) (fun c57 => ?_)
          · have hf := zifn hf c57
            refine z_mask (ls' := [_, _]) [true, false] rfl ?_
            exact tX10_mark_J118 hok d (by omega) N    hf
          · have hf := zifp hf c57
            refine z_aload_n dX10_mark_60 rfl ?_
            refine z_iconst 2 dX10_mark_61 (by decide +kernel) ?_
            obtain ⟨x25, s26, q27, hf⟩ := zbn_of hf
            refine z_cV (as := [_]) hok dX10_mark_62 kX10_129 (tX10_byteOf hok (d - 1) N 2  q27) rfl (at_Model s23) rfl rfl (by omega) (Nat.le_of_ble_eq_true rfl) (Nat.zero_le _) (Nat.zero_le _) rfl ?_
            refine z_bipush 114 dX10_mark_65 (by decide +kernel) ?_
            refine z_icmp_ne 118 dX10_mark_67 (by decide) (fun c67 => ?_) (fun c67 => ?_)
            · have hf := zifn hf c67
              refine z_mask (ls' := [_, _]) [true, false] rfl ?_
              exact tX10_mark_J118 hok d (by omega) N    hf
            · have hf := zifp hf c67
              refine z_aload_n dX10_mark_70 rfl ?_
              refine z_iconst 3 dX10_mark_71 (by decide +kernel) ?_
              obtain ⟨x28, s29, q30, hf⟩ := zbn_of hf
              refine z_cV (as := [_]) hok dX10_mark_72 kX10_129 (tX10_byteOf hok (d - 1) N 3  q30) rfl (at_Model s26) rfl rfl (by omega) (Nat.le_of_ble_eq_true rfl) (Nat.zero_le _) (Nat.zero_le _) rfl ?_
              refine z_bipush 101 dX10_mark_75 (by decide +kernel) ?_
              refine z_icmp_ne 118 dX10_mark_77 (by decide) (fun c77 => ?_) (fun c77 => ?_)
              · have hf := zifn hf c77
                refine z_mask (ls' := [_, _]) [true, false] rfl ?_
                exact tX10_mark_J118 hok d (by omega) N    hf
              · have hf := zifp hf c77
                refine z_aload_n dX10_mark_80 rfl ?_
                refine z_iconst 4 dX10_mark_81 (by decide +kernel) ?_
                obtain ⟨x31, s32, q33, hf⟩ := zbn_of hf
                refine z_cV (as := [_]) hok dX10_mark_82 kX10_129 (tX10_byteOf hok (d - 1) N 4  q33) rfl (at_Model s29) rfl rfl (by omega) (Nat.le_of_ble_eq_true rfl) (Nat.zero_le _) (Nat.zero_le _) rfl ?_
                refine z_bipush 108 dX10_mark_85 (by decide +kernel) ?_
                refine z_icmp_ne 118 dX10_mark_87 (by decide) (fun c87 => ?_) (fun c87 => ?_)
                · have hf := zifn hf c87
                  refine z_mask (ls' := [_, _]) [true, false] rfl ?_
                  exact tX10_mark_J118 hok d (by omega) N    hf
                · have hf := zifp hf c87
                  refine z_aload_n dX10_mark_90 rfl ?_
                  refine z_iconst 5 dX10_mark_91 (by decide +kernel) ?_
                  obtain ⟨x34, s35, q36, hf⟩ := zbn_of hf
                  refine z_cV (as := [_]) hok dX10_mark_92 kX10_129 (tX10_byteOf hok (d - 1) N 5  q36) rfl (at_Model s32) rfl rfl (by omega) (Nat.le_of_ble_eq_true rfl) (Nat.zero_le _) (Nat.zero_le _) rfl ?_
                  refine z_bipush 95 dX10_mark_95 (by decide +kernel) ?_
                  refine z_icmp_ne 118 dX10_mark_97 (by decide) (fun c97 => ?_) (fun c97 => ?_)
                  · have hf := zifn hf c97
                    refine z_mask (ls' := [_, _]) [true, false] rfl ?_
                    exact tX10_mark_J118 hok d (by omega) N    hf
                  · have hf := zifp hf c97
                    refine z_aload_n dX10_mark_100 rfl ?_
                    refine z_getf dX10_mark_101 fX10_88 (at_Model s35) rfl ?_
                    refine z_aload_n dX10_mark_104 rfl ?_
                    refine z_getf dX10_mark_105 fX10_85 (at_Model s35) rfl ?_
                    refine z_isub dX10_mark_108 ?_
                    refine z_bipush 8 dX10_mark_109 (by decide +kernel) ?_
                    refine z_icmp_ne 118 dX10_mark_111 (by decide) (fun c111 => ?_) (fun c111 => ?_)
                    · have hf := zifn hf c111
                      refine z_mask (ls' := [_, _]) [true, false] rfl ?_
                      exact tX10_mark_J118 hok d (by omega) N    hf
                    · have hf := zifp hf c111
                      refine z_iconst 1 dX10_mark_114 (by decide +kernel) ?_
                      refine z_goto 119 dX10_mark_115 (by decide) ?_
                      refine z_mask (ls' := [_, _]) [true, false] rfl ?_
                      exact tX10_mark_J119 hok d (by omega) N   1 hf
      · have hf := zifn hf c35
        refine z_iconst 2 dX10_mark_38 (by decide +kernel) ?_
        cases hf
        exact z_iret rfl dX10_mark_39 (Nat.zero_le _) (Nat.zero_le _) ⟨rfl, rfl⟩
    · have hf := zifn hf c20
      refine z_iconst 1 dX10_mark_23 (by decide +kernel) ?_
      cases hf
      exact z_iret rfl dX10_mark_24 (Nat.zero_le _) (Nat.zero_le _) ⟨rfl, rfl⟩
  · have hf := zifn hf c5
    refine z_iconst 0 dX10_mark_8 (by decide +kernel) ?_
    cases hf
    exact z_iret rfl dX10_mark_9 (Nat.zero_le _) (Nat.zero_le _) ⟨rfl, rfl⟩

noncomputable def fX10_ahead_J39 (N : Nat)  (rec : zS → Option ((Unit × zS) ⊕ (zS)))  (s : zS) : Option ((Unit × zS) ⊕ (zS)) := if zga ((s.1 3323) - 1) (zlen 43) = true then zbn (fX10_emit N (s.2.1 43 ((s.1 3323) - 1).toNatClampNeg) 0 (zsc s 3323 ((s.1 3323) - 1))) (fun x3 s4 => rec  (zsc s4 3326 ((s4.1 3326) - 1))) else none
set_option maxHeartbeats 400000 in
set_option maxRecDepth 100000 in
theorem tX10_ahead_J39 {g : zGl} (hok : zGok g) (d : Nat) (hd : 1 ≤ d) (N : Nat)   {mc ms n0 : Nat} {Q : zO → List zE → Prop} (rec : zS → Option ((Unit × zS) ⊕ (zS))) (r : (Unit × zS) ⊕ (zS)) (k1 : ∀ w s', r = .inl (w, s') → Q (.inl none) (zHp s')) (k2 : ∀  (s' : zS), r = .inr (s') → zW g mX10_ahead d mc ms n0 Q 0 0 (zHp s') [some (.ref 33)] [] 76) (hrec : ∀  (s : zS), rec  s = some r → zW g mX10_ahead d mc ms n0 Q 0 0 (zHp s) [some (.ref 33)] [] 0)  (s : zS) (hf : fX10_ahead_J39 N  rec  s = some r) : zW g mX10_ahead d mc ms n0 Q 0 0 (zHp s) [some (.ref 33)] [] 39 := by
  unfold fX10_ahead_J39 at hf
  refine z_aload_n dX10_ahead_39 rfl ?_
  refine z_dup dX10_ahead_40 rfl ?_
  refine z_getf dX10_ahead_41 fX10_155 (at_Model s) rfl ?_
  refine z_iconst 1 dX10_ahead_44 (by decide +kernel) ?_
  refine z_isub dX10_ahead_45 ?_
  refine z_putf dX10_ahead_46 fX10_155 wX10_23 (at_Model s) (Nat.le_of_ble_eq_true rfl) (fun _ => rfl) (fun _ => rfl) (st_Model_23 s ((s.1 3323) - 1)) ?_
  refine z_aload_n dX10_ahead_49 rfl ?_
  refine z_aload_n dX10_ahead_50 rfl ?_
  refine z_getf dX10_ahead_51 fX10_41 (at_Model (zsc s 3323 ((s.1 3323) - 1))) rfl ?_
  refine z_aload_n dX10_ahead_54 rfl ?_
  refine z_getf dX10_ahead_55 fX10_155 (at_Model (zsc s 3323 ((s.1 3323) - 1))) rfl ?_
  obtain ⟨hi2, hf⟩ := zifs hf
  refine z_iald dX10_ahead_58 (at_arr (zsc s 3323 ((s.1 3323) - 1)) 43 (by decide)) (zga_in hi2) ?_
  refine z_iconst 0 dX10_ahead_59 (by decide +kernel) ?_
  obtain ⟨x3, s4, q5, hf⟩ := zbn_of hf
  refine z_cV (as := [_, _]) hok dX10_ahead_60 kX10_158 (tX10_emit hok (d - 1) N (s.2.1 43 ((s.1 3323) - 1).toNatClampNeg) 0  q5) rfl (at_Model (zsc s 3323 ((s.1 3323) - 1))) rfl rfl (by omega) (Nat.le_of_ble_eq_true rfl) (Nat.zero_le _) (Nat.zero_le _) rfl ?_
  refine z_aload_n dX10_ahead_63 rfl ?_
  refine z_dup dX10_ahead_64 rfl ?_
  refine z_getf dX10_ahead_65 fX10_161 (at_Model s4) rfl ?_
  refine z_iconst 1 dX10_ahead_68 (by decide +kernel) ?_
  refine z_isub dX10_ahead_69 ?_
  refine z_putf dX10_ahead_70 fX10_161 wX10_26 (at_Model s4) (Nat.le_of_ble_eq_true rfl) (fun _ => rfl) (fun _ => rfl) (st_Model_26 s4 ((s4.1 3326) - 1)) ?_
  refine z_goto 0 dX10_ahead_73 (by decide) ?_
  refine z_mask (ls' := [_]) [true] rfl ?_
  exact hrec  (zsc s4 3326 ((s4.1 3326) - 1)) hf
noncomputable def fX10_ahead_L0S (N : Nat)  (rec : zS → Option ((Unit × zS) ⊕ (zS)))  (s : zS) : Option ((Unit × zS) ⊕ (zS)) := if (s.1 3323) ≤ 0 then some (.inr (s)) else if zga ((s.1 3323) - 1) (zlen 43) = true then if (s.2.1 43 ((s.1 3323) - 1).toNatClampNeg) = 10 then fX10_ahead_J39 N  rec  s else if zga ((s.1 3323) - 1) (zlen 43) = true then if (s.2.1 43 ((s.1 3323) - 1).toNatClampNeg) = 11 then fX10_ahead_J39 N  rec  s else some (.inr (s)) else none else none
noncomputable def fX10_ahead_L0 (N : Nat)  (n : Nat) : zS → Option ((Unit × zS) ⊕ (zS)) := Nat.rec (motive := fun _ => zS → Option ((Unit × zS) ⊕ (zS))) (fun  _ => none) (fun _ rec => fX10_ahead_L0S N  rec) n
set_option maxHeartbeats 400000 in
set_option maxRecDepth 100000 in
theorem tX10_ahead_L0 {g : zGl} (hok : zGok g) (d : Nat) (hd : 1 ≤ d) (N : Nat)   {mc ms n0 : Nat} {Q : zO → List zE → Prop} (n : Nat) : ∀  (s : zS) (r : (Unit × zS) ⊕ (zS)) (hf : fX10_ahead_L0 N  n  s = some r) (k1 : ∀ w s', r = .inl (w, s') → Q (.inl none) (zHp s')) (k2 : ∀  (s' : zS), r = .inr (s') → zW g mX10_ahead d mc ms n0 Q 0 0 (zHp s') [some (.ref 33)] [] 76), zW g mX10_ahead d mc ms n0 Q 0 0 (zHp s) [some (.ref 33)] [] 0 := by
  induction n with
  | zero => intro  s r hf; cases hf
  | succ n ih =>
    intro  s r hf k1 k2
    have hrec : ∀  (s : zS) (r1 : (Unit × zS) ⊕ (zS)), fX10_ahead_L0 N  n  s = some r1 → r1 = r → zW g mX10_ahead d mc ms n0 Q 0 0 (zHp s) [some (.ref 33)] [] 0 := fun  s r1 h e => ih  s r1 h (by subst e; exact k1) (by subst e; exact k2)
    have hrec : ∀  (s : zS), fX10_ahead_L0 N  n  s = some r → zW g mX10_ahead d mc ms n0 Q 0 0 (zHp s) [some (.ref 33)] [] 0 := fun  s h => hrec  s r h rfl
    have hf : fX10_ahead_L0S N  (fX10_ahead_L0 N  n)  s = some r := hf
    unfold fX10_ahead_L0S at hf
    refine z_aload_n dX10_ahead_0 rfl ?_
    refine z_getf dX10_ahead_1 fX10_155 (at_Model s) rfl ?_
    refine z_if_le 76 dX10_ahead_4 (by decide) (fun c4 => ?_) (fun c4 => ?_)
    · have hf := zifp hf c4
      cases hf
      refine z_mask (ls' := [_]) [true] rfl ?_
      exact k2  _ rfl
    · have hf := zifn hf c4
      refine z_aload_n dX10_ahead_7 rfl ?_
      refine z_getf dX10_ahead_8 fX10_41 (at_Model s) rfl ?_
      refine z_aload_n dX10_ahead_11 rfl ?_
      refine z_getf dX10_ahead_12 fX10_155 (at_Model s) rfl ?_
      refine z_iconst 1 dX10_ahead_15 (by decide +kernel) ?_
      refine z_isub dX10_ahead_16 ?_
      obtain ⟨hi1, hf⟩ := zifs hf
      refine z_iald dX10_ahead_17 (at_arr s 43 (by decide)) (zga_in hi1) ?_
      refine z_bipush 10 dX10_ahead_18 (by decide +kernel) ?_
      refine z_icmp_eq 39 dX10_ahead_20 (by decide) (fun c20 => ?_) (fun c20 => ?_)
      · have hf := zifp hf c20
        refine z_mask (ls' := [_]) [true] rfl ?_
        exact tX10_ahead_J39 hok d (by omega) N   _ r k1 k2 hrec  s hf
      · have hf := zifn hf c20
        refine z_aload_n dX10_ahead_23 rfl ?_
        refine z_getf dX10_ahead_24 fX10_41 (at_Model s) rfl ?_
        refine z_aload_n dX10_ahead_27 rfl ?_
        refine z_getf dX10_ahead_28 fX10_155 (at_Model s) rfl ?_
        refine z_iconst 1 dX10_ahead_31 (by decide +kernel) ?_
        refine z_isub dX10_ahead_32 ?_
        obtain ⟨hi6, hf⟩ := zifs hf
        refine z_iald dX10_ahead_33 (at_arr s 43 (by decide)) (zga_in hi6) ?_
        refine z_bipush 11 dX10_ahead_34 (by decide +kernel) ?_
        refine z_icmp_ne 76 dX10_ahead_36 (by decide) (fun c36 => ?_) (fun c36 => ?_)
        · have hf := zifn hf c36
          cases hf
          refine z_mask (ls' := [_]) [true] rfl ?_
          exact k2  _ rfl
        · have hf := zifp hf c36
          refine z_mask (ls' := [_]) [true] rfl ?_
          exact tX10_ahead_J39 hok d (by omega) N   _ r k1 k2 hrec  s hf
noncomputable def fX10_ahead (N : Nat)  (s : zS) : Option (Unit × zS) := zbl (fX10_ahead_L0 N  N  s) (fun x => some x) (fun s10 => some ((), s10))
set_option maxHeartbeats 400000 in
set_option maxRecDepth 100000 in
theorem tX10_ahead {g : zGl} (hok : zGok g) (d : Nat) (hd : 1 ≤ d) (N : Nat)   {s s' : zS} {w : Unit} (hf : fX10_ahead N  s = some (w, s')) : zMet g mX10_ahead d 0 0 [.ref 33] (zHp s) (zret none (zHp s')) := by
  refine zMet.ofW (by decide +kernel) (Nat.le_of_ble_eq_true rfl) ?_
  show zW g mX10_ahead d 0 0 51 _ 0 0 (zHp s) [some (.ref 33)] [] 0
  unfold fX10_ahead at hf
  refine z_mask (ls' := [_]) [true] rfl ?_
  rcases zbl_of hf with ⟨lr8, le9, hf⟩ | ⟨lr8, le9, hf⟩
  · cases hf
    exact tX10_ahead_L0 hok d (by omega) N   N  s _ le9 (fun w1 s1 hh => by cases hh; exact ⟨rfl, rfl⟩) (fun  _ hh => by cases hh)
  · obtain ⟨s10, rfl⟩ : ∃ z, z = lr8 := ⟨_, rfl⟩
    refine tX10_ahead_L0 hok d (by omega) N   N  s _ le9 (fun w1 s1 hh => by cases hh) (fun  _ hh => ?_)
    cases hh
    cases hf
    exact z_vret rfl dX10_ahead_76 (Nat.zero_le _) (Nat.zero_le _) ⟨rfl, rfl⟩

noncomputable def fX10_wanted_J297 (N : Nat)  (v3 : Int32) (s : zS) : Option (Int32 × zS) := if (s.1 3315) = 2 then zbn (fX10_emit N 0 v3 s) (fun x40 s41 => zbn (fX10_ahead N  s41) (fun x43 s44 => zbn (fX10_next N  s44) (fun x46 s47 => some (1, s47)))) else if (s.1 3315) = 1 then zbn (fX10_emit N 1 v3 s) (fun x31 s32 => zbn (fX10_ahead N  s32) (fun x34 s35 => zbn (fX10_next N  s35) (fun x37 s38 => some (1, s38)))) else if (s.1 3315) = 3 then zbn (fX10_emit N 2 v3 s) (fun x22 s23 => zbn (fX10_ahead N  s23) (fun x25 s26 => zbn (fX10_next N  s26) (fun x28 s29 => some (1, s29)))) else zbn (fX10_emit N 3 v3 s) (fun x13 s14 => zbn (fX10_ahead N  s14) (fun x16 s17 => zbn (fX10_next N  s17) (fun x19 s20 => some (1, s20))))
set_option maxHeartbeats 400000 in
set_option maxRecDepth 100000 in
theorem tX10_wanted_J297 {g : zGl} (hok : zGok g) (d : Nat) (hd : 4 ≤ d) (N : Nat)   {mc ms n0 : Nat} (v3 : Int32) {s s' : zS} {w : Int32} (hf : fX10_wanted_J297 N  v3 s = some (w, s')) : zW g mX10_wanted d mc ms n0 (zret (some (.int w)) (zHp s')) 0 0 (zHp s) [some (.ref 33), none, none, some (.int v3)] [] 297 := by
  unfold fX10_wanted_J297 at hf
  refine z_aload_n dX10_wanted_297 rfl ?_
  refine z_aload_n dX10_wanted_298 rfl ?_
  refine z_getf dX10_wanted_299 fX10_79 (at_Model s) rfl ?_
  refine z_iconst 2 dX10_wanted_302 (by decide +kernel) ?_
  refine z_icmp_ne 310 dX10_wanted_303 (by decide) (fun c303 => ?_) (fun c303 => ?_)
  · have hf := zifn hf c303
    refine z_aload_n dX10_wanted_310 rfl ?_
    refine z_getf dX10_wanted_311 fX10_79 (at_Model s) rfl ?_
    refine z_iconst 1 dX10_wanted_314 (by decide +kernel) ?_
    refine z_icmp_ne 322 dX10_wanted_315 (by decide) (fun c315 => ?_) (fun c315 => ?_)
    · have hf := zifn hf c315
      refine z_aload_n dX10_wanted_322 rfl ?_
      refine z_getf dX10_wanted_323 fX10_79 (at_Model s) rfl ?_
      refine z_iconst 3 dX10_wanted_326 (by decide +kernel) ?_
      refine z_icmp_ne 334 dX10_wanted_327 (by decide) (fun c327 => ?_) (fun c327 => ?_)
      · have hf := zifn hf c327
        refine z_iconst 3 dX10_wanted_334 (by decide +kernel) ?_
        refine z_iload_n dX10_wanted_335 rfl ?_
        obtain ⟨x13, s14, q15, hf⟩ := zbn_of hf
        refine z_cV (as := [_, _]) hok dX10_wanted_336 kX10_158 (tX10_emit hok (d - 1) N 3 v3  q15) rfl (at_Model s) rfl rfl (by omega) (Nat.le_of_ble_eq_true rfl) (Nat.zero_le _) (Nat.zero_le _) rfl ?_
        refine z_aload_n dX10_wanted_339 rfl ?_
        obtain ⟨x16, s17, q18, hf⟩ := zbn_of hf
        refine z_cV (as := []) hok dX10_wanted_340 kX10_187 (tX10_ahead hok (d - 1) (by omega) N   q18) rfl (at_Model s14) rfl rfl (by omega) (Nat.le_of_ble_eq_true rfl) (Nat.zero_le _) (Nat.zero_le _) rfl ?_
        refine z_aload_n dX10_wanted_343 rfl ?_
        obtain ⟨x19, s20, q21, hf⟩ := zbn_of hf
        refine z_cV (as := []) hok dX10_wanted_344 kX10_177 (tX10_next hok (d - 1) (by omega) N   q21) rfl (at_Model s17) rfl rfl (by omega) (Nat.le_of_ble_eq_true rfl) (Nat.zero_le _) (Nat.zero_le _) rfl ?_
        refine z_iconst 1 dX10_wanted_347 (by decide +kernel) ?_
        cases hf
        exact z_iret rfl dX10_wanted_348 (Nat.zero_le _) (Nat.zero_le _) ⟨rfl, rfl⟩
      · have hf := zifp hf c327
        refine z_iconst 2 dX10_wanted_330 (by decide +kernel) ?_
        refine z_goto 335 dX10_wanted_331 (by decide) ?_
        refine z_iload_n dX10_wanted_335 rfl ?_
        obtain ⟨x22, s23, q24, hf⟩ := zbn_of hf
        refine z_cV (as := [_, _]) hok dX10_wanted_336 kX10_158 (tX10_emit hok (d - 1) N 2 v3  q24) rfl (at_Model s) rfl rfl (by omega) (Nat.le_of_ble_eq_true rfl) (Nat.zero_le _) (Nat.zero_le _) rfl ?_
        refine z_aload_n dX10_wanted_339 rfl ?_
        obtain ⟨x25, s26, q27, hf⟩ := zbn_of hf
        refine z_cV (as := []) hok dX10_wanted_340 kX10_187 (tX10_ahead hok (d - 1) (by omega) N   q27) rfl (at_Model s23) rfl rfl (by omega) (Nat.le_of_ble_eq_true rfl) (Nat.zero_le _) (Nat.zero_le _) rfl ?_
        refine z_aload_n dX10_wanted_343 rfl ?_
        obtain ⟨x28, s29, q30, hf⟩ := zbn_of hf
        refine z_cV (as := []) hok dX10_wanted_344 kX10_177 (tX10_next hok (d - 1) (by omega) N   q30) rfl (at_Model s26) rfl rfl (by omega) (Nat.le_of_ble_eq_true rfl) (Nat.zero_le _) (Nat.zero_le _) rfl ?_
        refine z_iconst 1 dX10_wanted_347 (by decide +kernel) ?_
        cases hf
        exact z_iret rfl dX10_wanted_348 (Nat.zero_le _) (Nat.zero_le _) ⟨rfl, rfl⟩
    · have hf := zifp hf c315
      refine z_iconst 1 dX10_wanted_318 (by decide +kernel) ?_
      refine z_goto 335 dX10_wanted_319 (by decide) ?_
      refine z_iload_n dX10_wanted_335 rfl ?_
      obtain ⟨x31, s32, q33, hf⟩ := zbn_of hf
      refine z_cV (as := [_, _]) hok dX10_wanted_336 kX10_158 (tX10_emit hok (d - 1) N 1 v3  q33) rfl (at_Model s) rfl rfl (by omega) (Nat.le_of_ble_eq_true rfl) (Nat.zero_le _) (Nat.zero_le _) rfl ?_
      refine z_aload_n dX10_wanted_339 rfl ?_
      obtain ⟨x34, s35, q36, hf⟩ := zbn_of hf
      refine z_cV (as := []) hok dX10_wanted_340 kX10_187 (tX10_ahead hok (d - 1) (by omega) N   q36) rfl (at_Model s32) rfl rfl (by omega) (Nat.le_of_ble_eq_true rfl) (Nat.zero_le _) (Nat.zero_le _) rfl ?_
      refine z_aload_n dX10_wanted_343 rfl ?_
      obtain ⟨x37, s38, q39, hf⟩ := zbn_of hf
      refine z_cV (as := []) hok dX10_wanted_344 kX10_177 (tX10_next hok (d - 1) (by omega) N   q39) rfl (at_Model s35) rfl rfl (by omega) (Nat.le_of_ble_eq_true rfl) (Nat.zero_le _) (Nat.zero_le _) rfl ?_
      refine z_iconst 1 dX10_wanted_347 (by decide +kernel) ?_
      cases hf
      exact z_iret rfl dX10_wanted_348 (Nat.zero_le _) (Nat.zero_le _) ⟨rfl, rfl⟩
  · have hf := zifp hf c303
    refine z_iconst 0 dX10_wanted_306 (by decide +kernel) ?_
    refine z_goto 335 dX10_wanted_307 (by decide) ?_
    refine z_iload_n dX10_wanted_335 rfl ?_
    obtain ⟨x40, s41, q42, hf⟩ := zbn_of hf
    refine z_cV (as := [_, _]) hok dX10_wanted_336 kX10_158 (tX10_emit hok (d - 1) N 0 v3  q42) rfl (at_Model s) rfl rfl (by omega) (Nat.le_of_ble_eq_true rfl) (Nat.zero_le _) (Nat.zero_le _) rfl ?_
    refine z_aload_n dX10_wanted_339 rfl ?_
    obtain ⟨x43, s44, q45, hf⟩ := zbn_of hf
    refine z_cV (as := []) hok dX10_wanted_340 kX10_187 (tX10_ahead hok (d - 1) (by omega) N   q45) rfl (at_Model s41) rfl rfl (by omega) (Nat.le_of_ble_eq_true rfl) (Nat.zero_le _) (Nat.zero_le _) rfl ?_
    refine z_aload_n dX10_wanted_343 rfl ?_
    obtain ⟨x46, s47, q48, hf⟩ := zbn_of hf
    refine z_cV (as := []) hok dX10_wanted_344 kX10_177 (tX10_next hok (d - 1) (by omega) N   q48) rfl (at_Model s44) rfl rfl (by omega) (Nat.le_of_ble_eq_true rfl) (Nat.zero_le _) (Nat.zero_le _) rfl ?_
    refine z_iconst 1 dX10_wanted_347 (by decide +kernel) ?_
    cases hf
    exact z_iret rfl dX10_wanted_348 (Nat.zero_le _) (Nat.zero_le _) ⟨rfl, rfl⟩
noncomputable def fX10_wanted_J274 (N : Nat)  (k0 : Int32) (s : zS) : Option (Int32 × zS) := if (s.1 3315) = 1 then if k0 = (-1) then zbn (fX10_fail N 8 s) (fun x49 s50 => some (0, s50)) else fX10_wanted_J297 N  k0 s else fX10_wanted_J297 N  k0 s
set_option maxHeartbeats 400000 in
set_option maxRecDepth 100000 in
theorem tX10_wanted_J274 {g : zGl} (hok : zGok g) (d : Nat) (hd : 4 ≤ d) (N : Nat)   {mc ms n0 : Nat} (k0 : Int32) {s s' : zS} {w : Int32} (hf : fX10_wanted_J274 N  k0 s = some (w, s')) : zW g mX10_wanted d mc ms n0 (zret (some (.int w)) (zHp s')) 0 0 (zHp s) [some (.ref 33), none, none, none] [.int k0] 274 := by
  unfold fX10_wanted_J274 at hf
  refine z_istore_n (ls' := [_, _, _, _]) dX10_wanted_274 (by decide) rfl ?_
  refine z_aload_n dX10_wanted_275 rfl ?_
  refine z_getf dX10_wanted_276 fX10_79 (at_Model s) rfl ?_
  refine z_iconst 1 dX10_wanted_279 (by decide +kernel) ?_
  refine z_icmp_ne 297 dX10_wanted_280 (by decide) (fun c280 => ?_) (fun c280 => ?_)
  · have hf := zifn hf c280
    refine z_mask (ls' := [_, _, _, _]) [true, false, false, true] rfl ?_
    exact tX10_wanted_J297 hok d (by omega) N   k0 hf
  · have hf := zifp hf c280
    refine z_iload_n dX10_wanted_283 rfl ?_
    refine z_iconst (-1) dX10_wanted_284 (by decide +kernel) ?_
    refine z_icmp_ne 297 dX10_wanted_285 (by decide) (fun c285 => ?_) (fun c285 => ?_)
    · have hf := zifn hf c285
      refine z_mask (ls' := [_, _, _, _]) [true, false, false, true] rfl ?_
      exact tX10_wanted_J297 hok d (by omega) N   k0 hf
    · have hf := zifp hf c285
      refine z_aload_n dX10_wanted_288 rfl ?_
      refine z_bipush 8 dX10_wanted_289 (by decide +kernel) ?_
      obtain ⟨x49, s50, q51, hf⟩ := zbn_of hf
      refine z_cV (as := [_]) hok dX10_wanted_291 kX10_152 (tX10_fail hok (d - 1) N 8  q51) rfl (at_Model s) rfl rfl (by omega) (Nat.le_of_ble_eq_true rfl) (Nat.zero_le _) (Nat.zero_le _) rfl ?_
      refine z_pop dX10_wanted_294 rfl ?_
      refine z_iconst 0 dX10_wanted_295 (by decide +kernel) ?_
      cases hf
      exact z_iret rfl dX10_wanted_296 (Nat.zero_le _) (Nat.zero_le _) ⟨rfl, rfl⟩
noncomputable def fX10_wanted_J215 (N : Nat)  (k0 : Int32) (k1 : Int32) (s : zS) : Option (Int32 × zS) := if zga k1 (zlen 43) = true then zbn (fX10_next N  (zsc (zsc (zsr s 43 k1 k0) 3323 ((s.1 3323) + 1)) 3326 ((s.1 3326) + 1))) (fun x56 s57 => some (2, s57)) else none
set_option maxHeartbeats 400000 in
set_option maxRecDepth 100000 in
theorem tX10_wanted_J215 {g : zGl} (hok : zGok g) (d : Nat) (hd : 4 ≤ d) (N : Nat)   {mc ms n0 : Nat} (k0 : Int32) (k1 : Int32) {s s' : zS} {w : Int32} (hf : fX10_wanted_J215 N  k0 k1 s = some (w, s')) : zW g mX10_wanted d mc ms n0 (zret (some (.int w)) (zHp s')) 0 0 (zHp s) [some (.ref 33), none, none, none] [.int k0, .int k1, .ref 43] 215 := by
  unfold fX10_wanted_J215 at hf
  obtain ⟨hi55, hf⟩ := zifs hf
  refine z_iastore dX10_wanted_215 (at_arr s 43 (by decide)) (zga_in hi55) (st_arr s 43 (by decide) k1 k0) ?_
  refine z_aload_n dX10_wanted_216 rfl ?_
  refine z_dup dX10_wanted_217 rfl ?_
  refine z_getf dX10_wanted_218 fX10_155 (at_Model (zsr s 43 k1 k0)) rfl ?_
  refine z_iconst 1 dX10_wanted_221 (by decide +kernel) ?_
  refine z_iadd dX10_wanted_222 ?_
  refine z_putf dX10_wanted_223 fX10_155 wX10_23 (at_Model (zsr s 43 k1 k0)) (Nat.le_of_ble_eq_true rfl) (fun _ => rfl) (fun _ => rfl) (st_Model_23 (zsr s 43 k1 k0) ((s.1 3323) + 1)) ?_
  refine z_aload_n dX10_wanted_226 rfl ?_
  refine z_dup dX10_wanted_227 rfl ?_
  refine z_getf dX10_wanted_228 fX10_161 (at_Model (zsc (zsr s 43 k1 k0) 3323 ((s.1 3323) + 1))) rfl ?_
  refine z_iconst 1 dX10_wanted_231 (by decide +kernel) ?_
  refine z_iadd dX10_wanted_232 ?_
  refine z_putf dX10_wanted_233 fX10_161 wX10_26 (at_Model (zsc (zsr s 43 k1 k0) 3323 ((s.1 3323) + 1))) (Nat.le_of_ble_eq_true rfl) (fun _ => rfl) (fun _ => rfl) (st_Model_26 (zsc (zsr s 43 k1 k0) 3323 ((s.1 3323) + 1)) ((s.1 3326) + 1)) ?_
  refine z_aload_n dX10_wanted_236 rfl ?_
  obtain ⟨x56, s57, q58, hf⟩ := zbn_of hf
  refine z_cV (as := []) hok dX10_wanted_237 kX10_177 (tX10_next hok (d - 1) (by omega) N   q58) rfl (at_Model (zsc (zsc (zsr s 43 k1 k0) 3323 ((s.1 3323) + 1)) 3326 ((s.1 3326) + 1))) rfl rfl (by omega) (Nat.le_of_ble_eq_true rfl) (Nat.zero_le _) (Nat.zero_le _) rfl ?_
  refine z_iconst 2 dX10_wanted_240 (by decide +kernel) ?_
  cases hf
  exact z_iret rfl dX10_wanted_241 (Nat.zero_le _) (Nat.zero_le _) ⟨rfl, rfl⟩
noncomputable def fX10_wanted_J105 (N : Nat)  (v1 : Int32) (s : zS) : Option (Int32 × zS) := if (s.1 3326) ≤ 20 then zbn (fX10_isSign N 40 s) (fun x7 s8 => if x7 = 0 then zbn (fX10_tally N  s8) (fun x10 s11 => if x10 = 0 then some (0, s11) else if v1 = 0 then if (s11.1 3315) = 1 then zbn (fX10_number N  s11) (fun x52 s53 => fX10_wanted_J274 N  x52 s53) else if (s11.1 3315) = 7 then fX10_wanted_J274 N  0 s11 else fX10_wanted_J274 N  (s11.1 3316) s11 else if (s11.1 3316) = 45 then fX10_wanted_J215 N  10 (s11.1 3323) s11 else fX10_wanted_J215 N  11 (s11.1 3323) s11) else if zga (s8.1 3323) (zlen 43) = true then zbn (fX10_next N  (zsc (zsc (zsc (zsr s8 43 (s8.1 3323) 1) 3323 ((s8.1 3323) + 1)) 3327 ((s8.1 3327) + 1)) 3326 ((s8.1 3326) + 1))) (fun x60 s61 => some (2, s61)) else none) else zbn (fX10_fail N 7 s) (fun x63 s64 => some (0, s64))
set_option maxHeartbeats 400000 in
set_option maxRecDepth 100000 in
theorem tX10_wanted_J105 {g : zGl} (hok : zGok g) (d : Nat) (hd : 4 ≤ d) (N : Nat)   {mc ms n0 : Nat} (v1 : Int32) {s s' : zS} {w : Int32} (hf : fX10_wanted_J105 N  v1 s = some (w, s')) : zW g mX10_wanted d mc ms n0 (zret (some (.int w)) (zHp s')) 0 0 (zHp s) [some (.ref 33), some (.int v1), none, none] [] 105 := by
  unfold fX10_wanted_J105 at hf
  refine z_aload_n dX10_wanted_105 rfl ?_
  refine z_getf dX10_wanted_106 fX10_161 (at_Model s) rfl ?_
  refine z_bipush 20 dX10_wanted_109 (by decide +kernel) ?_
  refine z_icmp_le 123 dX10_wanted_111 (by decide) (fun c111 => ?_) (fun c111 => ?_)
  · have hf := zifp hf c111
    refine z_aload_n dX10_wanted_123 rfl ?_
    refine z_bipush 40 dX10_wanted_124 (by decide +kernel) ?_
    obtain ⟨x7, s8, q9, hf⟩ := zbn_of hf
    refine z_cV (as := [_]) hok dX10_wanted_126 kX10_167 (tX10_isSign hok (d - 1) N 40  q9) rfl (at_Model s) rfl rfl (by omega) (Nat.le_of_ble_eq_true rfl) (Nat.zero_le _) (Nat.zero_le _) rfl ?_
    refine z_if_eq 178 dX10_wanted_129 (by decide) (fun c129 => ?_) (fun c129 => ?_)
    · have hf := zifp hf c129
      refine z_aload_n dX10_wanted_178 rfl ?_
      obtain ⟨x10, s11, q12, hf⟩ := zbn_of hf
      refine z_cV (as := []) hok dX10_wanted_179 kX10_180 (tX10_tally hok (d - 1) (by omega) N   q12) rfl (at_Model s8) rfl rfl (by omega) (Nat.le_of_ble_eq_true rfl) (Nat.zero_le _) (Nat.zero_le _) rfl ?_
      refine z_if_ne 187 dX10_wanted_182 (by decide) (fun c182 => ?_) (fun c182 => ?_)
      · have hf := zifn hf c182
        refine z_iload_n dX10_wanted_187 rfl ?_
        refine z_if_eq 242 dX10_wanted_188 (by decide) (fun c188 => ?_) (fun c188 => ?_)
        · have hf := zifp hf c188
          refine z_aload_n dX10_wanted_242 rfl ?_
          refine z_getf dX10_wanted_243 fX10_79 (at_Model s11) rfl ?_
          refine z_iconst 1 dX10_wanted_246 (by decide +kernel) ?_
          refine z_icmp_ne 257 dX10_wanted_247 (by decide) (fun c247 => ?_) (fun c247 => ?_)
          · have hf := zifn hf c247
            refine z_aload_n dX10_wanted_257 rfl ?_
            refine z_getf dX10_wanted_258 fX10_79 (at_Model s11) rfl ?_
            refine z_bipush 7 dX10_wanted_261 (by decide +kernel) ?_
            refine z_icmp_ne 270 dX10_wanted_263 (by decide) (fun c263 => ?_) (fun c263 => ?_)
            · have hf := zifn hf c263
              refine z_aload_n dX10_wanted_270 rfl ?_
              refine z_getf dX10_wanted_271 fX10_82 (at_Model s11) rfl ?_
              refine z_mask (ls' := [_, _, _, _]) [true, false, false, false] rfl ?_
              exact tX10_wanted_J274 hok d (by omega) N   (s11.1 3316) hf
            · have hf := zifp hf c263
              refine z_iconst 0 dX10_wanted_266 (by decide +kernel) ?_
              refine z_goto 274 dX10_wanted_267 (by decide) ?_
              refine z_mask (ls' := [_, _, _, _]) [true, false, false, false] rfl ?_
              exact tX10_wanted_J274 hok d (by omega) N   0 hf
          · have hf := zifp hf c247
            refine z_aload_n dX10_wanted_250 rfl ?_
            obtain ⟨x52, s53, q54, hf⟩ := zbn_of hf
            refine z_cV (as := []) hok dX10_wanted_251 kX10_184 (tX10_number hok (d - 1) (by omega) N   q54) rfl (at_Model s11) rfl rfl (by omega) (Nat.le_of_ble_eq_true rfl) (Nat.zero_le _) (Nat.zero_le _) rfl ?_
            refine z_goto 274 dX10_wanted_254 (by decide) ?_
            refine z_mask (ls' := [_, _, _, _]) [true, false, false, false] rfl ?_
            exact tX10_wanted_J274 hok d (by omega) N   x52 hf
        · have hf := zifn hf c188
          refine z_aload_n dX10_wanted_191 rfl ?_
          refine z_getf dX10_wanted_192 fX10_41 (at_Model s11) rfl ?_
          refine z_aload_n dX10_wanted_195 rfl ?_
          refine z_getf dX10_wanted_196 fX10_155 (at_Model s11) rfl ?_
          refine z_aload_n dX10_wanted_199 rfl ?_
          refine z_getf dX10_wanted_200 fX10_82 (at_Model s11) rfl ?_
          refine z_bipush 45 dX10_wanted_203 (by decide +kernel) ?_
          refine z_icmp_ne 213 dX10_wanted_205 (by decide) (fun c205 => ?_) (fun c205 => ?_)
          · have hf := zifn hf c205
            refine z_bipush 11 dX10_wanted_213 (by decide +kernel) ?_
            refine z_mask (ls' := [_, _, _, _]) [true, false, false, false] rfl ?_
            exact tX10_wanted_J215 hok d (by omega) N   11 (s11.1 3323) hf
          · have hf := zifp hf c205
            refine z_bipush 10 dX10_wanted_208 (by decide +kernel) ?_
            refine z_goto 215 dX10_wanted_210 (by decide) ?_
            refine z_mask (ls' := [_, _, _, _]) [true, false, false, false] rfl ?_
            exact tX10_wanted_J215 hok d (by omega) N   10 (s11.1 3323) hf
      · have hf := zifp hf c182
        refine z_iconst 0 dX10_wanted_185 (by decide +kernel) ?_
        cases hf
        exact z_iret rfl dX10_wanted_186 (Nat.zero_le _) (Nat.zero_le _) ⟨rfl, rfl⟩
    · have hf := zifn hf c129
      refine z_aload_n dX10_wanted_132 rfl ?_
      refine z_getf dX10_wanted_133 fX10_41 (at_Model s8) rfl ?_
      refine z_aload_n dX10_wanted_136 rfl ?_
      refine z_getf dX10_wanted_137 fX10_155 (at_Model s8) rfl ?_
      refine z_iconst 1 dX10_wanted_140 (by decide +kernel) ?_
      obtain ⟨hi59, hf⟩ := zifs hf
      refine z_iastore dX10_wanted_141 (at_arr s8 43 (by decide)) (zga_in hi59) (st_arr s8 43 (by decide) (s8.1 3323) 1) ?_
      refine z_aload_n dX10_wanted_142 rfl ?_
      refine z_dup dX10_wanted_143 rfl ?_
      refine z_getf dX10_wanted_144 fX10_155 (at_Model (zsr s8 43 (s8.1 3323) 1)) rfl ?_
      refine z_iconst 1 dX10_wanted_147 (by decide +kernel) ?_
      refine z_iadd dX10_wanted_148 ?_
      refine z_putf dX10_wanted_149 fX10_155 wX10_23 (at_Model (zsr s8 43 (s8.1 3323) 1)) (Nat.le_of_ble_eq_true rfl) (fun _ => rfl) (fun _ => rfl) (st_Model_23 (zsr s8 43 (s8.1 3323) 1) ((s8.1 3323) + 1)) ?_
      refine z_aload_n dX10_wanted_152 rfl ?_
      refine z_dup dX10_wanted_153 rfl ?_
      refine z_getf dX10_wanted_154 fX10_174 (at_Model (zsc (zsr s8 43 (s8.1 3323) 1) 3323 ((s8.1 3323) + 1))) rfl ?_
      refine z_iconst 1 dX10_wanted_157 (by decide +kernel) ?_
      refine z_iadd dX10_wanted_158 ?_
      refine z_putf dX10_wanted_159 fX10_174 wX10_27 (at_Model (zsc (zsr s8 43 (s8.1 3323) 1) 3323 ((s8.1 3323) + 1))) (Nat.le_of_ble_eq_true rfl) (fun _ => rfl) (fun _ => rfl) (st_Model_27 (zsc (zsr s8 43 (s8.1 3323) 1) 3323 ((s8.1 3323) + 1)) ((s8.1 3327) + 1)) ?_
      refine z_aload_n dX10_wanted_162 rfl ?_
      refine z_dup dX10_wanted_163 rfl ?_
      refine z_getf dX10_wanted_164 fX10_161 (at_Model (zsc (zsc (zsr s8 43 (s8.1 3323) 1) 3323 ((s8.1 3323) + 1)) 3327 ((s8.1 3327) + 1))) rfl ?_
      refine z_iconst 1 dX10_wanted_167 (by decide +kernel) ?_
      refine z_iadd dX10_wanted_168 ?_
      refine z_putf dX10_wanted_169 fX10_161 wX10_26 (at_Model (zsc (zsc (zsr s8 43 (s8.1 3323) 1) 3323 ((s8.1 3323) + 1)) 3327 ((s8.1 3327) + 1))) (Nat.le_of_ble_eq_true rfl) (fun _ => rfl) (fun _ => rfl) (st_Model_26 (zsc (zsc (zsr s8 43 (s8.1 3323) 1) 3323 ((s8.1 3323) + 1)) 3327 ((s8.1 3327) + 1)) ((s8.1 3326) + 1)) ?_
      refine z_aload_n dX10_wanted_172 rfl ?_
      obtain ⟨x60, s61, q62, hf⟩ := zbn_of hf
      refine z_cV (as := []) hok dX10_wanted_173 kX10_177 (tX10_next hok (d - 1) (by omega) N   q62) rfl (at_Model (zsc (zsc (zsc (zsr s8 43 (s8.1 3323) 1) 3323 ((s8.1 3323) + 1)) 3327 ((s8.1 3327) + 1)) 3326 ((s8.1 3326) + 1))) rfl rfl (by omega) (Nat.le_of_ble_eq_true rfl) (Nat.zero_le _) (Nat.zero_le _) rfl ?_
      refine z_iconst 2 dX10_wanted_176 (by decide +kernel) ?_
      cases hf
      exact z_iret rfl dX10_wanted_177 (Nat.zero_le _) (Nat.zero_le _) ⟨rfl, rfl⟩
  · have hf := zifn hf c111
    refine z_aload_n dX10_wanted_114 rfl ?_
    refine z_bipush 7 dX10_wanted_115 (by decide +kernel) ?_
    obtain ⟨x63, s64, q65, hf⟩ := zbn_of hf
    refine z_cV (as := [_]) hok dX10_wanted_117 kX10_152 (tX10_fail hok (d - 1) N 7  q65) rfl (at_Model s) rfl rfl (by omega) (Nat.le_of_ble_eq_true rfl) (Nat.zero_le _) (Nat.zero_le _) rfl ?_
    refine z_pop dX10_wanted_120 rfl ?_
    refine z_iconst 0 dX10_wanted_121 (by decide +kernel) ?_
    cases hf
    exact z_iret rfl dX10_wanted_122 (Nat.zero_le _) (Nat.zero_le _) ⟨rfl, rfl⟩
noncomputable def fX10_wanted_J62 (N : Nat)  (v1 : Int32) (k0 : Int32) (s : zS) : Option (Int32 × zS) := zbn (fX10_register N  s) (fun x4 s5 => if x4 = (-1) then if v1 = 0 then if k0 = 0 then zbn (fX10_isSign N 40 s5) (fun x66 s67 => if x66 = 0 then zbn (fX10_fail N 5 s67) (fun x69 s70 => some (0, s70)) else fX10_wanted_J105 N  v1 s67) else fX10_wanted_J105 N  v1 s5 else fX10_wanted_J105 N  v1 s5 else zbn (fX10_fail N 6 s5) (fun x72 s73 => some (0, s73)))
set_option maxHeartbeats 400000 in
set_option maxRecDepth 100000 in
theorem tX10_wanted_J62 {g : zGl} (hok : zGok g) (d : Nat) (hd : 4 ≤ d) (N : Nat)   {mc ms n0 : Nat} (v1 : Int32) (k0 : Int32) {s s' : zS} {w : Int32} (hf : fX10_wanted_J62 N  v1 k0 s = some (w, s')) : zW g mX10_wanted d mc ms n0 (zret (some (.int w)) (zHp s')) 0 0 (zHp s) [some (.ref 33), some (.int v1), none, none] [.int k0] 62 := by
  unfold fX10_wanted_J62 at hf
  refine z_istore_n (ls' := [_, _, _, _]) dX10_wanted_62 (by decide) rfl ?_
  refine z_aload_n dX10_wanted_63 rfl ?_
  obtain ⟨x4, s5, q6, hf⟩ := zbn_of hf
  refine z_cV (as := []) hok dX10_wanted_64 kX10_170 (tX10_register hok (d - 1) (by omega) N   q6) rfl (at_Model s) rfl rfl (by omega) (Nat.le_of_ble_eq_true rfl) (Nat.zero_le _) (Nat.zero_le _) rfl ?_
  refine z_iconst (-1) dX10_wanted_67 (by decide +kernel) ?_
  refine z_icmp_eq 80 dX10_wanted_68 (by decide) (fun c68 => ?_) (fun c68 => ?_)
  · have hf := zifp hf c68
    refine z_iload_n dX10_wanted_80 rfl ?_
    refine z_if_ne 105 dX10_wanted_81 (by decide) (fun c81 => ?_) (fun c81 => ?_)
    · have hf := zifn hf c81
      refine z_mask (ls' := [_, _, _, _]) [true, true, false, false] rfl ?_
      exact tX10_wanted_J105 hok d (by omega) N   v1 hf
    · have hf := zifp hf c81
      refine z_iload_n dX10_wanted_84 rfl ?_
      refine z_if_ne 105 dX10_wanted_85 (by decide) (fun c85 => ?_) (fun c85 => ?_)
      · have hf := zifn hf c85
        refine z_mask (ls' := [_, _, _, _]) [true, true, false, false] rfl ?_
        exact tX10_wanted_J105 hok d (by omega) N   v1 hf
      · have hf := zifp hf c85
        refine z_aload_n dX10_wanted_88 rfl ?_
        refine z_bipush 40 dX10_wanted_89 (by decide +kernel) ?_
        obtain ⟨x66, s67, q68, hf⟩ := zbn_of hf
        refine z_cV (as := [_]) hok dX10_wanted_91 kX10_167 (tX10_isSign hok (d - 1) N 40  q68) rfl (at_Model s5) rfl rfl (by omega) (Nat.le_of_ble_eq_true rfl) (Nat.zero_le _) (Nat.zero_le _) rfl ?_
        refine z_if_ne 105 dX10_wanted_94 (by decide) (fun c94 => ?_) (fun c94 => ?_)
        · have hf := zifn hf c94
          refine z_mask (ls' := [_, _, _, _]) [true, true, false, false] rfl ?_
          exact tX10_wanted_J105 hok d (by omega) N   v1 hf
        · have hf := zifp hf c94
          refine z_aload_n dX10_wanted_97 rfl ?_
          refine z_iconst 5 dX10_wanted_98 (by decide +kernel) ?_
          obtain ⟨x69, s70, q71, hf⟩ := zbn_of hf
          refine z_cV (as := [_]) hok dX10_wanted_99 kX10_152 (tX10_fail hok (d - 1) N 5  q71) rfl (at_Model s67) rfl rfl (by omega) (Nat.le_of_ble_eq_true rfl) (Nat.zero_le _) (Nat.zero_le _) rfl ?_
          refine z_pop dX10_wanted_102 rfl ?_
          refine z_iconst 0 dX10_wanted_103 (by decide +kernel) ?_
          cases hf
          exact z_iret rfl dX10_wanted_104 (Nat.zero_le _) (Nat.zero_le _) ⟨rfl, rfl⟩
  · have hf := zifn hf c68
    refine z_aload_n dX10_wanted_71 rfl ?_
    refine z_bipush 6 dX10_wanted_72 (by decide +kernel) ?_
    obtain ⟨x72, s73, q74, hf⟩ := zbn_of hf
    refine z_cV (as := [_]) hok dX10_wanted_74 kX10_152 (tX10_fail hok (d - 1) N 6  q74) rfl (at_Model s5) rfl rfl (by omega) (Nat.le_of_ble_eq_true rfl) (Nat.zero_le _) (Nat.zero_le _) rfl ?_
    refine z_pop dX10_wanted_77 rfl ?_
    refine z_iconst 0 dX10_wanted_78 (by decide +kernel) ?_
    cases hf
    exact z_iret rfl dX10_wanted_79 (Nat.zero_le _) (Nat.zero_le _) ⟨rfl, rfl⟩
noncomputable def fX10_wanted_J57 (N : Nat)  (v1 : Int32) (s : zS) : Option (Int32 × zS) := fX10_wanted_J62 N  v1 1 s
set_option maxHeartbeats 400000 in
set_option maxRecDepth 100000 in
theorem tX10_wanted_J57 {g : zGl} (hok : zGok g) (d : Nat) (hd : 4 ≤ d) (N : Nat)   {mc ms n0 : Nat} (v1 : Int32) {s s' : zS} {w : Int32} (hf : fX10_wanted_J57 N  v1 s = some (w, s')) : zW g mX10_wanted d mc ms n0 (zret (some (.int w)) (zHp s')) 0 0 (zHp s) [some (.ref 33), some (.int v1), none, none] [] 57 := by
  unfold fX10_wanted_J57 at hf
  refine z_iconst 1 dX10_wanted_57 (by decide +kernel) ?_
  refine z_goto 62 dX10_wanted_58 (by decide) ?_
  refine z_mask (ls' := [_, _, _, _]) [true, true, false, false] rfl ?_
  exact tX10_wanted_J62 hok d (by omega) N   v1 1 hf
noncomputable def fX10_wanted_J23 (N : Nat)  (k0 : Int32) (s : zS) : Option (Int32 × zS) := if (s.1 3315) = 2 then fX10_wanted_J57 N  k0 s else if (s.1 3315) = 3 then fX10_wanted_J57 N  k0 s else if (s.1 3315) = 7 then fX10_wanted_J57 N  k0 s else if (s.1 3315) = 1 then fX10_wanted_J57 N  k0 s else fX10_wanted_J62 N  k0 0 s
set_option maxHeartbeats 400000 in
set_option maxRecDepth 100000 in
theorem tX10_wanted_J23 {g : zGl} (hok : zGok g) (d : Nat) (hd : 4 ≤ d) (N : Nat)   {mc ms n0 : Nat} (k0 : Int32) {s s' : zS} {w : Int32} (hf : fX10_wanted_J23 N  k0 s = some (w, s')) : zW g mX10_wanted d mc ms n0 (zret (some (.int w)) (zHp s')) 0 0 (zHp s) [some (.ref 33), none, none, none] [.int k0] 23 := by
  unfold fX10_wanted_J23 at hf
  refine z_istore_n (ls' := [_, _, _, _]) dX10_wanted_23 (by decide) rfl ?_
  refine z_aload_n dX10_wanted_24 rfl ?_
  refine z_getf dX10_wanted_25 fX10_79 (at_Model s) rfl ?_
  refine z_iconst 2 dX10_wanted_28 (by decide +kernel) ?_
  refine z_icmp_eq 57 dX10_wanted_29 (by decide) (fun c29 => ?_) (fun c29 => ?_)
  · have hf := zifp hf c29
    refine z_mask (ls' := [_, _, _, _]) [true, true, false, false] rfl ?_
    exact tX10_wanted_J57 hok d (by omega) N   k0 hf
  · have hf := zifn hf c29
    refine z_aload_n dX10_wanted_32 rfl ?_
    refine z_getf dX10_wanted_33 fX10_79 (at_Model s) rfl ?_
    refine z_iconst 3 dX10_wanted_36 (by decide +kernel) ?_
    refine z_icmp_eq 57 dX10_wanted_37 (by decide) (fun c37 => ?_) (fun c37 => ?_)
    · have hf := zifp hf c37
      refine z_mask (ls' := [_, _, _, _]) [true, true, false, false] rfl ?_
      exact tX10_wanted_J57 hok d (by omega) N   k0 hf
    · have hf := zifn hf c37
      refine z_aload_n dX10_wanted_40 rfl ?_
      refine z_getf dX10_wanted_41 fX10_79 (at_Model s) rfl ?_
      refine z_bipush 7 dX10_wanted_44 (by decide +kernel) ?_
      refine z_icmp_eq 57 dX10_wanted_46 (by decide) (fun c46 => ?_) (fun c46 => ?_)
      · have hf := zifp hf c46
        refine z_mask (ls' := [_, _, _, _]) [true, true, false, false] rfl ?_
        exact tX10_wanted_J57 hok d (by omega) N   k0 hf
      · have hf := zifn hf c46
        refine z_aload_n dX10_wanted_49 rfl ?_
        refine z_getf dX10_wanted_50 fX10_79 (at_Model s) rfl ?_
        refine z_iconst 1 dX10_wanted_53 (by decide +kernel) ?_
        refine z_icmp_ne 61 dX10_wanted_54 (by decide) (fun c54 => ?_) (fun c54 => ?_)
        · have hf := zifn hf c54
          refine z_iconst 0 dX10_wanted_61 (by decide +kernel) ?_
          refine z_mask (ls' := [_, _, _, _]) [true, true, false, false] rfl ?_
          exact tX10_wanted_J62 hok d (by omega) N   k0 0 hf
        · have hf := zifp hf c54
          refine z_mask (ls' := [_, _, _, _]) [true, true, false, false] rfl ?_
          exact tX10_wanted_J57 hok d (by omega) N   k0 hf
noncomputable def fX10_wanted_J18 (N : Nat)   (s : zS) : Option (Int32 × zS) := fX10_wanted_J23 N  1 s
set_option maxHeartbeats 400000 in
set_option maxRecDepth 100000 in
theorem tX10_wanted_J18 {g : zGl} (hok : zGok g) (d : Nat) (hd : 4 ≤ d) (N : Nat)   {mc ms n0 : Nat}  {s s' : zS} {w : Int32} (hf : fX10_wanted_J18 N   s = some (w, s')) : zW g mX10_wanted d mc ms n0 (zret (some (.int w)) (zHp s')) 0 0 (zHp s) [some (.ref 33), none, none, none] [] 18 := by
  unfold fX10_wanted_J18 at hf
  refine z_iconst 1 dX10_wanted_18 (by decide +kernel) ?_
  refine z_goto 23 dX10_wanted_19 (by decide) ?_
  refine z_mask (ls' := [_, _, _, _]) [true, false, false, false] rfl ?_
  exact tX10_wanted_J23 hok d (by omega) N   1 hf
noncomputable def fX10_wanted (N : Nat)  (s : zS) : Option (Int32 × zS) := zbn (fX10_isSign N 45 s) (fun x1 s2 => if x1 = 0 then zbn (fX10_isSign N 126 s2) (fun x75 s76 => if x75 = 0 then fX10_wanted_J23 N  0 s76 else fX10_wanted_J18 N   s76) else fX10_wanted_J18 N   s2)
set_option maxHeartbeats 400000 in
set_option maxRecDepth 100000 in
theorem tX10_wanted {g : zGl} (hok : zGok g) (d : Nat) (hd : 4 ≤ d) (N : Nat)   {s s' : zS} {w : Int32} (hf : fX10_wanted N  s = some (w, s')) : zMet g mX10_wanted d 0 0 [.ref 33] (zHp s) (zret (some (.int w)) (zHp s')) := by
  refine zMet.ofW (by decide +kernel) (Nat.le_of_ble_eq_true rfl) ?_
  show zW g mX10_wanted d 0 0 51 _ 0 0 (zHp s) [some (.ref 33), none, none, none] [] 0
  unfold fX10_wanted at hf
  refine z_aload_n dX10_wanted_0 rfl ?_
  refine z_bipush 45 dX10_wanted_1 (by decide +kernel) ?_
  obtain ⟨x1, s2, q3, hf⟩ := zbn_of hf
  refine z_cV (as := [_]) hok dX10_wanted_3 kX10_167 (tX10_isSign hok (d - 1) N 45  q3) rfl (at_Model s) rfl rfl (by omega) (Nat.le_of_ble_eq_true rfl) (Nat.zero_le _) (Nat.zero_le _) rfl ?_
  refine z_if_ne 18 dX10_wanted_6 (by decide) (fun c6 => ?_) (fun c6 => ?_)
  · have hf := zifn hf c6
    refine z_mask (ls' := [_, _, _, _]) [true, false, false, false] rfl ?_
    exact tX10_wanted_J18 hok d (by omega) N    hf
  · have hf := zifp hf c6
    refine z_aload_n dX10_wanted_9 rfl ?_
    refine z_bipush 126 dX10_wanted_10 (by decide +kernel) ?_
    obtain ⟨x75, s76, q77, hf⟩ := zbn_of hf
    refine z_cV (as := [_]) hok dX10_wanted_12 kX10_167 (tX10_isSign hok (d - 1) N 126  q77) rfl (at_Model s2) rfl rfl (by omega) (Nat.le_of_ble_eq_true rfl) (Nat.zero_le _) (Nat.zero_le _) rfl ?_
    refine z_if_eq 22 dX10_wanted_15 (by decide) (fun c15 => ?_) (fun c15 => ?_)
    · have hf := zifp hf c15
      refine z_iconst 0 dX10_wanted_22 (by decide +kernel) ?_
      refine z_mask (ls' := [_, _, _, _]) [true, false, false, false] rfl ?_
      exact tX10_wanted_J23 hok d (by omega) N   0 hf
    · have hf := zifn hf c15
      refine z_mask (ls' := [_, _, _, _]) [true, false, false, false] rfl ?_
      exact tX10_wanted_J18 hok d (by omega) N    hf

