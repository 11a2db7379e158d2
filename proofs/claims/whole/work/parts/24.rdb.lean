noncomputable def fX3_readOne_J75 (N : Nat) (rc0 : Int32 → zS → Option (Option Unit × zS)) (rc1 : Int32 → Int32 → zS → Option (Option Unit × zS)) (p0 : Int32) (v2 : Int32) (k0 : Int32) (s : zS) : Option (Option Unit × zS) := zbt (fX3_step N  s) (fun sx => some (none, sx)) (fun x13 s14 => zbn (fX1_isAhead N v2 s14) (fun x16 s17 => if x16 = 0 then if zBk (s17.2.2.1 302) then zbn (fX0_addItem N (s17.2.2.1 302) v2 k0 s17) (fun x20 s21 => some (some (), s21)) else none else zbt (rc0 (p0 + 1) s17) (fun sx => some (none, sx)) (fun x23 s24 => if zBk (s24.2.2.1 302) then zbn (fX0_addItem N (s24.2.2.1 302) v2 k0 s24) (fun x27 s28 => some (some (), s28)) else none)))
set_option maxHeartbeats 400000 in
set_option maxRecDepth 100000 in
theorem tX3_readOne_J75 {g : zGl} {n1 : Nat} (hok : zGok g) (d : Nat) (hd : n1 + 21 ≤ d) (N : Nat) (rc0 : Int32 → zS → Option (Option Unit × zS)) (rc1 : Int32 → Int32 → zS → Option (Option Unit × zS)) (p0 : Int32) (hrc0 : ∀ (d : Nat), n1 + 20 ≤ d → ∀ (p0 : Int32),  ∀ {s s' : zS} {w : Option Unit}, rc0 p0 s = some (w, s') → zMet g mX3_readOne d (zk1 w) (zk6 w) [.ref 3, .int p0] (zHp s) (zendV w (zHp s'))) (hrc1 : ∀ (d : Nat), n1 + 20 ≤ d → ∀ (p0 : Int32) (p1 : Int32),  ∀ {s s' : zS} {w : Option Unit}, rc1 p0 p1 s = some (w, s') → zMet g mX3_readSides d (zk1 w) (zk6 w) [.ref 3, .int p0, .int p1] (zHp s) (zendV w (zHp s'))) {mc ms n0 : Nat} (v2 : Int32) (k0 : Int32) {s s' : zS} {w : Option Unit} (emc : zk1 w = mc) (ems : zk6 w = ms) (hf : fX3_readOne_J75 N rc0 rc1 p0 v2 k0 s = some (w, s')) : zW g mX3_readOne d mc ms n0 (zendV w (zHp s')) 0 0 (zHp s) [some (.ref 3), some (.int p0), some (.int v2), none] [.int k0] 75 := by
  unfold fX3_readOne_J75 at hf
  refine z_istore_n (ls' := [_, _, _, _]) dX3_readOne_75 (by decide) rfl ?_
  refine z_aload_n dX3_readOne_76 rfl ?_
  rcases zbt_of hf with ⟨s14, q15, hf⟩ | ⟨x13, s14, q15, hf⟩
  · cases hf
    have e1 : mc = 1 := emc.symm
    have e2 : ms = 6 := ems.symm
    subst e1
    subst e2
    exact z_xV (as := []) hok dX3_readOne_77 kX3_44 (zcvTV (tX3_step hok (d - 1) (by omega) N   q15)) rfl (at_Reader s) rfl rfl (by omega) (Nat.le_of_ble_eq_true rfl) rfl rfl ⟨rfl, rfl⟩
  · refine z_cV (as := []) hok dX3_readOne_77 kX3_44 (zcvV (tX3_step hok (d - 1) (by omega) N   q15)) rfl (at_Reader s) rfl rfl (by omega) (Nat.le_of_ble_eq_true rfl) (Nat.zero_le _) (Nat.zero_le _) rfl ?_
    refine z_iload_n dX3_readOne_80 rfl ?_
    obtain ⟨x16, s17, q18, hf⟩ := zbn_of hf
    refine z_cS (as := [_]) hok dX3_readOne_81 kX3_208 (tX1_isAhead hok (d - 1) N v2  q18) rfl rfl (by omega) (Nat.le_of_ble_eq_true rfl) (Nat.zero_le _) (Nat.zero_le _) rfl ?_
    refine z_if_eq 94 dX3_readOne_84 (by decide) (fun c84 => ?_) (fun c84 => ?_)
    · have hf := zifp hf c84
      refine z_aload_n dX3_readOne_94 rfl ?_
      refine z_getf dX3_readOne_95 fX3_25 (at_Reader s17) rfl ?_
      obtain ⟨hb19, hf⟩ := zifs hf
      refine z_iload_n dX3_readOne_98 rfl ?_
      refine z_iload_n dX3_readOne_99 rfl ?_
      obtain ⟨x20, s21, q22, hf⟩ := zbn_of hf
      refine z_cV (as := [_, _]) hok dX3_readOne_100 kX3_144 (tX0_addItem hok (d - 1) (by omega) N (s17.2.2.1 302) v2 k0 hb19 q22) rfl (at_Book s17 (s17.2.2.1 302) hb19) rfl rfl (by omega) (Nat.le_of_ble_eq_true rfl) (Nat.zero_le _) (Nat.zero_le _) rfl ?_
      cases hf
      exact z_vret rfl dX3_readOne_103 (Nat.zero_le _) (Nat.zero_le _) ⟨rfl, rfl⟩
    · have hf := zifn hf c84
      refine z_aload_n dX3_readOne_87 rfl ?_
      refine z_iload_n dX3_readOne_88 rfl ?_
      refine z_iconst 1 dX3_readOne_89 (by decide +kernel) ?_
      refine z_iadd dX3_readOne_90 ?_
      rcases zbt_of hf with ⟨s24, q25, hf⟩ | ⟨x23, s24, q25, hf⟩
      · cases hf
        have e1 : mc = 1 := emc.symm
        have e2 : ms = 6 := ems.symm
        subst e1
        subst e2
        exact z_xV (as := [_]) hok dX3_readOne_91 kX3_196 (zcvTV (hrc0 (d - 1) (by omega) (p0 + 1)  q25)) rfl (at_Reader s17) rfl rfl (by omega) (Nat.le_of_ble_eq_true rfl) rfl rfl ⟨rfl, rfl⟩
      · refine z_cV (as := [_]) hok dX3_readOne_91 kX3_196 (zcvV (hrc0 (d - 1) (by omega) (p0 + 1)  q25)) rfl (at_Reader s17) rfl rfl (by omega) (Nat.le_of_ble_eq_true rfl) (Nat.zero_le _) (Nat.zero_le _) rfl ?_
        refine z_aload_n dX3_readOne_94 rfl ?_
        refine z_getf dX3_readOne_95 fX3_25 (at_Reader s24) rfl ?_
        obtain ⟨hb26, hf⟩ := zifs hf
        refine z_iload_n dX3_readOne_98 rfl ?_
        refine z_iload_n dX3_readOne_99 rfl ?_
        obtain ⟨x27, s28, q29, hf⟩ := zbn_of hf
        refine z_cV (as := [_, _]) hok dX3_readOne_100 kX3_144 (tX0_addItem hok (d - 1) (by omega) N (s24.2.2.1 302) v2 k0 hb26 q29) rfl (at_Book s24 (s24.2.2.1 302) hb26) rfl rfl (by omega) (Nat.le_of_ble_eq_true rfl) (Nat.zero_le _) (Nat.zero_le _) rfl ?_
        cases hf
        exact z_vret rfl dX3_readOne_103 (Nat.zero_le _) (Nat.zero_le _) ⟨rfl, rfl⟩
noncomputable def fX3_readOneS (N : Nat) (rc0 : Int32 → zS → Option (Option Unit × zS)) (rc1 : Int32 → Int32 → zS → Option (Option Unit × zS)) (p0 : Int32) (s : zS) : Option (Option Unit × zS) := zbt (fX3_checkOne N p0 s) (fun sx => some (none, sx)) (fun x1 s2 => if (s2.1 304) = 9 then zbt (fX3_step N  s2) (fun sx => some (none, sx)) (fun x33 s34 => zbt (rc1 1 (p0 + 1) s34) (fun sx => some (none, sx)) (fun x36 s37 => zbt (fX3_demand N 10 s37) (fun sx => some (none, sx)) (fun x39 s40 => zbt (fX3_step N  s40) (fun sx => some (none, sx)) (fun x42 s43 => some (some (), s43))))) else zbt (fX3_countItem N  s2) (fun sx => some (none, sx)) (fun x4 s5 => zbn (fX3_sortAhead N (s5.1 304) s5) (fun x7 s8 => if (s8.1 304) = 1 then zbt (fX3_nameNumber N  s8) (fun sx => some (none, sx)) (fun x30 s31 => fX3_readOne_J75 N rc0 rc1 p0 x7 x30 s31) else zbn (fX8_valueOf N (s8.1 303) s8) (fun x10 s11 => fX3_readOne_J75 N rc0 rc1 p0 x7 x10 s11))))
set_option maxHeartbeats 400000 in
set_option maxRecDepth 100000 in
theorem tX3_readOneS {g : zGl} {n1 : Nat} (hok : zGok g) (d : Nat) (hd : n1 + 21 ≤ d) (N : Nat) (rc0 : Int32 → zS → Option (Option Unit × zS)) (rc1 : Int32 → Int32 → zS → Option (Option Unit × zS)) (p0 : Int32) (hrc0 : ∀ (d : Nat), n1 + 20 ≤ d → ∀ (p0 : Int32),  ∀ {s s' : zS} {w : Option Unit}, rc0 p0 s = some (w, s') → zMet g mX3_readOne d (zk1 w) (zk6 w) [.ref 3, .int p0] (zHp s) (zendV w (zHp s'))) (hrc1 : ∀ (d : Nat), n1 + 20 ≤ d → ∀ (p0 : Int32) (p1 : Int32),  ∀ {s s' : zS} {w : Option Unit}, rc1 p0 p1 s = some (w, s') → zMet g mX3_readSides d (zk1 w) (zk6 w) [.ref 3, .int p0, .int p1] (zHp s) (zendV w (zHp s'))) {s s' : zS} {w : Option Unit} (hf : fX3_readOneS N rc0 rc1 p0 s = some (w, s')) : zMet g mX3_readOne d (zk1 w) (zk6 w) [.ref 3, .int p0] (zHp s) (zendV w (zHp s')) := by
  refine zMet.ofW (by decide +kernel) (Nat.le_of_ble_eq_true rfl) ?_
  generalize emc : zk1 w = mc
  generalize ems : zk6 w = ms
  show zW g mX3_readOne d mc ms 51 _ 0 0 (zHp s) [some (.ref 3), some (.int p0), none, none] [] 0
  unfold fX3_readOneS at hf
  refine z_aload_n dX3_readOne_0 rfl ?_
  refine z_iload_n dX3_readOne_1 rfl ?_
  rcases zbt_of hf with ⟨s2, q3, hf⟩ | ⟨x1, s2, q3, hf⟩
  · cases hf
    have e1 : mc = 1 := emc.symm
    have e2 : ms = 6 := ems.symm
    subst e1
    subst e2
    exact z_xV (as := [_]) hok dX3_readOne_2 kX3_202 (zcvTV (tX3_checkOne hok (d - 1) (by omega) N p0  q3)) rfl (at_Reader s) rfl rfl (by omega) (Nat.le_of_ble_eq_true rfl) rfl rfl ⟨rfl, rfl⟩
  · refine z_cV (as := [_]) hok dX3_readOne_2 kX3_202 (zcvV (tX3_checkOne hok (d - 1) (by omega) N p0  q3)) rfl (at_Reader s) rfl rfl (by omega) (Nat.le_of_ble_eq_true rfl) (Nat.zero_le _) (Nat.zero_le _) rfl ?_
    refine z_aload_n dX3_readOne_5 rfl ?_
    refine z_getf dX3_readOne_6 fX3_63 (at_Reader s2) rfl ?_
    refine z_bipush 9 dX3_readOne_9 (by decide +kernel) ?_
    refine z_icmp_ne 37 dX3_readOne_11 (by decide) (fun c11 => ?_) (fun c11 => ?_)
    · have hf := zifn hf c11
      refine z_aload_n dX3_readOne_37 rfl ?_
      rcases zbt_of hf with ⟨s5, q6, hf⟩ | ⟨x4, s5, q6, hf⟩
      · cases hf
        have e1 : mc = 1 := emc.symm
        have e2 : ms = 6 := ems.symm
        subst e1
        subst e2
        exact z_xV (as := []) hok dX3_readOne_38 kX3_141 (zcvTV (tX3_countItem hok (d - 1) (by omega) N   q6)) rfl (at_Reader s2) rfl rfl (by omega) (Nat.le_of_ble_eq_true rfl) rfl rfl ⟨rfl, rfl⟩
      · refine z_cV (as := []) hok dX3_readOne_38 kX3_141 (zcvV (tX3_countItem hok (d - 1) (by omega) N   q6)) rfl (at_Reader s2) rfl rfl (by omega) (Nat.le_of_ble_eq_true rfl) (Nat.zero_le _) (Nat.zero_le _) rfl ?_
        refine z_aload_n dX3_readOne_41 rfl ?_
        refine z_getf dX3_readOne_42 fX3_63 (at_Reader s5) rfl ?_
        obtain ⟨x7, s8, q9, hf⟩ := zbn_of hf
        refine z_cS (as := [_]) hok dX3_readOne_45 kX3_205 (tX3_sortAhead hok (d - 1) N (s5.1 304)  q9) rfl rfl (by omega) (Nat.le_of_ble_eq_true rfl) (Nat.zero_le _) (Nat.zero_le _) rfl ?_
        refine z_istore_n (ls' := [_, _, _, _]) dX3_readOne_48 (by decide) rfl ?_
        refine z_aload_n dX3_readOne_49 rfl ?_
        refine z_getf dX3_readOne_50 fX3_63 (at_Reader s8) rfl ?_
        refine z_iconst 1 dX3_readOne_53 (by decide +kernel) ?_
        refine z_icmp_ne 64 dX3_readOne_54 (by decide) (fun c54 => ?_) (fun c54 => ?_)
        · have hf := zifn hf c54
          refine z_aload_n dX3_readOne_64 rfl ?_
          refine z_getf dX3_readOne_65 fX3_12 (at_Reader s8) rfl ?_
          refine z_aload_n dX3_readOne_68 rfl ?_
          refine z_getf dX3_readOne_69 fX3_41 (at_Reader s8) rfl ?_
          obtain ⟨x10, s11, q12, hf⟩ := zbn_of hf
          refine z_cV (as := [_]) hok dX3_readOne_72 kX3_72 (tX8_valueOf hok (d - 1) (by omega) N (s8.1 303)  q12) rfl (at_Words s8) rfl rfl (by omega) (Nat.le_of_ble_eq_true rfl) (Nat.zero_le _) (Nat.zero_le _) rfl ?_
          refine z_mask (ls' := [_, _, _, _]) [true, true, true, false] rfl ?_
          exact tX3_readOne_J75 hok d (by omega) N rc0 rc1 p0 hrc0 hrc1 x7 x10 emc ems hf
        · have hf := zifp hf c54
          refine z_aload_n dX3_readOne_57 rfl ?_
          rcases zbt_of hf with ⟨s31, q32, hf⟩ | ⟨x30, s31, q32, hf⟩
          · cases hf
            have e1 : mc = 1 := emc.symm
            have e2 : ms = 6 := ems.symm
            subst e1
            subst e2
            exact z_xV (as := []) hok dX3_readOne_58 kX3_94 (zcvTI (tX3_nameNumber hok (d - 1) (by omega) N   q32)) rfl (at_Reader s8) rfl rfl (by omega) (Nat.le_of_ble_eq_true rfl) rfl rfl ⟨rfl, rfl⟩
          · refine z_cV (as := []) hok dX3_readOne_58 kX3_94 (zcvI (tX3_nameNumber hok (d - 1) (by omega) N   q32)) rfl (at_Reader s8) rfl rfl (by omega) (Nat.le_of_ble_eq_true rfl) (Nat.zero_le _) (Nat.zero_le _) rfl ?_
            refine z_goto 75 dX3_readOne_61 (by decide) ?_
            refine z_mask (ls' := [_, _, _, _]) [true, true, true, false] rfl ?_
            exact tX3_readOne_J75 hok d (by omega) N rc0 rc1 p0 hrc0 hrc1 x7 x30 emc ems hf
    · have hf := zifp hf c11
      refine z_aload_n dX3_readOne_14 rfl ?_
      rcases zbt_of hf with ⟨s34, q35, hf⟩ | ⟨x33, s34, q35, hf⟩
      · cases hf
        have e1 : mc = 1 := emc.symm
        have e2 : ms = 6 := ems.symm
        subst e1
        subst e2
        exact z_xV (as := []) hok dX3_readOne_15 kX3_44 (zcvTV (tX3_step hok (d - 1) (by omega) N   q35)) rfl (at_Reader s2) rfl rfl (by omega) (Nat.le_of_ble_eq_true rfl) rfl rfl ⟨rfl, rfl⟩
      · refine z_cV (as := []) hok dX3_readOne_15 kX3_44 (zcvV (tX3_step hok (d - 1) (by omega) N   q35)) rfl (at_Reader s2) rfl rfl (by omega) (Nat.le_of_ble_eq_true rfl) (Nat.zero_le _) (Nat.zero_le _) rfl ?_
        refine z_aload_n dX3_readOne_18 rfl ?_
        refine z_iconst 1 dX3_readOne_19 (by decide +kernel) ?_
        refine z_iload_n dX3_readOne_20 rfl ?_
        refine z_iconst 1 dX3_readOne_21 (by decide +kernel) ?_
        refine z_iadd dX3_readOne_22 ?_
        rcases zbt_of hf with ⟨s37, q38, hf⟩ | ⟨x36, s37, q38, hf⟩
        · cases hf
          have e1 : mc = 1 := emc.symm
          have e2 : ms = 6 := ems.symm
          subst e1
          subst e2
          exact z_xV (as := [_, _]) hok dX3_readOne_23 kX3_158 (zcvTV (hrc1 (d - 1) (by omega) 1 (p0 + 1)  q38)) rfl (at_Reader s34) rfl rfl (by omega) (Nat.le_of_ble_eq_true rfl) rfl rfl ⟨rfl, rfl⟩
        · refine z_cV (as := [_, _]) hok dX3_readOne_23 kX3_158 (zcvV (hrc1 (d - 1) (by omega) 1 (p0 + 1)  q38)) rfl (at_Reader s34) rfl rfl (by omega) (Nat.le_of_ble_eq_true rfl) (Nat.zero_le _) (Nat.zero_le _) rfl ?_
          refine z_aload_n dX3_readOne_26 rfl ?_
          refine z_bipush 10 dX3_readOne_27 (by decide +kernel) ?_
          rcases zbt_of hf with ⟨s40, q41, hf⟩ | ⟨x39, s40, q41, hf⟩
          · cases hf
            have e1 : mc = 1 := emc.symm
            have e2 : ms = 6 := ems.symm
            subst e1
            subst e2
            exact z_xV (as := [_]) hok dX3_readOne_29 kX3_97 (zcvTV (tX3_demand hok (d - 1) (by omega) N 10  q41)) rfl (at_Reader s37) rfl rfl (by omega) (Nat.le_of_ble_eq_true rfl) rfl rfl ⟨rfl, rfl⟩
          · refine z_cV (as := [_]) hok dX3_readOne_29 kX3_97 (zcvV (tX3_demand hok (d - 1) (by omega) N 10  q41)) rfl (at_Reader s37) rfl rfl (by omega) (Nat.le_of_ble_eq_true rfl) (Nat.zero_le _) (Nat.zero_le _) rfl ?_
            refine z_aload_n dX3_readOne_32 rfl ?_
            rcases zbt_of hf with ⟨s43, q44, hf⟩ | ⟨x42, s43, q44, hf⟩
            · cases hf
              have e1 : mc = 1 := emc.symm
              have e2 : ms = 6 := ems.symm
              subst e1
              subst e2
              exact z_xV (as := []) hok dX3_readOne_33 kX3_44 (zcvTV (tX3_step hok (d - 1) (by omega) N   q44)) rfl (at_Reader s40) rfl rfl (by omega) (Nat.le_of_ble_eq_true rfl) rfl rfl ⟨rfl, rfl⟩
            · refine z_cV (as := []) hok dX3_readOne_33 kX3_44 (zcvV (tX3_step hok (d - 1) (by omega) N   q44)) rfl (at_Reader s40) rfl rfl (by omega) (Nat.le_of_ble_eq_true rfl) (Nat.zero_le _) (Nat.zero_le _) rfl ?_
              cases hf
              exact z_vret rfl dX3_readOne_36 (Nat.zero_le _) (Nat.zero_le _) ⟨rfl, rfl⟩

noncomputable def fX3_readSides_L7S (N : Nat) (rc0 : Int32 → zS → Option (Option Unit × zS)) (rc1 : Int32 → Int32 → zS → Option (Option Unit × zS)) (p0 : Int32) (p1 : Int32) (rec : Int32 → zS → Option ((Option Unit × zS) ⊕ (zS))) (v3 : Int32) (s : zS) : Option ((Option Unit × zS) ⊕ (zS)) := if 60 ≤ v3 then some (.inr (s)) else zbn (fX1_levelOf N (s.1 304) s) (fun x4 s5 => if x4 < p0 then some (.inr (s5)) else zbt (fX3_countItem N  s5) (fun sx => some (.inl (none, sx))) (fun x7 s8 => zbt (fX3_step N  s8) (fun sx => some (.inl (none, sx))) (fun x10 s11 => zbn (fX1_levelOf N (s5.1 304) s11) (fun x13 s14 => zbt (rc1 (x13 + 1) p1 s14) (fun sx => some (.inl (none, sx))) (fun x16 s17 => if zBk (s17.2.2.1 302) then zbn (fX0_addItem N (s17.2.2.1 302) (s5.1 304) 0 s17) (fun x20 s21 => rec (v3 + 1) s21) else none)))))
noncomputable def fX3_readSides_L7 (N : Nat) (rc0 : Int32 → zS → Option (Option Unit × zS)) (rc1 : Int32 → Int32 → zS → Option (Option Unit × zS)) (p0 : Int32) (p1 : Int32) (n : Nat) : Int32 → zS → Option ((Option Unit × zS) ⊕ (zS)) := Nat.rec (motive := fun _ => Int32 → zS → Option ((Option Unit × zS) ⊕ (zS))) (fun _ _ => none) (fun _ rec => fX3_readSides_L7S N rc0 rc1 p0 p1 rec) n
set_option maxHeartbeats 400000 in
set_option maxRecDepth 100000 in
theorem tX3_readSides_L7 {g : zGl} {n1 : Nat} (hok : zGok g) (d : Nat) (hd : n1 + 21 ≤ d) (N : Nat) (rc0 : Int32 → zS → Option (Option Unit × zS)) (rc1 : Int32 → Int32 → zS → Option (Option Unit × zS)) (p0 : Int32) (p1 : Int32) (hrc0 : ∀ (d : Nat), n1 + 20 ≤ d → ∀ (p0 : Int32),  ∀ {s s' : zS} {w : Option Unit}, rc0 p0 s = some (w, s') → zMet g mX3_readOne d (zk1 w) (zk6 w) [.ref 3, .int p0] (zHp s) (zendV w (zHp s'))) (hrc1 : ∀ (d : Nat), n1 + 20 ≤ d → ∀ (p0 : Int32) (p1 : Int32),  ∀ {s s' : zS} {w : Option Unit}, rc1 p0 p1 s = some (w, s') → zMet g mX3_readSides d (zk1 w) (zk6 w) [.ref 3, .int p0, .int p1] (zHp s) (zendV w (zHp s'))) {mc ms n0 : Nat} {Q : zO → List zE → Prop} (n : Nat) : ∀ (v3 : Int32) (s : zS) (r : (Option Unit × zS) ⊕ (zS)) (hf : fX3_readSides_L7 N rc0 rc1 p0 p1 n v3 s = some r) (k1 : ∀ w s', r = .inl (some w, s') → Q (.inl none) (zHp s')) (kx : ∀ s', r = .inl (none, s') → mc = 1 ∧ ms = 6 ∧ Q (.inr zIAE) (zHp s')) (k2 : ∀  (s' : zS), r = .inr (s') → zW g mX3_readSides d mc ms n0 Q 0 0 (zHp s') [some (.ref 3), some (.int p0), some (.int p1), none, none] [] 66), zW g mX3_readSides d mc ms n0 Q 0 0 (zHp s) [some (.ref 3), some (.int p0), some (.int p1), some (.int v3), none] [] 7 := by
  induction n with
  | zero => intro v3 s r hf; cases hf
  | succ n ih =>
    intro v3 s r hf k1 kx k2
    have hrec : ∀ (v3 : Int32) (s : zS) (r1 : (Option Unit × zS) ⊕ (zS)), fX3_readSides_L7 N rc0 rc1 p0 p1 n v3 s = some r1 → r1 = r → zW g mX3_readSides d mc ms n0 Q 0 0 (zHp s) [some (.ref 3), some (.int p0), some (.int p1), some (.int v3), none] [] 7 := fun v3 s r1 h e => ih v3 s r1 h (by subst e; exact k1) (by subst e; exact kx) (by subst e; exact k2)
    have hrec : ∀ (v3 : Int32) (s : zS), fX3_readSides_L7 N rc0 rc1 p0 p1 n v3 s = some r → zW g mX3_readSides d mc ms n0 Q 0 0 (zHp s) [some (.ref 3), some (.int p0), some (.int p1), some (.int v3), none] [] 7 := fun v3 s h => hrec v3 s r h rfl
    have hf : fX3_readSides_L7S N rc0 rc1 p0 p1 (fX3_readSides_L7 N rc0 rc1 p0 p1 n) v3 s = some r := hf
    unfold fX3_readSides_L7S at hf
    refine z_iload_n dX3_readSides_7 rfl ?_
    refine z_bipush 60 dX3_readSides_8 (by decide +kernel) ?_
    refine z_icmp_ge 66 dX3_readSides_10 (by decide) (fun c10 => ?_) (fun c10 => ?_)
    · have hf := zifp hf c10
      cases hf
      refine z_mask (ls' := [_, _, _, _, _]) [true, true, true, false, false] rfl ?_
      exact k2  _ rfl
    · have hf := zifn hf c10
      refine z_aload_n dX3_readSides_13 rfl ?_
      refine z_getf dX3_readSides_14 fX3_63 (at_Reader s) rfl ?_
      obtain ⟨x4, s5, q6, hf⟩ := zbn_of hf
      refine z_cS (as := [_]) hok dX3_readSides_17 kX3_199 (tX1_levelOf hok (d - 1) N (s.1 304)  q6) rfl rfl (by omega) (Nat.le_of_ble_eq_true rfl) (Nat.zero_le _) (Nat.zero_le _) rfl ?_
      refine z_iload_n dX3_readSides_20 rfl ?_
      refine z_icmp_lt 66 dX3_readSides_21 (by decide) (fun c21 => ?_) (fun c21 => ?_)
      · have hf := zifp hf c21
        cases hf
        refine z_mask (ls' := [_, _, _, _, _]) [true, true, true, false, false] rfl ?_
        exact k2  _ rfl
      · have hf := zifn hf c21
        refine z_aload_n dX3_readSides_24 rfl ?_
        refine z_getf dX3_readSides_25 fX3_63 (at_Reader s5) rfl ?_
        refine z_istore (ls' := [_, _, _, _, _]) dX3_readSides_28 (by decide) rfl ?_
        refine z_aload_n dX3_readSides_30 rfl ?_
        rcases zbt_of hf with ⟨s8, q9, hf⟩ | ⟨x7, s8, q9, hf⟩
        · cases hf
          obtain ⟨e1, e2, hQ⟩ := kx _ rfl
          cases e1
          cases e2
          exact z_xV (as := []) hok dX3_readSides_31 kX3_141 (zcvTV (tX3_countItem hok (d - 1) (by omega) N   q9)) rfl (at_Reader s5) rfl rfl (by omega) (Nat.le_of_ble_eq_true rfl) rfl rfl hQ
        · refine z_cV (as := []) hok dX3_readSides_31 kX3_141 (zcvV (tX3_countItem hok (d - 1) (by omega) N   q9)) rfl (at_Reader s5) rfl rfl (by omega) (Nat.le_of_ble_eq_true rfl) (Nat.zero_le _) (Nat.zero_le _) rfl ?_
          refine z_aload_n dX3_readSides_34 rfl ?_
          rcases zbt_of hf with ⟨s11, q12, hf⟩ | ⟨x10, s11, q12, hf⟩
          · cases hf
            obtain ⟨e1, e2, hQ⟩ := kx _ rfl
            cases e1
            cases e2
            exact z_xV (as := []) hok dX3_readSides_35 kX3_44 (zcvTV (tX3_step hok (d - 1) (by omega) N   q12)) rfl (at_Reader s8) rfl rfl (by omega) (Nat.le_of_ble_eq_true rfl) rfl rfl hQ
          · refine z_cV (as := []) hok dX3_readSides_35 kX3_44 (zcvV (tX3_step hok (d - 1) (by omega) N   q12)) rfl (at_Reader s8) rfl rfl (by omega) (Nat.le_of_ble_eq_true rfl) (Nat.zero_le _) (Nat.zero_le _) rfl ?_
            refine z_aload_n dX3_readSides_38 rfl ?_
            refine z_iload dX3_readSides_39 rfl ?_
            obtain ⟨x13, s14, q15, hf⟩ := zbn_of hf
            refine z_cS (as := [_]) hok dX3_readSides_41 kX3_199 (tX1_levelOf hok (d - 1) N (s5.1 304)  q15) rfl rfl (by omega) (Nat.le_of_ble_eq_true rfl) (Nat.zero_le _) (Nat.zero_le _) rfl ?_
            refine z_iconst 1 dX3_readSides_44 (by decide +kernel) ?_
            refine z_iadd dX3_readSides_45 ?_
            refine z_iload_n dX3_readSides_46 rfl ?_
            rcases zbt_of hf with ⟨s17, q18, hf⟩ | ⟨x16, s17, q18, hf⟩
            · cases hf
              obtain ⟨e1, e2, hQ⟩ := kx _ rfl
              cases e1
              cases e2
              exact z_xV (as := [_, _]) hok dX3_readSides_47 kX3_158 (zcvTV (hrc1 (d - 1) (by omega) (x13 + 1) p1  q18)) rfl (at_Reader s14) rfl rfl (by omega) (Nat.le_of_ble_eq_true rfl) rfl rfl hQ
            · refine z_cV (as := [_, _]) hok dX3_readSides_47 kX3_158 (zcvV (hrc1 (d - 1) (by omega) (x13 + 1) p1  q18)) rfl (at_Reader s14) rfl rfl (by omega) (Nat.le_of_ble_eq_true rfl) (Nat.zero_le _) (Nat.zero_le _) rfl ?_
              refine z_aload_n dX3_readSides_50 rfl ?_
              refine z_getf dX3_readSides_51 fX3_25 (at_Reader s17) rfl ?_
              obtain ⟨hb19, hf⟩ := zifs hf
              refine z_iload dX3_readSides_54 rfl ?_
              refine z_iconst 0 dX3_readSides_56 (by decide +kernel) ?_
              obtain ⟨x20, s21, q22, hf⟩ := zbn_of hf
              refine z_cV (as := [_, _]) hok dX3_readSides_57 kX3_144 (tX0_addItem hok (d - 1) (by omega) N (s17.2.2.1 302) (s5.1 304) 0 hb19 q22) rfl (at_Book s17 (s17.2.2.1 302) hb19) rfl rfl (by omega) (Nat.le_of_ble_eq_true rfl) (Nat.zero_le _) (Nat.zero_le _) rfl ?_
              refine z_iinc (ls' := [_, _, _, _, _]) (v3 + 1) dX3_readSides_60 rfl rfl (by decide) rfl ?_
              refine z_goto 7 dX3_readSides_63 (by decide) ?_
              refine z_mask (ls' := [_, _, _, _, _]) [true, true, true, true, false] rfl ?_
              exact hrec (v3 + 1) s21 hf
noncomputable def fX3_readSidesS (N : Nat) (rc0 : Int32 → zS → Option (Option Unit × zS)) (rc1 : Int32 → Int32 → zS → Option (Option Unit × zS)) (p0 : Int32) (p1 : Int32) (s : zS) : Option (Option Unit × zS) := zbt (rc0 p1 s) (fun sx => some (none, sx)) (fun x1 s2 => zbl (fX3_readSides_L7 N rc0 rc1 p0 p1 N 0 s2) (fun x => some x) (fun s26 => some (some (), s26)))
set_option maxHeartbeats 400000 in
set_option maxRecDepth 100000 in
theorem tX3_readSidesS {g : zGl} {n1 : Nat} (hok : zGok g) (d : Nat) (hd : n1 + 21 ≤ d) (N : Nat) (rc0 : Int32 → zS → Option (Option Unit × zS)) (rc1 : Int32 → Int32 → zS → Option (Option Unit × zS)) (p0 : Int32) (p1 : Int32) (hrc0 : ∀ (d : Nat), n1 + 20 ≤ d → ∀ (p0 : Int32),  ∀ {s s' : zS} {w : Option Unit}, rc0 p0 s = some (w, s') → zMet g mX3_readOne d (zk1 w) (zk6 w) [.ref 3, .int p0] (zHp s) (zendV w (zHp s'))) (hrc1 : ∀ (d : Nat), n1 + 20 ≤ d → ∀ (p0 : Int32) (p1 : Int32),  ∀ {s s' : zS} {w : Option Unit}, rc1 p0 p1 s = some (w, s') → zMet g mX3_readSides d (zk1 w) (zk6 w) [.ref 3, .int p0, .int p1] (zHp s) (zendV w (zHp s'))) {s s' : zS} {w : Option Unit} (hf : fX3_readSidesS N rc0 rc1 p0 p1 s = some (w, s')) : zMet g mX3_readSides d (zk1 w) (zk6 w) [.ref 3, .int p0, .int p1] (zHp s) (zendV w (zHp s')) := by
  refine zMet.ofW (by decide +kernel) (Nat.le_of_ble_eq_true rfl) ?_
  generalize emc : zk1 w = mc
  generalize ems : zk6 w = ms
  show zW g mX3_readSides d mc ms 51 _ 0 0 (zHp s) [some (.ref 3), some (.int p0), some (.int p1), none, none] [] 0
  unfold fX3_readSidesS at hf
  refine z_aload_n dX3_readSides_0 rfl ?_
  refine z_iload_n dX3_readSides_1 rfl ?_
  rcases zbt_of hf with ⟨s2, q3, hf⟩ | ⟨x1, s2, q3, hf⟩
  · cases hf
    have e1 : mc = 1 := emc.symm
    have e2 : ms = 6 := ems.symm
    subst e1
    subst e2
    exact z_xV (as := [_]) hok dX3_readSides_2 kX3_196 (zcvTV (hrc0 (d - 1) (by omega) p1  q3)) rfl (at_Reader s) rfl rfl (by omega) (Nat.le_of_ble_eq_true rfl) rfl rfl ⟨rfl, rfl⟩
  · refine z_cV (as := [_]) hok dX3_readSides_2 kX3_196 (zcvV (hrc0 (d - 1) (by omega) p1  q3)) rfl (at_Reader s) rfl rfl (by omega) (Nat.le_of_ble_eq_true rfl) (Nat.zero_le _) (Nat.zero_le _) rfl ?_
    refine z_iconst 0 dX3_readSides_5 (by decide +kernel) ?_
    refine z_istore_n (ls' := [_, _, _, _, _]) dX3_readSides_6 (by decide) rfl ?_
    refine z_mask (ls' := [_, _, _, _, _]) [true, true, true, true, false] rfl ?_
    rcases zbl_of hf with ⟨lr24, le25, hf⟩ | ⟨lr24, le25, hf⟩
    · cases hf
      exact tX3_readSides_L7 hok d (by omega) N rc0 rc1 p0 p1 hrc0 hrc1 N 0 s2 _ le25 (fun w1 s1 hh => by cases hh; exact ⟨rfl, rfl⟩) (fun s1 hh => by cases hh; exact ⟨emc.symm, ems.symm, rfl, rfl⟩) (fun  _ hh => by cases hh)
    · obtain ⟨s26, rfl⟩ : ∃ z, z = lr24 := ⟨_, rfl⟩
      refine tX3_readSides_L7 hok d (by omega) N rc0 rc1 p0 p1 hrc0 hrc1 N 0 s2 _ le25 (fun w1 s1 hh => by cases hh) (fun s1 hh => by cases hh) (fun  _ hh => ?_)
      cases hh
      cases hf
      exact z_vret rfl dX3_readSides_66 (Nat.zero_le _) (Nat.zero_le _) ⟨rfl, rfl⟩

noncomputable def fX3_rec (N : Nat) (n : Nat) : (Int32 → zS → Option (Option Unit × zS)) × (Int32 → Int32 → zS → Option (Option Unit × zS)) := Nat.rec (motive := fun _ => (Int32 → zS → Option (Option Unit × zS)) × (Int32 → Int32 → zS → Option (Option Unit × zS))) ((fun _ _ => none), (fun _ _ _ => none)) (fun _ ih => (fX3_readOneS N ih.1 ih.2, fX3_readSidesS N ih.1 ih.2)) n
theorem tX3_rec {g : zGl} (hok : zGok g) (N : Nat) (n : Nat) : (∀ (d : Nat), n + 20 ≤ d → ∀ (p0 : Int32),  ∀ {s s' : zS} {w : Option Unit}, ((fX3_rec N n).1) p0 s = some (w, s') → zMet g mX3_readOne d (zk1 w) (zk6 w) [.ref 3, .int p0] (zHp s) (zendV w (zHp s'))) ∧ (∀ (d : Nat), n + 20 ≤ d → ∀ (p0 : Int32) (p1 : Int32),  ∀ {s s' : zS} {w : Option Unit}, ((fX3_rec N n).2) p0 p1 s = some (w, s') → zMet g mX3_readSides d (zk1 w) (zk6 w) [.ref 3, .int p0, .int p1] (zHp s) (zendV w (zHp s'))) := by
  induction n with
  | zero => exact ⟨fun d hd _  s s' w hf => (by cases hf), fun d hd _ _  s s' w hf => (by cases hf)⟩
  | succ n ih => exact ⟨fun d hd p0  s s' w hf => tX3_readOneS hok d (by omega) N _ _ p0 ih.1 ih.2  hf, fun d hd p0 p1  s s' w hf => tX3_readSidesS hok d (by omega) N _ _ p0 p1 ih.1 ih.2  hf⟩
noncomputable def fX3_readOne (N : Nat) (p0 : Int32) (s : zS) : Option (Option Unit × zS) := (fX3_rec N 400).1 p0 s
theorem tX3_readOne {g : zGl} (hok : zGok g) (d : Nat) (hd : 420 ≤ d) (N : Nat) (p0 : Int32)  {s s' : zS} {w : Option Unit} (hf : fX3_readOne N p0 s = some (w, s')) : zMet g mX3_readOne d (zk1 w) (zk6 w) [.ref 3, .int p0] (zHp s) (zendV w (zHp s')) := ((tX3_rec hok N 400).1) d hd p0  hf
noncomputable def fX3_readSides (N : Nat) (p0 : Int32) (p1 : Int32) (s : zS) : Option (Option Unit × zS) := (fX3_rec N 400).2 p0 p1 s
theorem tX3_readSides {g : zGl} (hok : zGok g) (d : Nat) (hd : 420 ≤ d) (N : Nat) (p0 : Int32) (p1 : Int32)  {s s' : zS} {w : Option Unit} (hf : fX3_readSides N p0 p1 s = some (w, s')) : zMet g mX3_readSides d (zk1 w) (zk6 w) [.ref 3, .int p0, .int p1] (zHp s) (zendV w (zHp s')) := ((tX3_rec hok N 400).2) d hd p0 p1  hf
