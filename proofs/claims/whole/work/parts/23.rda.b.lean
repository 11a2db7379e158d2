noncomputable def fX3_readRegister (N : Nat)  (s : zS) : Option (Option Unit × zS) := zbn (fX8_valueOf N (s.1 303) s) (fun x1 s2 => zbn (fX5_numberOf N 5 (s.1 305) x1 s2) (fun x4 s5 => if zBk (s5.2.2.1 302) then zbn (fX6_setCell N ((s5.2.2.1 302) + 3) (s5.1 306) 1 x4 s5) (fun x8 s9 => zbt (fX3_step N  s9) (fun sx => some (none, sx)) (fun x11 s12 => some (some (), s12))) else none))
set_option maxHeartbeats 400000 in
set_option maxRecDepth 100000 in
theorem tX3_readRegister {g : zGl} (hok : zGok g) (d : Nat) (hd : 3 ≤ d) (N : Nat)   {s s' : zS} {w : Option Unit} (hf : fX3_readRegister N  s = some (w, s')) : zMet g mX3_readRegister d (zk1 w) (zk6 w) [.ref 3] (zHp s) (zendV w (zHp s')) := by
  refine zMet.ofW (by decide +kernel) (Nat.le_of_ble_eq_true rfl) ?_
  generalize emc : zk1 w = mc
  generalize ems : zk6 w = ms
  show zW g mX3_readRegister d mc ms 51 _ 0 0 (zHp s) [some (.ref 3), none] [] 0
  unfold fX3_readRegister at hf
  refine z_aload_n dX3_readRegister_0 rfl ?_
  refine z_getf dX3_readRegister_1 fX3_12 (at_Reader s) rfl ?_
  refine z_getN hok dX3_readRegister_4 fX3_116 (at_Words s) rfl ?_
  refine z_aload_n dX3_readRegister_7 rfl ?_
  refine z_getf dX3_readRegister_8 fX3_69 (at_Reader s) rfl ?_
  refine z_aload_n dX3_readRegister_11 rfl ?_
  refine z_getf dX3_readRegister_12 fX3_12 (at_Reader s) rfl ?_
  refine z_aload_n dX3_readRegister_15 rfl ?_
  refine z_getf dX3_readRegister_16 fX3_41 (at_Reader s) rfl ?_
  obtain ⟨x1, s2, q3, hf⟩ := zbn_of hf
  refine z_cV (as := [_]) hok dX3_readRegister_19 kX3_72 (tX8_valueOf hok (d - 1) (by omega) N (s.1 303)  q3) rfl (at_Words s) rfl rfl (by omega) (Nat.le_of_ble_eq_true rfl) (Nat.zero_le _) (Nat.zero_le _) rfl ?_
  obtain ⟨x4, s5, q6, hf⟩ := zbn_of hf
  refine z_cS (as := [_, _, _]) hok dX3_readRegister_22 kX3_173 (tX5_numberOf hok (d - 1) (by omega) N 5 (s.1 305) x1 (by decide) q6) rfl rfl (by omega) (Nat.le_of_ble_eq_true rfl) (Nat.zero_le _) (Nat.zero_le _) rfl ?_
  refine z_istore_n (ls' := [_, _]) dX3_readRegister_25 (by decide) rfl ?_
  refine z_aload_n dX3_readRegister_26 rfl ?_
  refine z_getf dX3_readRegister_27 fX3_25 (at_Reader s5) rfl ?_
  obtain ⟨hb7, hf⟩ := zifs hf
  refine z_getN hok dX3_readRegister_30 fX3_100 (at_Book s5 (s5.2.2.1 302) hb7) rfl ?_
  refine z_aload_n dX3_readRegister_33 rfl ?_
  refine z_getf dX3_readRegister_34 fX3_161 (at_Reader s5) rfl ?_
  refine z_iconst 1 dX3_readRegister_37 (by decide +kernel) ?_
  refine z_iload_n dX3_readRegister_38 rfl ?_
  obtain ⟨x8, s9, q10, hf⟩ := zbn_of hf
  refine z_cV (as := [_, _, _]) hok dX3_readRegister_39 kX3_106 (tX6_setCell hok (d - 1) N ((s5.2.2.1 302) + 3) (s5.1 306) 1 x4 (zBk_t (s5.2.2.1 302) hb7).2.1 q10) rfl (at_Table s5 ((s5.2.2.1 302) + 3) (zBk_t (s5.2.2.1 302) hb7).2.1) rfl rfl (by omega) (Nat.le_of_ble_eq_true rfl) (Nat.zero_le _) (Nat.zero_le _) rfl ?_
  refine z_aload_n dX3_readRegister_42 rfl ?_
  rcases zbt_of hf with ⟨s12, q13, hf⟩ | ⟨x11, s12, q13, hf⟩
  · cases hf
    have e1 : mc = 1 := emc.symm
    have e2 : ms = 6 := ems.symm
    subst e1
    subst e2
    exact z_xV (as := []) hok dX3_readRegister_43 kX3_44 (zcvTV (tX3_step hok (d - 1) (by omega) N   q13)) rfl (at_Reader s9) rfl rfl (by omega) (Nat.le_of_ble_eq_true rfl) rfl rfl ⟨rfl, rfl⟩
  · refine z_cV (as := []) hok dX3_readRegister_43 kX3_44 (zcvV (tX3_step hok (d - 1) (by omega) N   q13)) rfl (at_Reader s9) rfl rfl (by omega) (Nat.le_of_ble_eq_true rfl) (Nat.zero_le _) (Nat.zero_le _) rfl ?_
    cases hf
    exact z_vret rfl dX3_readRegister_46 (Nat.zero_le _) (Nat.zero_le _) ⟨rfl, rfl⟩

noncomputable def fX3_readBase (N : Nat)  (s : zS) : Option (Option Unit × zS) := zbt (fX3_step N  s) (fun sx => some (none, sx)) (fun x1 s2 => zbt (fX3_demand N 2 s2) (fun sx => some (none, sx)) (fun x4 s5 => zbt (fX3_readRegister N  s5) (fun sx => some (none, sx)) (fun x7 s8 => zbt (fX3_demand N 10 s8) (fun sx => some (none, sx)) (fun x10 s11 => zbt (fX3_step N  s11) (fun sx => some (none, sx)) (fun x13 s14 => some (some (), s14))))))
set_option maxHeartbeats 400000 in
set_option maxRecDepth 100000 in
theorem tX3_readBase {g : zGl} (hok : zGok g) (d : Nat) (hd : 4 ≤ d) (N : Nat)   {s s' : zS} {w : Option Unit} (hf : fX3_readBase N  s = some (w, s')) : zMet g mX3_readBase d (zk1 w) (zk6 w) [.ref 3] (zHp s) (zendV w (zHp s')) := by
  refine zMet.ofW (by decide +kernel) (Nat.le_of_ble_eq_true rfl) ?_
  generalize emc : zk1 w = mc
  generalize ems : zk6 w = ms
  show zW g mX3_readBase d mc ms 51 _ 0 0 (zHp s) [some (.ref 3)] [] 0
  unfold fX3_readBase at hf
  refine z_aload_n dX3_readBase_0 rfl ?_
  rcases zbt_of hf with ⟨s2, q3, hf⟩ | ⟨x1, s2, q3, hf⟩
  · cases hf
    have e1 : mc = 1 := emc.symm
    have e2 : ms = 6 := ems.symm
    subst e1
    subst e2
    exact z_xV (as := []) hok dX3_readBase_1 kX3_44 (zcvTV (tX3_step hok (d - 1) (by omega) N   q3)) rfl (at_Reader s) rfl rfl (by omega) (Nat.le_of_ble_eq_true rfl) rfl rfl ⟨rfl, rfl⟩
  · refine z_cV (as := []) hok dX3_readBase_1 kX3_44 (zcvV (tX3_step hok (d - 1) (by omega) N   q3)) rfl (at_Reader s) rfl rfl (by omega) (Nat.le_of_ble_eq_true rfl) (Nat.zero_le _) (Nat.zero_le _) rfl ?_
    refine z_aload_n dX3_readBase_4 rfl ?_
    refine z_iconst 2 dX3_readBase_5 (by decide +kernel) ?_
    rcases zbt_of hf with ⟨s5, q6, hf⟩ | ⟨x4, s5, q6, hf⟩
    · cases hf
      have e1 : mc = 1 := emc.symm
      have e2 : ms = 6 := ems.symm
      subst e1
      subst e2
      exact z_xV (as := [_]) hok dX3_readBase_6 kX3_97 (zcvTV (tX3_demand hok (d - 1) (by omega) N 2  q6)) rfl (at_Reader s2) rfl rfl (by omega) (Nat.le_of_ble_eq_true rfl) rfl rfl ⟨rfl, rfl⟩
    · refine z_cV (as := [_]) hok dX3_readBase_6 kX3_97 (zcvV (tX3_demand hok (d - 1) (by omega) N 2  q6)) rfl (at_Reader s2) rfl rfl (by omega) (Nat.le_of_ble_eq_true rfl) (Nat.zero_le _) (Nat.zero_le _) rfl ?_
      refine z_aload_n dX3_readBase_9 rfl ?_
      rcases zbt_of hf with ⟨s8, q9, hf⟩ | ⟨x7, s8, q9, hf⟩
      · cases hf
        have e1 : mc = 1 := emc.symm
        have e2 : ms = 6 := ems.symm
        subst e1
        subst e2
        exact z_xV (as := []) hok dX3_readBase_10 kX3_135 (zcvTV (tX3_readRegister hok (d - 1) (by omega) N   q9)) rfl (at_Reader s5) rfl rfl (by omega) (Nat.le_of_ble_eq_true rfl) rfl rfl ⟨rfl, rfl⟩
      · refine z_cV (as := []) hok dX3_readBase_10 kX3_135 (zcvV (tX3_readRegister hok (d - 1) (by omega) N   q9)) rfl (at_Reader s5) rfl rfl (by omega) (Nat.le_of_ble_eq_true rfl) (Nat.zero_le _) (Nat.zero_le _) rfl ?_
        refine z_aload_n dX3_readBase_13 rfl ?_
        refine z_bipush 10 dX3_readBase_14 (by decide +kernel) ?_
        rcases zbt_of hf with ⟨s11, q12, hf⟩ | ⟨x10, s11, q12, hf⟩
        · cases hf
          have e1 : mc = 1 := emc.symm
          have e2 : ms = 6 := ems.symm
          subst e1
          subst e2
          exact z_xV (as := [_]) hok dX3_readBase_16 kX3_97 (zcvTV (tX3_demand hok (d - 1) (by omega) N 10  q12)) rfl (at_Reader s8) rfl rfl (by omega) (Nat.le_of_ble_eq_true rfl) rfl rfl ⟨rfl, rfl⟩
        · refine z_cV (as := [_]) hok dX3_readBase_16 kX3_97 (zcvV (tX3_demand hok (d - 1) (by omega) N 10  q12)) rfl (at_Reader s8) rfl rfl (by omega) (Nat.le_of_ble_eq_true rfl) (Nat.zero_le _) (Nat.zero_le _) rfl ?_
          refine z_aload_n dX3_readBase_19 rfl ?_
          rcases zbt_of hf with ⟨s14, q15, hf⟩ | ⟨x13, s14, q15, hf⟩
          · cases hf
            have e1 : mc = 1 := emc.symm
            have e2 : ms = 6 := ems.symm
            subst e1
            subst e2
            exact z_xV (as := []) hok dX3_readBase_20 kX3_44 (zcvTV (tX3_step hok (d - 1) (by omega) N   q15)) rfl (at_Reader s11) rfl rfl (by omega) (Nat.le_of_ble_eq_true rfl) rfl rfl ⟨rfl, rfl⟩
          · refine z_cV (as := []) hok dX3_readBase_20 kX3_44 (zcvV (tX3_step hok (d - 1) (by omega) N   q15)) rfl (at_Reader s11) rfl rfl (by omega) (Nat.le_of_ble_eq_true rfl) (Nat.zero_le _) (Nat.zero_le _) rfl ?_
            cases hf
            exact z_vret rfl dX3_readBase_23 (Nat.zero_le _) (Nat.zero_le _) ⟨rfl, rfl⟩

noncomputable def fX3_readString_L61S (N : Nat)  (rec : Int32 → Int32 → Int32 → zS → Option ((Option Unit × zS) ⊕ (zS))) (v1 : Int32) (v2 : Int32) (v3 : Int32) (s : zS) : Option ((Option Unit × zS) ⊕ (zS)) := if v1 ≤ v3 then some (.inr (s)) else if zBk (s.2.2.1 302) then zbn (fX8_codeAt N v2 34 s) (fun x14 s15 => zbn (fX0_addByte N (s.2.2.1 302) x14 s15) (fun x17 s18 => zbn (fX8_widthAt N v2 s18) (fun x20 s21 => rec v1 (v2 + x20) (v3 + 1) s21))) else none
noncomputable def fX3_readString_L61 (N : Nat)  (n : Nat) : Int32 → Int32 → Int32 → zS → Option ((Option Unit × zS) ⊕ (zS)) := Nat.rec (motive := fun _ => Int32 → Int32 → Int32 → zS → Option ((Option Unit × zS) ⊕ (zS))) (fun _ _ _ _ => none) (fun _ rec => fX3_readString_L61S N  rec) n
set_option maxHeartbeats 400000 in
set_option maxRecDepth 100000 in
theorem tX3_readString_L61 {g : zGl} (hok : zGok g) (d : Nat) (hd : 2 ≤ d) (N : Nat)   {mc ms n0 : Nat} {Q : zO → List zE → Prop} (n : Nat) : ∀ (v1 : Int32) (v2 : Int32) (v3 : Int32) (s : zS) (r : (Option Unit × zS) ⊕ (zS)) (hf : fX3_readString_L61 N  n v1 v2 v3 s = some r) (k1 : ∀ w s', r = .inl (some w, s') → Q (.inl none) (zHp s')) (kx : ∀ s', r = .inl (none, s') → mc = 1 ∧ ms = 6 ∧ Q (.inr zIAE) (zHp s')) (k2 : ∀  (s' : zS), r = .inr (s') → zW g mX3_readString d mc ms n0 Q 0 0 (zHp s') [some (.ref 3), none, none, none] [] 100), zW g mX3_readString d mc ms n0 Q 0 0 (zHp s) [some (.ref 3), some (.int v1), some (.int v2), some (.int v3)] [] 61 := by
  induction n with
  | zero => intro v1 v2 v3 s r hf; cases hf
  | succ n ih =>
    intro v1 v2 v3 s r hf k1 kx k2
    have hrec : ∀ (v1 : Int32) (v2 : Int32) (v3 : Int32) (s : zS) (r1 : (Option Unit × zS) ⊕ (zS)), fX3_readString_L61 N  n v1 v2 v3 s = some r1 → r1 = r → zW g mX3_readString d mc ms n0 Q 0 0 (zHp s) [some (.ref 3), some (.int v1), some (.int v2), some (.int v3)] [] 61 := fun v1 v2 v3 s r1 h e => ih v1 v2 v3 s r1 h (by subst e; exact k1) (by subst e; exact kx) (by subst e; exact k2)
    have hrec : ∀ (v1 : Int32) (v2 : Int32) (v3 : Int32) (s : zS), fX3_readString_L61 N  n v1 v2 v3 s = some r → zW g mX3_readString d mc ms n0 Q 0 0 (zHp s) [some (.ref 3), some (.int v1), some (.int v2), some (.int v3)] [] 61 := fun v1 v2 v3 s h => hrec v1 v2 v3 s r h rfl
    have hf : fX3_readString_L61S N  (fX3_readString_L61 N  n) v1 v2 v3 s = some r := hf
    unfold fX3_readString_L61S at hf
    refine z_iload_n dX3_readString_61 rfl ?_
    refine z_iload_n dX3_readString_62 rfl ?_
    refine z_icmp_ge 100 dX3_readString_63 (by decide) (fun c63 => ?_) (fun c63 => ?_)
    · have hf := zifp hf c63
      cases hf
      refine z_mask (ls' := [_, _, _, _]) [true, false, false, false] rfl ?_
      exact k2  _ rfl
    · have hf := zifn hf c63
      refine z_aload_n dX3_readString_66 rfl ?_
      refine z_getf dX3_readString_67 fX3_25 (at_Reader s) rfl ?_
      obtain ⟨hb13, hf⟩ := zifs hf
      refine z_aload_n dX3_readString_70 rfl ?_
      refine z_getf dX3_readString_71 fX3_12 (at_Reader s) rfl ?_
      refine z_iload_n dX3_readString_74 rfl ?_
      refine z_bipush 34 dX3_readString_75 (by decide +kernel) ?_
      obtain ⟨x14, s15, q16, hf⟩ := zbn_of hf
      refine z_cV (as := [_, _]) hok dX3_readString_77 kX3_181 (tX8_codeAt hok (d - 1) (by omega) N v2 34  q16) rfl (at_Words s) rfl rfl (by omega) (Nat.le_of_ble_eq_true rfl) (Nat.zero_le _) (Nat.zero_le _) rfl ?_
      obtain ⟨x17, s18, q19, hf⟩ := zbn_of hf
      refine z_cV (as := [_]) hok dX3_readString_80 kX3_185 (tX0_addByte hok (d - 1) N (s.2.2.1 302) x14 hb13 q19) rfl (at_Book s15 (s.2.2.1 302) hb13) rfl rfl (by omega) (Nat.le_of_ble_eq_true rfl) (Nat.zero_le _) (Nat.zero_le _) rfl ?_
      refine z_iload_n dX3_readString_83 rfl ?_
      refine z_aload_n dX3_readString_84 rfl ?_
      refine z_getf dX3_readString_85 fX3_12 (at_Reader s18) rfl ?_
      refine z_iload_n dX3_readString_88 rfl ?_
      obtain ⟨x20, s21, q22, hf⟩ := zbn_of hf
      refine z_cV (as := [_]) hok dX3_readString_89 kX3_188 (tX8_widthAt hok (d - 1) (by omega) N v2  q22) rfl (at_Words s18) rfl rfl (by omega) (Nat.le_of_ble_eq_true rfl) (Nat.zero_le _) (Nat.zero_le _) rfl ?_
      refine z_iadd dX3_readString_92 ?_
      refine z_istore_n (ls' := [_, _, _, _]) dX3_readString_93 (by decide) rfl ?_
      refine z_iinc (ls' := [_, _, _, _]) (v3 + 1) dX3_readString_94 rfl rfl (by decide) rfl ?_
      refine z_goto 61 dX3_readString_97 (by decide) ?_
      refine z_mask (ls' := [_, _, _, _]) [true, true, true, true] rfl ?_
      exact hrec v1 (v2 + x20) (v3 + 1) s21 hf
noncomputable def fX3_readString (N : Nat)  (s : zS) : Option (Option Unit × zS) := zbn (fX8_valueOf N (s.1 303) s) (fun x1 s2 => if zBk (s2.2.2.1 302) then if zBk (s2.2.2.1 302) then zbn (fX6_setCell N ((s2.2.2.1 302) + 3) (s2.1 306) 7 (s2.1 (100 * (s2.2.2.1 302) + 5)) s2) (fun x6 s7 => if zBk (s7.2.2.1 302) then zbn (fX6_setCell N ((s7.2.2.1 302) + 3) (s7.1 306) 6 x1 s7) (fun x10 s11 => zbl (fX3_readString_L61 N  N x1 ((s11.1 305) + 1) 0 s11) (fun x => some x) (fun s26 => zbt (fX3_step N  s26) (fun sx => some (none, sx)) (fun x27 s28 => some (some (), s28)))) else none) else none else none)
set_option maxHeartbeats 400000 in
set_option maxRecDepth 100000 in
theorem tX3_readString {g : zGl} (hok : zGok g) (d : Nat) (hd : 3 ≤ d) (N : Nat)   {s s' : zS} {w : Option Unit} (hf : fX3_readString N  s = some (w, s')) : zMet g mX3_readString d (zk1 w) (zk6 w) [.ref 3] (zHp s) (zendV w (zHp s')) := by
  refine zMet.ofW (by decide +kernel) (Nat.le_of_ble_eq_true rfl) ?_
  generalize emc : zk1 w = mc
  generalize ems : zk6 w = ms
  show zW g mX3_readString d mc ms 51 _ 0 0 (zHp s) [some (.ref 3), none, none, none] [] 0
  unfold fX3_readString at hf
  refine z_aload_n dX3_readString_0 rfl ?_
  refine z_getf dX3_readString_1 fX3_12 (at_Reader s) rfl ?_
  refine z_aload_n dX3_readString_4 rfl ?_
  refine z_getf dX3_readString_5 fX3_41 (at_Reader s) rfl ?_
  obtain ⟨x1, s2, q3, hf⟩ := zbn_of hf
  refine z_cV (as := [_]) hok dX3_readString_8 kX3_72 (tX8_valueOf hok (d - 1) (by omega) N (s.1 303)  q3) rfl (at_Words s) rfl rfl (by omega) (Nat.le_of_ble_eq_true rfl) (Nat.zero_le _) (Nat.zero_le _) rfl ?_
  refine z_istore_n (ls' := [_, _, _, _]) dX3_readString_11 (by decide) rfl ?_
  refine z_aload_n dX3_readString_12 rfl ?_
  refine z_getf dX3_readString_13 fX3_25 (at_Reader s2) rfl ?_
  obtain ⟨hb4, hf⟩ := zifs hf
  refine z_getN hok dX3_readString_16 fX3_100 (at_Book s2 (s2.2.2.1 302) hb4) rfl ?_
  refine z_aload_n dX3_readString_19 rfl ?_
  refine z_getf dX3_readString_20 fX3_161 (at_Reader s2) rfl ?_
  refine z_bipush 7 dX3_readString_23 (by decide +kernel) ?_
  refine z_aload_n dX3_readString_25 rfl ?_
  refine z_getf dX3_readString_26 fX3_25 (at_Reader s2) rfl ?_
  obtain ⟨hb5, hf⟩ := zifs hf
  refine z_getN hok dX3_readString_29 fX3_178 (at_Book s2 (s2.2.2.1 302) hb5) rfl ?_
  obtain ⟨x6, s7, q8, hf⟩ := zbn_of hf
  refine z_cV (as := [_, _, _]) hok dX3_readString_32 kX3_106 (tX6_setCell hok (d - 1) N ((s2.2.2.1 302) + 3) (s2.1 306) 7 (s2.1 (100 * (s2.2.2.1 302) + 5)) (zBk_t (s2.2.2.1 302) hb4).2.1 q8) rfl (at_Table s2 ((s2.2.2.1 302) + 3) (zBk_t (s2.2.2.1 302) hb4).2.1) rfl rfl (by omega) (Nat.le_of_ble_eq_true rfl) (Nat.zero_le _) (Nat.zero_le _) rfl ?_
  refine z_aload_n dX3_readString_35 rfl ?_
  refine z_getf dX3_readString_36 fX3_25 (at_Reader s7) rfl ?_
  obtain ⟨hb9, hf⟩ := zifs hf
  refine z_getN hok dX3_readString_39 fX3_100 (at_Book s7 (s7.2.2.1 302) hb9) rfl ?_
  refine z_aload_n dX3_readString_42 rfl ?_
  refine z_getf dX3_readString_43 fX3_161 (at_Reader s7) rfl ?_
  refine z_bipush 6 dX3_readString_46 (by decide +kernel) ?_
  refine z_iload_n dX3_readString_48 rfl ?_
  obtain ⟨x10, s11, q12, hf⟩ := zbn_of hf
  refine z_cV (as := [_, _, _]) hok dX3_readString_49 kX3_106 (tX6_setCell hok (d - 1) N ((s7.2.2.1 302) + 3) (s7.1 306) 6 x1 (zBk_t (s7.2.2.1 302) hb9).2.1 q12) rfl (at_Table s7 ((s7.2.2.1 302) + 3) (zBk_t (s7.2.2.1 302) hb9).2.1) rfl rfl (by omega) (Nat.le_of_ble_eq_true rfl) (Nat.zero_le _) (Nat.zero_le _) rfl ?_
  refine z_aload_n dX3_readString_52 rfl ?_
  refine z_getf dX3_readString_53 fX3_69 (at_Reader s11) rfl ?_
  refine z_iconst 1 dX3_readString_56 (by decide +kernel) ?_
  refine z_iadd dX3_readString_57 ?_
  refine z_istore_n (ls' := [_, _, _, _]) dX3_readString_58 (by decide) rfl ?_
  refine z_iconst 0 dX3_readString_59 (by decide +kernel) ?_
  refine z_istore_n (ls' := [_, _, _, _]) dX3_readString_60 (by decide) rfl ?_
  refine z_mask (ls' := [_, _, _, _]) [true, true, true, true] rfl ?_
  rcases zbl_of hf with ⟨lr24, le25, hf⟩ | ⟨lr24, le25, hf⟩
  · cases hf
    exact tX3_readString_L61 hok d (by omega) N   N x1 ((s11.1 305) + 1) 0 s11 _ le25 (fun w1 s1 hh => by cases hh; exact ⟨rfl, rfl⟩) (fun s1 hh => by cases hh; exact ⟨emc.symm, ems.symm, rfl, rfl⟩) (fun  _ hh => by cases hh)
  · obtain ⟨s26, rfl⟩ : ∃ z, z = lr24 := ⟨_, rfl⟩
    refine tX3_readString_L61 hok d (by omega) N   N x1 ((s11.1 305) + 1) 0 s11 _ le25 (fun w1 s1 hh => by cases hh) (fun s1 hh => by cases hh) (fun  _ hh => ?_)
    cases hh
    refine z_aload_n dX3_readString_100 rfl ?_
    rcases zbt_of hf with ⟨s28, q29, hf⟩ | ⟨x27, s28, q29, hf⟩
    · cases hf
      have e1 : mc = 1 := emc.symm
      have e2 : ms = 6 := ems.symm
      subst e1
      subst e2
      exact z_xV (as := []) hok dX3_readString_101 kX3_44 (zcvTV (tX3_step hok (d - 1) (by omega) N   q29)) rfl (at_Reader s26) rfl rfl (by omega) (Nat.le_of_ble_eq_true rfl) rfl rfl ⟨rfl, rfl⟩
    · refine z_cV (as := []) hok dX3_readString_101 kX3_44 (zcvV (tX3_step hok (d - 1) (by omega) N   q29)) rfl (at_Reader s26) rfl rfl (by omega) (Nat.le_of_ble_eq_true rfl) (Nat.zero_le _) (Nat.zero_le _) rfl ?_
      cases hf
      exact z_vret rfl dX3_readString_104 (Nat.zero_le _) (Nat.zero_le _) ⟨rfl, rfl⟩

noncomputable def fX3_readMark_J55 (N : Nat)  (v1 : Int32) (s : zS) : Option (Option Unit × zS) := if zBk (s.2.2.1 302) then zbn (fX6_setCell N ((s.2.2.1 302) + 3) (s.1 306) 2 v1 s) (fun x8 s9 => zbt (fX3_step N  s9) (fun sx => some (none, sx)) (fun x11 s12 => zbt (fX3_demand N 9 s12) (fun sx => some (none, sx)) (fun x14 s15 => zbt (fX3_step N  s15) (fun sx => some (none, sx)) (fun x17 s18 => some (some (), s18))))) else none
set_option maxHeartbeats 400000 in
set_option maxRecDepth 100000 in
theorem tX3_readMark_J55 {g : zGl} (hok : zGok g) (d : Nat) (hd : 6 ≤ d) (N : Nat)   {mc ms n0 : Nat} (v1 : Int32) {s s' : zS} {w : Option Unit} (emc : zk1 w = mc) (ems : zk6 w = ms) (hf : fX3_readMark_J55 N  v1 s = some (w, s')) : zW g mX3_readMark d mc ms n0 (zendV w (zHp s')) 0 0 (zHp s) [some (.ref 3), some (.int v1)] [] 55 := by
  unfold fX3_readMark_J55 at hf
  refine z_aload_n dX3_readMark_55 rfl ?_
  refine z_getf dX3_readMark_56 fX3_25 (at_Reader s) rfl ?_
  obtain ⟨hb7, hf⟩ := zifs hf
  refine z_getN hok dX3_readMark_59 fX3_100 (at_Book s (s.2.2.1 302) hb7) rfl ?_
  refine z_aload_n dX3_readMark_62 rfl ?_
  refine z_getf dX3_readMark_63 fX3_161 (at_Reader s) rfl ?_
  refine z_iconst 2 dX3_readMark_66 (by decide +kernel) ?_
  refine z_iload_n dX3_readMark_67 rfl ?_
  obtain ⟨x8, s9, q10, hf⟩ := zbn_of hf
  refine z_cV (as := [_, _, _]) hok dX3_readMark_68 kX3_106 (tX6_setCell hok (d - 1) N ((s.2.2.1 302) + 3) (s.1 306) 2 v1 (zBk_t (s.2.2.1 302) hb7).2.1 q10) rfl (at_Table s ((s.2.2.1 302) + 3) (zBk_t (s.2.2.1 302) hb7).2.1) rfl rfl (by omega) (Nat.le_of_ble_eq_true rfl) (Nat.zero_le _) (Nat.zero_le _) rfl ?_
  refine z_aload_n dX3_readMark_71 rfl ?_
  rcases zbt_of hf with ⟨s12, q13, hf⟩ | ⟨x11, s12, q13, hf⟩
  · cases hf
    have e1 : mc = 1 := emc.symm
    have e2 : ms = 6 := ems.symm
    subst e1
    subst e2
    exact z_xV (as := []) hok dX3_readMark_72 kX3_44 (zcvTV (tX3_step hok (d - 1) (by omega) N   q13)) rfl (at_Reader s9) rfl rfl (by omega) (Nat.le_of_ble_eq_true rfl) rfl rfl ⟨rfl, rfl⟩
  · refine z_cV (as := []) hok dX3_readMark_72 kX3_44 (zcvV (tX3_step hok (d - 1) (by omega) N   q13)) rfl (at_Reader s9) rfl rfl (by omega) (Nat.le_of_ble_eq_true rfl) (Nat.zero_le _) (Nat.zero_le _) rfl ?_
    refine z_aload_n dX3_readMark_75 rfl ?_
    refine z_bipush 9 dX3_readMark_76 (by decide +kernel) ?_
    rcases zbt_of hf with ⟨s15, q16, hf⟩ | ⟨x14, s15, q16, hf⟩
    · cases hf
      have e1 : mc = 1 := emc.symm
      have e2 : ms = 6 := ems.symm
      subst e1
      subst e2
      exact z_xV (as := [_]) hok dX3_readMark_78 kX3_97 (zcvTV (tX3_demand hok (d - 1) (by omega) N 9  q16)) rfl (at_Reader s12) rfl rfl (by omega) (Nat.le_of_ble_eq_true rfl) rfl rfl ⟨rfl, rfl⟩
    · refine z_cV (as := [_]) hok dX3_readMark_78 kX3_97 (zcvV (tX3_demand hok (d - 1) (by omega) N 9  q16)) rfl (at_Reader s12) rfl rfl (by omega) (Nat.le_of_ble_eq_true rfl) (Nat.zero_le _) (Nat.zero_le _) rfl ?_
      refine z_aload_n dX3_readMark_81 rfl ?_
      rcases zbt_of hf with ⟨s18, q19, hf⟩ | ⟨x17, s18, q19, hf⟩
      · cases hf
        have e1 : mc = 1 := emc.symm
        have e2 : ms = 6 := ems.symm
        subst e1
        subst e2
        exact z_xV (as := []) hok dX3_readMark_82 kX3_44 (zcvTV (tX3_step hok (d - 1) (by omega) N   q19)) rfl (at_Reader s15) rfl rfl (by omega) (Nat.le_of_ble_eq_true rfl) rfl rfl ⟨rfl, rfl⟩
      · refine z_cV (as := []) hok dX3_readMark_82 kX3_44 (zcvV (tX3_step hok (d - 1) (by omega) N   q19)) rfl (at_Reader s15) rfl rfl (by omega) (Nat.le_of_ble_eq_true rfl) (Nat.zero_le _) (Nat.zero_le _) rfl ?_
        cases hf
        exact z_vret rfl dX3_readMark_85 (Nat.zero_le _) (Nat.zero_le _) ⟨rfl, rfl⟩
noncomputable def fX3_readMark_J33 (N : Nat)   (s : zS) : Option (Option Unit × zS) := zbn (fX2_numberOf N (s.1 303) s) (fun x4 s5 => if x4 = 0 then zbt (fX3_refuse N 6 s5) (fun sx => some (none, sx)) (fun x20 s21 => fX3_readMark_J55 N  x4 s21) else fX3_readMark_J55 N  x4 s5)
set_option maxHeartbeats 400000 in
set_option maxRecDepth 100000 in
theorem tX3_readMark_J33 {g : zGl} (hok : zGok g) (d : Nat) (hd : 6 ≤ d) (N : Nat)   {mc ms n0 : Nat}  {s s' : zS} {w : Option Unit} (emc : zk1 w = mc) (ems : zk6 w = ms) (hf : fX3_readMark_J33 N   s = some (w, s')) : zW g mX3_readMark d mc ms n0 (zendV w (zHp s')) 0 0 (zHp s) [some (.ref 3), none] [] 33 := by
  unfold fX3_readMark_J33 at hf
  refine z_aload_n dX3_readMark_33 rfl ?_
  refine z_getf dX3_readMark_34 fX3_12 (at_Reader s) rfl ?_
  refine z_aload_n dX3_readMark_37 rfl ?_
  refine z_getf dX3_readMark_38 fX3_41 (at_Reader s) rfl ?_
  obtain ⟨x4, s5, q6, hf⟩ := zbn_of hf
  refine z_cS (as := [_, _]) hok dX3_readMark_41 kX3_191 (tX2_numberOf hok (d - 1) (by omega) N (s.1 303)  q6) rfl rfl (by omega) (Nat.le_of_ble_eq_true rfl) (Nat.zero_le _) (Nat.zero_le _) rfl ?_
  refine z_istore_n (ls' := [_, _]) dX3_readMark_44 (by decide) rfl ?_
  refine z_iload_n dX3_readMark_45 rfl ?_
  refine z_if_ne 55 dX3_readMark_46 (by decide) (fun c46 => ?_) (fun c46 => ?_)
  · have hf := zifn hf c46
    refine z_mask (ls' := [_, _]) [true, true] rfl ?_
    exact tX3_readMark_J55 hok d (by omega) N   x4 emc ems hf
  · have hf := zifp hf c46
    refine z_aload_n dX3_readMark_49 rfl ?_
    refine z_bipush 6 dX3_readMark_50 (by decide +kernel) ?_
    rcases zbt_of hf with ⟨s21, q22, hf⟩ | ⟨x20, s21, q22, hf⟩
    · cases hf
      have e1 : mc = 1 := emc.symm
      have e2 : ms = 6 := ems.symm
      subst e1
      subst e2
      exact z_xV (as := [_]) hok dX3_readMark_52 kX3_75 (zcvTV (tX3_refuse hok (d - 1) N 6  q22)) rfl (at_Reader s5) rfl rfl (by omega) (Nat.le_of_ble_eq_true rfl) rfl rfl ⟨rfl, rfl⟩
    · refine z_cV (as := [_]) hok dX3_readMark_52 kX3_75 (zcvV (tX3_refuse hok (d - 1) N 6  q22)) rfl (at_Reader s5) rfl rfl (by omega) (Nat.le_of_ble_eq_true rfl) (Nat.zero_le _) (Nat.zero_le _) rfl ?_
      refine z_mask (ls' := [_, _]) [true, true] rfl ?_
      exact tX3_readMark_J55 hok d (by omega) N   x4 emc ems hf
noncomputable def fX3_readMark (N : Nat)  (s : zS) : Option (Option Unit × zS) := zbt (fX3_step N  s) (fun sx => some (none, sx)) (fun x1 s2 => if (s2.1 304) = 1 then fX3_readMark_J33 N   s2 else if (s2.1 304) = 2 then fX3_readMark_J33 N   s2 else if (s2.1 304) = 3 then fX3_readMark_J33 N   s2 else zbt (fX3_refuse N 5 s2) (fun sx => some (none, sx)) (fun x23 s24 => fX3_readMark_J33 N   s24))
set_option maxHeartbeats 400000 in
set_option maxRecDepth 100000 in
theorem tX3_readMark {g : zGl} (hok : zGok g) (d : Nat) (hd : 6 ≤ d) (N : Nat)   {s s' : zS} {w : Option Unit} (hf : fX3_readMark N  s = some (w, s')) : zMet g mX3_readMark d (zk1 w) (zk6 w) [.ref 3] (zHp s) (zendV w (zHp s')) := by
  refine zMet.ofW (by decide +kernel) (Nat.le_of_ble_eq_true rfl) ?_
  generalize emc : zk1 w = mc
  generalize ems : zk6 w = ms
  show zW g mX3_readMark d mc ms 51 _ 0 0 (zHp s) [some (.ref 3), none] [] 0
  unfold fX3_readMark at hf
  refine z_aload_n dX3_readMark_0 rfl ?_
  rcases zbt_of hf with ⟨s2, q3, hf⟩ | ⟨x1, s2, q3, hf⟩
  · cases hf
    have e1 : mc = 1 := emc.symm
    have e2 : ms = 6 := ems.symm
    subst e1
    subst e2
    exact z_xV (as := []) hok dX3_readMark_1 kX3_44 (zcvTV (tX3_step hok (d - 1) (by omega) N   q3)) rfl (at_Reader s) rfl rfl (by omega) (Nat.le_of_ble_eq_true rfl) rfl rfl ⟨rfl, rfl⟩
  · refine z_cV (as := []) hok dX3_readMark_1 kX3_44 (zcvV (tX3_step hok (d - 1) (by omega) N   q3)) rfl (at_Reader s) rfl rfl (by omega) (Nat.le_of_ble_eq_true rfl) (Nat.zero_le _) (Nat.zero_le _) rfl ?_
    refine z_aload_n dX3_readMark_4 rfl ?_
    refine z_getf dX3_readMark_5 fX3_63 (at_Reader s2) rfl ?_
    refine z_iconst 1 dX3_readMark_8 (by decide +kernel) ?_
    refine z_icmp_eq 33 dX3_readMark_9 (by decide) (fun c9 => ?_) (fun c9 => ?_)
    · have hf := zifp hf c9
      refine z_mask (ls' := [_, _]) [true, false] rfl ?_
      exact tX3_readMark_J33 hok d (by omega) N    emc ems hf
    · have hf := zifn hf c9
      refine z_aload_n dX3_readMark_12 rfl ?_
      refine z_getf dX3_readMark_13 fX3_63 (at_Reader s2) rfl ?_
      refine z_iconst 2 dX3_readMark_16 (by decide +kernel) ?_
      refine z_icmp_eq 33 dX3_readMark_17 (by decide) (fun c17 => ?_) (fun c17 => ?_)
      · have hf := zifp hf c17
        refine z_mask (ls' := [_, _]) [true, false] rfl ?_
        exact tX3_readMark_J33 hok d (by omega) N    emc ems hf
      · have hf := zifn hf c17
        refine z_aload_n dX3_readMark_20 rfl ?_
        refine z_getf dX3_readMark_21 fX3_63 (at_Reader s2) rfl ?_
        refine z_iconst 3 dX3_readMark_24 (by decide +kernel) ?_
        refine z_icmp_eq 33 dX3_readMark_25 (by decide) (fun c25 => ?_) (fun c25 => ?_)
        · have hf := zifp hf c25
          refine z_mask (ls' := [_, _]) [true, false] rfl ?_
          exact tX3_readMark_J33 hok d (by omega) N    emc ems hf
        · have hf := zifn hf c25
          refine z_aload_n dX3_readMark_28 rfl ?_
          refine z_iconst 5 dX3_readMark_29 (by decide +kernel) ?_
          rcases zbt_of hf with ⟨s24, q25, hf⟩ | ⟨x23, s24, q25, hf⟩
          · cases hf
            have e1 : mc = 1 := emc.symm
            have e2 : ms = 6 := ems.symm
            subst e1
            subst e2
            exact z_xV (as := [_]) hok dX3_readMark_30 kX3_75 (zcvTV (tX3_refuse hok (d - 1) N 5  q25)) rfl (at_Reader s2) rfl rfl (by omega) (Nat.le_of_ble_eq_true rfl) rfl rfl ⟨rfl, rfl⟩
          · refine z_cV (as := [_]) hok dX3_readMark_30 kX3_75 (zcvV (tX3_refuse hok (d - 1) N 5  q25)) rfl (at_Reader s2) rfl rfl (by omega) (Nat.le_of_ble_eq_true rfl) (Nat.zero_le _) (Nat.zero_le _) rfl ?_
            refine z_mask (ls' := [_, _]) [true, false] rfl ?_
            exact tX3_readMark_J33 hok d (by omega) N    emc ems hf

noncomputable def fX3_begin (N : Nat)  (s : zS) : Option (Option Unit × zS) := if zBk (s.2.2.1 302) then zbn (fX0_clear N (s.2.2.1 302) (zsc (zsc s 309 0) 310 (-1))) (fun x2 s3 => zbn (fX8_scan N  s3) (fun x5 s6 => zbt (fX3_step N  (zsc s6 303 (-1))) (fun sx => some (none, sx)) (fun x8 s9 => some (some (), s9)))) else none
set_option maxHeartbeats 400000 in
set_option maxRecDepth 100000 in
theorem tX3_begin {g : zGl} (hok : zGok g) (d : Nat) (hd : 6 ≤ d) (N : Nat)   {s s' : zS} {w : Option Unit} (hf : fX3_begin N  s = some (w, s')) : zMet g mX3_begin d (zk1 w) (zk6 w) [.ref 3] (zHp s) (zendV w (zHp s')) := by
  refine zMet.ofW (by decide +kernel) (Nat.le_of_ble_eq_true rfl) ?_
  generalize emc : zk1 w = mc
  generalize ems : zk6 w = ms
  show zW g mX3_begin d mc ms 51 _ 0 0 (zHp s) [some (.ref 3)] [] 0
  unfold fX3_begin at hf
  refine z_aload_n dX3_begin_0 rfl ?_
  refine z_iconst 0 dX3_begin_1 (by decide +kernel) ?_
  refine z_putf dX3_begin_2 fX3_32 wX3_9 (at_Reader s) (Nat.le_of_ble_eq_true rfl) (fun _ => rfl) (fun _ => rfl) (st_Reader_9 s 0) ?_
  refine z_aload_n dX3_begin_5 rfl ?_
  refine z_iconst (-1) dX3_begin_6 (by decide +kernel) ?_
  refine z_putf dX3_begin_7 fX3_28 wX3_10 (at_Reader (zsc s 309 0)) (Nat.le_of_ble_eq_true rfl) (fun _ => rfl) (fun _ => rfl) (st_Reader_10 (zsc s 309 0) (-1)) ?_
  refine z_aload_n dX3_begin_10 rfl ?_
  refine z_getf dX3_begin_11 fX3_25 (at_Reader (zsc (zsc s 309 0) 310 (-1))) rfl ?_
  obtain ⟨hb1, hf⟩ := zifs hf
  obtain ⟨x2, s3, q4, hf⟩ := zbn_of hf
  refine z_cV (as := []) hok dX3_begin_14 kX3_35 (tX0_clear hok (d - 1) N (s.2.2.1 302) hb1 q4) rfl (at_Book (zsc (zsc s 309 0) 310 (-1)) (s.2.2.1 302) hb1) rfl rfl (by omega) (Nat.le_of_ble_eq_true rfl) (Nat.zero_le _) (Nat.zero_le _) rfl ?_
  refine z_aload_n dX3_begin_17 rfl ?_
  refine z_getf dX3_begin_18 fX3_12 (at_Reader s3) rfl ?_
  obtain ⟨x5, s6, q7, hf⟩ := zbn_of hf
  refine z_cV (as := []) hok dX3_begin_21 kX3_38 (tX8_scan hok (d - 1) (by omega) N   q7) rfl (at_Words s3) rfl rfl (by omega) (Nat.le_of_ble_eq_true rfl) (Nat.zero_le _) (Nat.zero_le _) rfl ?_
  refine z_aload_n dX3_begin_24 rfl ?_
  refine z_iconst (-1) dX3_begin_25 (by decide +kernel) ?_
  refine z_putf dX3_begin_26 fX3_41 wX3_3 (at_Reader s6) (Nat.le_of_ble_eq_true rfl) (fun _ => rfl) (fun _ => rfl) (st_Reader_3 s6 (-1)) ?_
  refine z_aload_n dX3_begin_29 rfl ?_
  rcases zbt_of hf with ⟨s9, q10, hf⟩ | ⟨x8, s9, q10, hf⟩
  · cases hf
    have e1 : mc = 1 := emc.symm
    have e2 : ms = 6 := ems.symm
    subst e1
    subst e2
    exact z_xV (as := []) hok dX3_begin_30 kX3_44 (zcvTV (tX3_step hok (d - 1) (by omega) N   q10)) rfl (at_Reader (zsc s6 303 (-1))) rfl rfl (by omega) (Nat.le_of_ble_eq_true rfl) rfl rfl ⟨rfl, rfl⟩
  · refine z_cV (as := []) hok dX3_begin_30 kX3_44 (zcvV (tX3_step hok (d - 1) (by omega) N   q10)) rfl (at_Reader (zsc s6 303 (-1))) rfl rfl (by omega) (Nat.le_of_ble_eq_true rfl) (Nat.zero_le _) (Nat.zero_le _) rfl ?_
    cases hf
    exact z_vret rfl dX3_begin_33 (Nat.zero_le _) (Nat.zero_le _) ⟨rfl, rfl⟩

