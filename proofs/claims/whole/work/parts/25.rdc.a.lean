noncomputable def fX3_readOperand_J191 (N : Nat)   (s : zS) : Option (Option Unit × zS) := if zBk (s.2.2.1 302) then if zBk (s.2.2.1 302) then zbn (fX6_setCell N ((s.2.2.1 302) + 3) (s.1 306) 4 ((s.1 (100 * ((s.2.2.1 302) + 5) + 3)) - (s.1 307)) s) (fun x9 s10 => some (some (), s10)) else none else none
set_option maxHeartbeats 400000 in
set_option maxRecDepth 100000 in
theorem tX3_readOperand_J191 {g : zGl} (hok : zGok g) (d : Nat) (hd : 421 ≤ d) (N : Nat)   {mc ms n0 : Nat}  {s s' : zS} {w : Option Unit} (emc : zk1 w = mc) (ems : zk6 w = ms) (hf : fX3_readOperand_J191 N   s = some (w, s')) : zW g mX3_readOperand d mc ms n0 (zendV w (zHp s')) 0 0 (zHp s) [some (.ref 3), none] [] 191 := by
  unfold fX3_readOperand_J191 at hf
  refine z_aload_n dX3_readOperand_191 rfl ?_
  refine z_getf dX3_readOperand_192 fX3_25 (at_Reader s) rfl ?_
  obtain ⟨hb7, hf⟩ := zifs hf
  refine z_getN hok dX3_readOperand_195 fX3_100 (at_Book s (s.2.2.1 302) hb7) rfl ?_
  refine z_aload_n dX3_readOperand_198 rfl ?_
  refine z_getf dX3_readOperand_199 fX3_161 (at_Reader s) rfl ?_
  refine z_iconst 4 dX3_readOperand_202 (by decide +kernel) ?_
  refine z_aload_n dX3_readOperand_203 rfl ?_
  refine z_getf dX3_readOperand_204 fX3_25 (at_Reader s) rfl ?_
  obtain ⟨hb8, hf⟩ := zifs hf
  refine z_getN hok dX3_readOperand_207 fX3_164 (at_Book s (s.2.2.1 302) hb8) rfl ?_
  refine z_getN hok dX3_readOperand_210 fX3_55 (at_Table s ((s.2.2.1 302) + 5) (zBk_t (s.2.2.1 302) hb8).2.2.1) rfl ?_
  refine z_aload_n dX3_readOperand_213 rfl ?_
  refine z_getf dX3_readOperand_214 fX3_167 (at_Reader s) rfl ?_
  refine z_isub dX3_readOperand_217 ?_
  obtain ⟨x9, s10, q11, hf⟩ := zbn_of hf
  refine z_cV (as := [_, _, _]) hok dX3_readOperand_218 kX3_106 (tX6_setCell hok (d - 1) N ((s.2.2.1 302) + 3) (s.1 306) 4 ((s.1 (100 * ((s.2.2.1 302) + 5) + 3)) - (s.1 307)) (zBk_t (s.2.2.1 302) hb7).2.1 q11) rfl (at_Table s ((s.2.2.1 302) + 3) (zBk_t (s.2.2.1 302) hb7).2.1) rfl rfl (by omega) (Nat.le_of_ble_eq_true rfl) (Nat.zero_le _) (Nat.zero_le _) rfl ?_
  cases hf
  exact z_vret rfl dX3_readOperand_221 (Nat.zero_le _) (Nat.zero_le _) ⟨rfl, rfl⟩
noncomputable def fX3_readOperand_J154 (N : Nat)   (s : zS) : Option (Option Unit × zS) := if (s.1 304) = 9 then if zBk (s.2.2.1 302) then zbn (fX6_setCell N ((s.2.2.1 302) + 3) (s.1 306) 0 2 s) (fun x13 s14 => zbt (fX3_readBase N  s14) (fun sx => some (none, sx)) (fun x16 s17 => fX3_readOperand_J191 N   s17)) else none else fX3_readOperand_J191 N   s
set_option maxHeartbeats 400000 in
set_option maxRecDepth 100000 in
theorem tX3_readOperand_J154 {g : zGl} (hok : zGok g) (d : Nat) (hd : 421 ≤ d) (N : Nat)   {mc ms n0 : Nat}  {s s' : zS} {w : Option Unit} (emc : zk1 w = mc) (ems : zk6 w = ms) (hf : fX3_readOperand_J154 N   s = some (w, s')) : zW g mX3_readOperand d mc ms n0 (zendV w (zHp s')) 0 0 (zHp s) [some (.ref 3), none] [] 154 := by
  unfold fX3_readOperand_J154 at hf
  refine z_aload_n dX3_readOperand_154 rfl ?_
  refine z_getf dX3_readOperand_155 fX3_63 (at_Reader s) rfl ?_
  refine z_bipush 9 dX3_readOperand_158 (by decide +kernel) ?_
  refine z_icmp_ne 191 dX3_readOperand_160 (by decide) (fun c160 => ?_) (fun c160 => ?_)
  · have hf := zifn hf c160
    refine z_mask (ls' := [_, _]) [true, false] rfl ?_
    exact tX3_readOperand_J191 hok d (by omega) N    emc ems hf
  · have hf := zifp hf c160
    refine z_aload_n dX3_readOperand_163 rfl ?_
    refine z_getf dX3_readOperand_164 fX3_25 (at_Reader s) rfl ?_
    obtain ⟨hb12, hf⟩ := zifs hf
    refine z_getN hok dX3_readOperand_167 fX3_100 (at_Book s (s.2.2.1 302) hb12) rfl ?_
    refine z_aload_n dX3_readOperand_170 rfl ?_
    refine z_getf dX3_readOperand_171 fX3_161 (at_Reader s) rfl ?_
    refine z_iconst 0 dX3_readOperand_174 (by decide +kernel) ?_
    refine z_iconst 2 dX3_readOperand_175 (by decide +kernel) ?_
    obtain ⟨x13, s14, q15, hf⟩ := zbn_of hf
    refine z_cV (as := [_, _, _]) hok dX3_readOperand_176 kX3_106 (tX6_setCell hok (d - 1) N ((s.2.2.1 302) + 3) (s.1 306) 0 2 (zBk_t (s.2.2.1 302) hb12).2.1 q15) rfl (at_Table s ((s.2.2.1 302) + 3) (zBk_t (s.2.2.1 302) hb12).2.1) rfl rfl (by omega) (Nat.le_of_ble_eq_true rfl) (Nat.zero_le _) (Nat.zero_le _) rfl ?_
    refine z_aload_n dX3_readOperand_179 rfl ?_
    rcases zbt_of hf with ⟨s17, q18, hf⟩ | ⟨x16, s17, q18, hf⟩
    · cases hf
      have e1 : mc = 1 := emc.symm
      have e2 : ms = 6 := ems.symm
      subst e1
      subst e2
      exact z_xV (as := []) hok dX3_readOperand_180 kX3_148 (zcvTV (tX3_readBase hok (d - 1) (by omega) N   q18)) rfl (at_Reader s14) rfl rfl (by omega) (Nat.le_of_ble_eq_true rfl) rfl rfl ⟨rfl, rfl⟩
    · refine z_cV (as := []) hok dX3_readOperand_180 kX3_148 (zcvV (tX3_readBase hok (d - 1) (by omega) N   q18)) rfl (at_Reader s14) rfl rfl (by omega) (Nat.le_of_ble_eq_true rfl) (Nat.zero_le _) (Nat.zero_le _) rfl ?_
      refine z_goto 191 dX3_readOperand_183 (by decide) ?_
      refine z_mask (ls' := [_, _]) [true, false] rfl ?_
      exact tX3_readOperand_J191 hok d (by omega) N    emc ems hf
noncomputable def fX3_readOperand_J134 (N : Nat)  (v1 : Int32) (s : zS) : Option (Option Unit × zS) := zbt (fX3_readSides N 1 1 s) (fun sx => some (none, sx)) (fun x4 s5 => if v1 = 0 then fX3_readOperand_J154 N   s5 else zbt (fX3_demand N 10 s5) (fun sx => some (none, sx)) (fun x19 s20 => zbt (fX3_step N  s20) (fun sx => some (none, sx)) (fun x22 s23 => fX3_readOperand_J154 N   s23)))
set_option maxHeartbeats 400000 in
set_option maxRecDepth 100000 in
theorem tX3_readOperand_J134 {g : zGl} (hok : zGok g) (d : Nat) (hd : 421 ≤ d) (N : Nat)   {mc ms n0 : Nat} (v1 : Int32) {s s' : zS} {w : Option Unit} (emc : zk1 w = mc) (ems : zk6 w = ms) (hf : fX3_readOperand_J134 N  v1 s = some (w, s')) : zW g mX3_readOperand d mc ms n0 (zendV w (zHp s')) 0 0 (zHp s) [some (.ref 3), some (.int v1)] [] 134 := by
  unfold fX3_readOperand_J134 at hf
  refine z_aload_n dX3_readOperand_134 rfl ?_
  refine z_iconst 1 dX3_readOperand_135 (by decide +kernel) ?_
  refine z_iconst 1 dX3_readOperand_136 (by decide +kernel) ?_
  rcases zbt_of hf with ⟨s5, q6, hf⟩ | ⟨x4, s5, q6, hf⟩
  · cases hf
    have e1 : mc = 1 := emc.symm
    have e2 : ms = 6 := ems.symm
    subst e1
    subst e2
    exact z_xV (as := [_, _]) hok dX3_readOperand_137 kX3_158 (zcvTV (tX3_readSides hok (d - 1) (by omega) N 1 1  q6)) rfl (at_Reader s) rfl rfl (by omega) (Nat.le_of_ble_eq_true rfl) rfl rfl ⟨rfl, rfl⟩
  · refine z_cV (as := [_, _]) hok dX3_readOperand_137 kX3_158 (zcvV (tX3_readSides hok (d - 1) (by omega) N 1 1  q6)) rfl (at_Reader s) rfl rfl (by omega) (Nat.le_of_ble_eq_true rfl) (Nat.zero_le _) (Nat.zero_le _) rfl ?_
    refine z_iload_n dX3_readOperand_140 rfl ?_
    refine z_if_eq 154 dX3_readOperand_141 (by decide) (fun c141 => ?_) (fun c141 => ?_)
    · have hf := zifp hf c141
      refine z_mask (ls' := [_, _]) [true, false] rfl ?_
      exact tX3_readOperand_J154 hok d (by omega) N    emc ems hf
    · have hf := zifn hf c141
      refine z_aload_n dX3_readOperand_144 rfl ?_
      refine z_bipush 10 dX3_readOperand_145 (by decide +kernel) ?_
      rcases zbt_of hf with ⟨s20, q21, hf⟩ | ⟨x19, s20, q21, hf⟩
      · cases hf
        have e1 : mc = 1 := emc.symm
        have e2 : ms = 6 := ems.symm
        subst e1
        subst e2
        exact z_xV (as := [_]) hok dX3_readOperand_147 kX3_97 (zcvTV (tX3_demand hok (d - 1) (by omega) N 10  q21)) rfl (at_Reader s5) rfl rfl (by omega) (Nat.le_of_ble_eq_true rfl) rfl rfl ⟨rfl, rfl⟩
      · refine z_cV (as := [_]) hok dX3_readOperand_147 kX3_97 (zcvV (tX3_demand hok (d - 1) (by omega) N 10  q21)) rfl (at_Reader s5) rfl rfl (by omega) (Nat.le_of_ble_eq_true rfl) (Nat.zero_le _) (Nat.zero_le _) rfl ?_
        refine z_aload_n dX3_readOperand_150 rfl ?_
        rcases zbt_of hf with ⟨s23, q24, hf⟩ | ⟨x22, s23, q24, hf⟩
        · cases hf
          have e1 : mc = 1 := emc.symm
          have e2 : ms = 6 := ems.symm
          subst e1
          subst e2
          exact z_xV (as := []) hok dX3_readOperand_151 kX3_44 (zcvTV (tX3_step hok (d - 1) (by omega) N   q24)) rfl (at_Reader s20) rfl rfl (by omega) (Nat.le_of_ble_eq_true rfl) rfl rfl ⟨rfl, rfl⟩
        · refine z_cV (as := []) hok dX3_readOperand_151 kX3_44 (zcvV (tX3_step hok (d - 1) (by omega) N   q24)) rfl (at_Reader s20) rfl rfl (by omega) (Nat.le_of_ble_eq_true rfl) (Nat.zero_le _) (Nat.zero_le _) rfl ?_
          refine z_mask (ls' := [_, _]) [true, false] rfl ?_
          exact tX3_readOperand_J154 hok d (by omega) N    emc ems hf
noncomputable def fX3_readOperand_J121 (N : Nat)  (v1 : Int32) (s : zS) : Option (Option Unit × zS) := zbt (fX3_addOperand N 0 s) (fun sx => some (none, sx)) (fun x1 s2 => if v1 = 0 then fX3_readOperand_J134 N  v1 s2 else zbt (fX3_readMark N  s2) (fun sx => some (none, sx)) (fun x25 s26 => fX3_readOperand_J134 N  v1 s26))
set_option maxHeartbeats 400000 in
set_option maxRecDepth 100000 in
theorem tX3_readOperand_J121 {g : zGl} (hok : zGok g) (d : Nat) (hd : 421 ≤ d) (N : Nat)   {mc ms n0 : Nat} (v1 : Int32) {s s' : zS} {w : Option Unit} (emc : zk1 w = mc) (ems : zk6 w = ms) (hf : fX3_readOperand_J121 N  v1 s = some (w, s')) : zW g mX3_readOperand d mc ms n0 (zendV w (zHp s')) 0 0 (zHp s) [some (.ref 3), some (.int v1)] [] 121 := by
  unfold fX3_readOperand_J121 at hf
  refine z_aload_n dX3_readOperand_121 rfl ?_
  refine z_iconst 0 dX3_readOperand_122 (by decide +kernel) ?_
  rcases zbt_of hf with ⟨s2, q3, hf⟩ | ⟨x1, s2, q3, hf⟩
  · cases hf
    have e1 : mc = 1 := emc.symm
    have e2 : ms = 6 := ems.symm
    subst e1
    subst e2
    exact z_xV (as := [_]) hok dX3_readOperand_123 kX3_132 (zcvTV (tX3_addOperand hok (d - 1) (by omega) N 0  q3)) rfl (at_Reader s) rfl rfl (by omega) (Nat.le_of_ble_eq_true rfl) rfl rfl ⟨rfl, rfl⟩
  · refine z_cV (as := [_]) hok dX3_readOperand_123 kX3_132 (zcvV (tX3_addOperand hok (d - 1) (by omega) N 0  q3)) rfl (at_Reader s) rfl rfl (by omega) (Nat.le_of_ble_eq_true rfl) (Nat.zero_le _) (Nat.zero_le _) rfl ?_
    refine z_iload_n dX3_readOperand_126 rfl ?_
    refine z_if_eq 134 dX3_readOperand_127 (by decide) (fun c127 => ?_) (fun c127 => ?_)
    · have hf := zifp hf c127
      refine z_mask (ls' := [_, _]) [true, true] rfl ?_
      exact tX3_readOperand_J134 hok d (by omega) N   v1 emc ems hf
    · have hf := zifn hf c127
      refine z_aload_n dX3_readOperand_130 rfl ?_
      rcases zbt_of hf with ⟨s26, q27, hf⟩ | ⟨x25, s26, q27, hf⟩
      · cases hf
        have e1 : mc = 1 := emc.symm
        have e2 : ms = 6 := ems.symm
        subst e1
        subst e2
        exact z_xV (as := []) hok dX3_readOperand_131 kX3_155 (zcvTV (tX3_readMark hok (d - 1) (by omega) N   q27)) rfl (at_Reader s2) rfl rfl (by omega) (Nat.le_of_ble_eq_true rfl) rfl rfl ⟨rfl, rfl⟩
      · refine z_cV (as := []) hok dX3_readOperand_131 kX3_155 (zcvV (tX3_readMark hok (d - 1) (by omega) N   q27)) rfl (at_Reader s2) rfl rfl (by omega) (Nat.le_of_ble_eq_true rfl) (Nat.zero_le _) (Nat.zero_le _) rfl ?_
        refine z_mask (ls' := [_, _]) [true, true] rfl ?_
        exact tX3_readOperand_J134 hok d (by omega) N   v1 emc ems hf
noncomputable def fX3_readOperand_J107 (N : Nat)  (v1 : Int32) (s : zS) : Option (Option Unit × zS) := if v1 = 0 then zbn (fX3_canBeginExpression N (s.1 304) s) (fun x28 s29 => if x28 = 0 then zbt (fX3_refuse N 5 s29) (fun sx => some (none, sx)) (fun x31 s32 => fX3_readOperand_J191 N   s32) else fX3_readOperand_J121 N  v1 s29) else fX3_readOperand_J121 N  v1 s
set_option maxHeartbeats 400000 in
set_option maxRecDepth 100000 in
theorem tX3_readOperand_J107 {g : zGl} (hok : zGok g) (d : Nat) (hd : 421 ≤ d) (N : Nat)   {mc ms n0 : Nat} (v1 : Int32) {s s' : zS} {w : Option Unit} (emc : zk1 w = mc) (ems : zk6 w = ms) (hf : fX3_readOperand_J107 N  v1 s = some (w, s')) : zW g mX3_readOperand d mc ms n0 (zendV w (zHp s')) 0 0 (zHp s) [some (.ref 3), some (.int v1)] [] 107 := by
  unfold fX3_readOperand_J107 at hf
  refine z_iload_n dX3_readOperand_107 rfl ?_
  refine z_if_ne 121 dX3_readOperand_108 (by decide) (fun c108 => ?_) (fun c108 => ?_)
  · have hf := zifn hf c108
    refine z_mask (ls' := [_, _]) [true, true] rfl ?_
    exact tX3_readOperand_J121 hok d (by omega) N   v1 emc ems hf
  · have hf := zifp hf c108
    refine z_aload_n dX3_readOperand_111 rfl ?_
    refine z_getf dX3_readOperand_112 fX3_63 (at_Reader s) rfl ?_
    obtain ⟨x28, s29, q30, hf⟩ := zbn_of hf
    refine z_cS (as := [_]) hok dX3_readOperand_115 kX3_151 (tX3_canBeginExpression hok (d - 1) N (s.1 304)  q30) rfl rfl (by omega) (Nat.le_of_ble_eq_true rfl) (Nat.zero_le _) (Nat.zero_le _) rfl ?_
    refine z_if_eq 186 dX3_readOperand_118 (by decide) (fun c118 => ?_) (fun c118 => ?_)
    · have hf := zifp hf c118
      refine z_aload_n dX3_readOperand_186 rfl ?_
      refine z_iconst 5 dX3_readOperand_187 (by decide +kernel) ?_
      rcases zbt_of hf with ⟨s32, q33, hf⟩ | ⟨x31, s32, q33, hf⟩
      · cases hf
        have e1 : mc = 1 := emc.symm
        have e2 : ms = 6 := ems.symm
        subst e1
        subst e2
        exact z_xV (as := [_]) hok dX3_readOperand_188 kX3_75 (zcvTV (tX3_refuse hok (d - 1) N 5  q33)) rfl (at_Reader s29) rfl rfl (by omega) (Nat.le_of_ble_eq_true rfl) rfl rfl ⟨rfl, rfl⟩
      · refine z_cV (as := [_]) hok dX3_readOperand_188 kX3_75 (zcvV (tX3_refuse hok (d - 1) N 5  q33)) rfl (at_Reader s29) rfl rfl (by omega) (Nat.le_of_ble_eq_true rfl) (Nat.zero_le _) (Nat.zero_le _) rfl ?_
        refine z_mask (ls' := [_, _]) [true, false] rfl ?_
        exact tX3_readOperand_J191 hok d (by omega) N    emc ems hf
    · have hf := zifn hf c118
      refine z_mask (ls' := [_, _]) [true, true] rfl ?_
      exact tX3_readOperand_J121 hok d (by omega) N   v1 emc ems hf
noncomputable def fX3_readOperand_J14 (N : Nat)  (k0 : Int32) (s : zS) : Option (Option Unit × zS) := if (s.1 304) = 2 then zbt (fX3_addOperand N 1 s) (fun sx => some (none, sx)) (fun x56 s57 => zbt (fX3_readRegister N  s57) (fun sx => some (none, sx)) (fun x59 s60 => fX3_readOperand_J191 N   s60)) else if (s.1 304) = 7 then zbt (fX3_addOperand N 3 s) (fun sx => some (none, sx)) (fun x50 s51 => zbt (fX3_readString N  s51) (fun sx => some (none, sx)) (fun x53 s54 => fX3_readOperand_J191 N   s54)) else if (s.1 304) = 9 then zbn (fX8_kindOf N ((s.1 303) + 1) s) (fun x34 s35 => if x34 = 2 then zbt (fX3_addOperand N 2 s35) (fun sx => some (none, sx)) (fun x37 s38 => zbt (fX3_countItem N  s38) (fun sx => some (none, sx)) (fun x40 s41 => if zBk (s41.2.2.1 302) then zbn (fX0_addItem N (s41.2.2.1 302) 0 0 s41) (fun x44 s45 => zbt (fX3_readBase N  s45) (fun sx => some (none, sx)) (fun x47 s48 => fX3_readOperand_J191 N   s48)) else none)) else fX3_readOperand_J107 N  k0 s35) else fX3_readOperand_J107 N  k0 s
set_option maxHeartbeats 400000 in
set_option maxRecDepth 100000 in
theorem tX3_readOperand_J14 {g : zGl} (hok : zGok g) (d : Nat) (hd : 421 ≤ d) (N : Nat)   {mc ms n0 : Nat} (k0 : Int32) {s s' : zS} {w : Option Unit} (emc : zk1 w = mc) (ems : zk6 w = ms) (hf : fX3_readOperand_J14 N  k0 s = some (w, s')) : zW g mX3_readOperand d mc ms n0 (zendV w (zHp s')) 0 0 (zHp s) [some (.ref 3), none] [.int k0] 14 := by
  unfold fX3_readOperand_J14 at hf
  refine z_istore_n (ls' := [_, _]) dX3_readOperand_14 (by decide) rfl ?_
  refine z_aload_n dX3_readOperand_15 rfl ?_
  refine z_getf dX3_readOperand_16 fX3_63 (at_Reader s) rfl ?_
  refine z_iconst 2 dX3_readOperand_19 (by decide +kernel) ?_
  refine z_icmp_ne 35 dX3_readOperand_20 (by decide) (fun c20 => ?_) (fun c20 => ?_)
  · have hf := zifn hf c20
    refine z_aload_n dX3_readOperand_35 rfl ?_
    refine z_getf dX3_readOperand_36 fX3_63 (at_Reader s) rfl ?_
    refine z_bipush 7 dX3_readOperand_39 (by decide +kernel) ?_
    refine z_icmp_ne 56 dX3_readOperand_41 (by decide) (fun c41 => ?_) (fun c41 => ?_)
    · have hf := zifn hf c41
      refine z_aload_n dX3_readOperand_56 rfl ?_
      refine z_getf dX3_readOperand_57 fX3_63 (at_Reader s) rfl ?_
      refine z_bipush 9 dX3_readOperand_60 (by decide +kernel) ?_
      refine z_icmp_ne 107 dX3_readOperand_62 (by decide) (fun c62 => ?_) (fun c62 => ?_)
      · have hf := zifn hf c62
        refine z_mask (ls' := [_, _]) [true, true] rfl ?_
        exact tX3_readOperand_J107 hok d (by omega) N   k0 emc ems hf
      · have hf := zifp hf c62
        refine z_aload_n dX3_readOperand_65 rfl ?_
        refine z_getf dX3_readOperand_66 fX3_12 (at_Reader s) rfl ?_
        refine z_aload_n dX3_readOperand_69 rfl ?_
        refine z_getf dX3_readOperand_70 fX3_41 (at_Reader s) rfl ?_
        refine z_iconst 1 dX3_readOperand_73 (by decide +kernel) ?_
        refine z_iadd dX3_readOperand_74 ?_
        obtain ⟨x34, s35, q36, hf⟩ := zbn_of hf
        refine z_cV (as := [_]) hok dX3_readOperand_75 kX3_59 (tX8_kindOf hok (d - 1) (by omega) N ((s.1 303) + 1)  q36) rfl (at_Words s) rfl rfl (by omega) (Nat.le_of_ble_eq_true rfl) (Nat.zero_le _) (Nat.zero_le _) rfl ?_
        refine z_iconst 2 dX3_readOperand_78 (by decide +kernel) ?_
        refine z_icmp_ne 107 dX3_readOperand_79 (by decide) (fun c79 => ?_) (fun c79 => ?_)
        · have hf := zifn hf c79
          refine z_mask (ls' := [_, _]) [true, true] rfl ?_
          exact tX3_readOperand_J107 hok d (by omega) N   k0 emc ems hf
        · have hf := zifp hf c79
          refine z_aload_n dX3_readOperand_82 rfl ?_
          refine z_iconst 2 dX3_readOperand_83 (by decide +kernel) ?_
          rcases zbt_of hf with ⟨s38, q39, hf⟩ | ⟨x37, s38, q39, hf⟩
          · cases hf
            have e1 : mc = 1 := emc.symm
            have e2 : ms = 6 := ems.symm
            subst e1
            subst e2
            exact z_xV (as := [_]) hok dX3_readOperand_84 kX3_132 (zcvTV (tX3_addOperand hok (d - 1) (by omega) N 2  q39)) rfl (at_Reader s35) rfl rfl (by omega) (Nat.le_of_ble_eq_true rfl) rfl rfl ⟨rfl, rfl⟩
          · refine z_cV (as := [_]) hok dX3_readOperand_84 kX3_132 (zcvV (tX3_addOperand hok (d - 1) (by omega) N 2  q39)) rfl (at_Reader s35) rfl rfl (by omega) (Nat.le_of_ble_eq_true rfl) (Nat.zero_le _) (Nat.zero_le _) rfl ?_
            refine z_aload_n dX3_readOperand_87 rfl ?_
            rcases zbt_of hf with ⟨s41, q42, hf⟩ | ⟨x40, s41, q42, hf⟩
            · cases hf
              have e1 : mc = 1 := emc.symm
              have e2 : ms = 6 := ems.symm
              subst e1
              subst e2
              exact z_xV (as := []) hok dX3_readOperand_88 kX3_141 (zcvTV (tX3_countItem hok (d - 1) (by omega) N   q42)) rfl (at_Reader s38) rfl rfl (by omega) (Nat.le_of_ble_eq_true rfl) rfl rfl ⟨rfl, rfl⟩
            · refine z_cV (as := []) hok dX3_readOperand_88 kX3_141 (zcvV (tX3_countItem hok (d - 1) (by omega) N   q42)) rfl (at_Reader s38) rfl rfl (by omega) (Nat.le_of_ble_eq_true rfl) (Nat.zero_le _) (Nat.zero_le _) rfl ?_
              refine z_aload_n dX3_readOperand_91 rfl ?_
              refine z_getf dX3_readOperand_92 fX3_25 (at_Reader s41) rfl ?_
              obtain ⟨hb43, hf⟩ := zifs hf
              refine z_iconst 0 dX3_readOperand_95 (by decide +kernel) ?_
              refine z_iconst 0 dX3_readOperand_96 (by decide +kernel) ?_
              obtain ⟨x44, s45, q46, hf⟩ := zbn_of hf
              refine z_cV (as := [_, _]) hok dX3_readOperand_97 kX3_144 (tX0_addItem hok (d - 1) (by omega) N (s41.2.2.1 302) 0 0 hb43 q46) rfl (at_Book s41 (s41.2.2.1 302) hb43) rfl rfl (by omega) (Nat.le_of_ble_eq_true rfl) (Nat.zero_le _) (Nat.zero_le _) rfl ?_
              refine z_aload_n dX3_readOperand_100 rfl ?_
              rcases zbt_of hf with ⟨s48, q49, hf⟩ | ⟨x47, s48, q49, hf⟩
              · cases hf
                have e1 : mc = 1 := emc.symm
                have e2 : ms = 6 := ems.symm
                subst e1
                subst e2
                exact z_xV (as := []) hok dX3_readOperand_101 kX3_148 (zcvTV (tX3_readBase hok (d - 1) (by omega) N   q49)) rfl (at_Reader s45) rfl rfl (by omega) (Nat.le_of_ble_eq_true rfl) rfl rfl ⟨rfl, rfl⟩
              · refine z_cV (as := []) hok dX3_readOperand_101 kX3_148 (zcvV (tX3_readBase hok (d - 1) (by omega) N   q49)) rfl (at_Reader s45) rfl rfl (by omega) (Nat.le_of_ble_eq_true rfl) (Nat.zero_le _) (Nat.zero_le _) rfl ?_
                refine z_goto 191 dX3_readOperand_104 (by decide) ?_
                refine z_mask (ls' := [_, _]) [true, false] rfl ?_
                exact tX3_readOperand_J191 hok d (by omega) N    emc ems hf
    · have hf := zifp hf c41
      refine z_aload_n dX3_readOperand_44 rfl ?_
      refine z_iconst 3 dX3_readOperand_45 (by decide +kernel) ?_
      rcases zbt_of hf with ⟨s51, q52, hf⟩ | ⟨x50, s51, q52, hf⟩
      · cases hf
        have e1 : mc = 1 := emc.symm
        have e2 : ms = 6 := ems.symm
        subst e1
        subst e2
        exact z_xV (as := [_]) hok dX3_readOperand_46 kX3_132 (zcvTV (tX3_addOperand hok (d - 1) (by omega) N 3  q52)) rfl (at_Reader s) rfl rfl (by omega) (Nat.le_of_ble_eq_true rfl) rfl rfl ⟨rfl, rfl⟩
      · refine z_cV (as := [_]) hok dX3_readOperand_46 kX3_132 (zcvV (tX3_addOperand hok (d - 1) (by omega) N 3  q52)) rfl (at_Reader s) rfl rfl (by omega) (Nat.le_of_ble_eq_true rfl) (Nat.zero_le _) (Nat.zero_le _) rfl ?_
        refine z_aload_n dX3_readOperand_49 rfl ?_
        rcases zbt_of hf with ⟨s54, q55, hf⟩ | ⟨x53, s54, q55, hf⟩
        · cases hf
          have e1 : mc = 1 := emc.symm
          have e2 : ms = 6 := ems.symm
          subst e1
          subst e2
          exact z_xV (as := []) hok dX3_readOperand_50 kX3_138 (zcvTV (tX3_readString hok (d - 1) (by omega) N   q55)) rfl (at_Reader s51) rfl rfl (by omega) (Nat.le_of_ble_eq_true rfl) rfl rfl ⟨rfl, rfl⟩
        · refine z_cV (as := []) hok dX3_readOperand_50 kX3_138 (zcvV (tX3_readString hok (d - 1) (by omega) N   q55)) rfl (at_Reader s51) rfl rfl (by omega) (Nat.le_of_ble_eq_true rfl) (Nat.zero_le _) (Nat.zero_le _) rfl ?_
          refine z_goto 191 dX3_readOperand_53 (by decide) ?_
          refine z_mask (ls' := [_, _]) [true, false] rfl ?_
          exact tX3_readOperand_J191 hok d (by omega) N    emc ems hf
  · have hf := zifp hf c20
    refine z_aload_n dX3_readOperand_23 rfl ?_
    refine z_iconst 1 dX3_readOperand_24 (by decide +kernel) ?_
    rcases zbt_of hf with ⟨s57, q58, hf⟩ | ⟨x56, s57, q58, hf⟩
    · cases hf
      have e1 : mc = 1 := emc.symm
      have e2 : ms = 6 := ems.symm
      subst e1
      subst e2
      exact z_xV (as := [_]) hok dX3_readOperand_25 kX3_132 (zcvTV (tX3_addOperand hok (d - 1) (by omega) N 1  q58)) rfl (at_Reader s) rfl rfl (by omega) (Nat.le_of_ble_eq_true rfl) rfl rfl ⟨rfl, rfl⟩
    · refine z_cV (as := [_]) hok dX3_readOperand_25 kX3_132 (zcvV (tX3_addOperand hok (d - 1) (by omega) N 1  q58)) rfl (at_Reader s) rfl rfl (by omega) (Nat.le_of_ble_eq_true rfl) (Nat.zero_le _) (Nat.zero_le _) rfl ?_
      refine z_aload_n dX3_readOperand_28 rfl ?_
      rcases zbt_of hf with ⟨s60, q61, hf⟩ | ⟨x59, s60, q61, hf⟩
      · cases hf
        have e1 : mc = 1 := emc.symm
        have e2 : ms = 6 := ems.symm
        subst e1
        subst e2
        exact z_xV (as := []) hok dX3_readOperand_29 kX3_135 (zcvTV (tX3_readRegister hok (d - 1) (by omega) N   q61)) rfl (at_Reader s57) rfl rfl (by omega) (Nat.le_of_ble_eq_true rfl) rfl rfl ⟨rfl, rfl⟩
      · refine z_cV (as := []) hok dX3_readOperand_29 kX3_135 (zcvV (tX3_readRegister hok (d - 1) (by omega) N   q61)) rfl (at_Reader s57) rfl rfl (by omega) (Nat.le_of_ble_eq_true rfl) (Nat.zero_le _) (Nat.zero_le _) rfl ?_
        refine z_goto 191 dX3_readOperand_32 (by decide) ?_
        refine z_mask (ls' := [_, _]) [true, false] rfl ?_
        exact tX3_readOperand_J191 hok d (by omega) N    emc ems hf
noncomputable def fX3_readOperand (N : Nat)  (s : zS) : Option (Option Unit × zS) := if (s.1 304) = 16 then fX3_readOperand_J14 N  1 s else fX3_readOperand_J14 N  0 s
set_option maxHeartbeats 400000 in
set_option maxRecDepth 100000 in
theorem tX3_readOperand {g : zGl} (hok : zGok g) (d : Nat) (hd : 421 ≤ d) (N : Nat)   {s s' : zS} {w : Option Unit} (hf : fX3_readOperand N  s = some (w, s')) : zMet g mX3_readOperand d (zk1 w) (zk6 w) [.ref 3] (zHp s) (zendV w (zHp s')) := by
  refine zMet.ofW (by decide +kernel) (Nat.le_of_ble_eq_true rfl) ?_
  generalize emc : zk1 w = mc
  generalize ems : zk6 w = ms
  show zW g mX3_readOperand d mc ms 51 _ 0 0 (zHp s) [some (.ref 3), none] [] 0
  unfold fX3_readOperand at hf
  refine z_aload_n dX3_readOperand_0 rfl ?_
  refine z_getf dX3_readOperand_1 fX3_63 (at_Reader s) rfl ?_
  refine z_bipush 16 dX3_readOperand_4 (by decide +kernel) ?_
  refine z_icmp_ne 13 dX3_readOperand_6 (by decide) (fun c6 => ?_) (fun c6 => ?_)
  · have hf := zifn hf c6
    refine z_iconst 0 dX3_readOperand_13 (by decide +kernel) ?_
    refine z_mask (ls' := [_, _]) [true, false] rfl ?_
    exact tX3_readOperand_J14 hok d (by omega) N   0 emc ems hf
  · have hf := zifp hf c6
    refine z_iconst 1 dX3_readOperand_9 (by decide +kernel) ?_
    refine z_goto 14 dX3_readOperand_10 (by decide) ?_
    refine z_mask (ls' := [_, _]) [true, false] rfl ?_
    exact tX3_readOperand_J14 hok d (by omega) N   1 emc ems hf

noncomputable def fX3_readWord_L56S (N : Nat) (p0 : Int32) (rec : Int32 → Int32 → Int32 → zS → Option ((Option Unit × zS) ⊕ (Int32 × Int32 × zS))) (v2 : Int32) (v3 : Int32) (v4 : Int32) (s : zS) : Option ((Option Unit × zS) ⊕ (Int32 × Int32 × zS)) := if 800 < v4 then some (.inr (v2, v3, s)) else if (s.1 304) = 8 then zbt (fX3_step N  s) (fun sx => some (.inl (none, sx))) (fun x11 s12 => zbt (fX3_readOperand N  s12) (fun sx => some (.inl (none, sx))) (fun x14 s15 => rec v2 v3 (v4 + 1) s15)) else some (.inr (v2, v3, s))
noncomputable def fX3_readWord_L56 (N : Nat) (p0 : Int32) (n : Nat) : Int32 → Int32 → Int32 → zS → Option ((Option Unit × zS) ⊕ (Int32 × Int32 × zS)) := Nat.rec (motive := fun _ => Int32 → Int32 → Int32 → zS → Option ((Option Unit × zS) ⊕ (Int32 × Int32 × zS))) (fun _ _ _ _ => none) (fun _ rec => fX3_readWord_L56S N p0 rec) n
set_option maxHeartbeats 400000 in
set_option maxRecDepth 100000 in
theorem tX3_readWord_L56 {g : zGl} (hok : zGok g) (d : Nat) (hd : 422 ≤ d) (N : Nat) (p0 : Int32)  {mc ms n0 : Nat} {Q : zO → List zE → Prop} (n : Nat) : ∀ (v2 : Int32) (v3 : Int32) (v4 : Int32) (s : zS) (r : (Option Unit × zS) ⊕ (Int32 × Int32 × zS)) (hf : fX3_readWord_L56 N p0 n v2 v3 v4 s = some r) (k1 : ∀ w s', r = .inl (some w, s') → Q (.inl none) (zHp s')) (kx : ∀ s', r = .inl (none, s') → mc = 1 ∧ ms = 6 ∧ Q (.inr zIAE) (zHp s')) (k2 : ∀ (y2 : Int32) (y3 : Int32) (s' : zS), r = .inr (y2, y3, s') → zW g mX3_readWord d mc ms n0 Q 0 0 (zHp s') [some (.ref 3), some (.int p0), some (.int y2), some (.int y3), none] [] 87), zW g mX3_readWord d mc ms n0 Q 0 0 (zHp s) [some (.ref 3), some (.int p0), some (.int v2), some (.int v3), some (.int v4)] [] 56 := by
  induction n with
  | zero => intro v2 v3 v4 s r hf; cases hf
  | succ n ih =>
    intro v2 v3 v4 s r hf k1 kx k2
    have hrec : ∀ (v2 : Int32) (v3 : Int32) (v4 : Int32) (s : zS) (r1 : (Option Unit × zS) ⊕ (Int32 × Int32 × zS)), fX3_readWord_L56 N p0 n v2 v3 v4 s = some r1 → r1 = r → zW g mX3_readWord d mc ms n0 Q 0 0 (zHp s) [some (.ref 3), some (.int p0), some (.int v2), some (.int v3), some (.int v4)] [] 56 := fun v2 v3 v4 s r1 h e => ih v2 v3 v4 s r1 h (by subst e; exact k1) (by subst e; exact kx) (by subst e; exact k2)
    have hrec : ∀ (v2 : Int32) (v3 : Int32) (v4 : Int32) (s : zS), fX3_readWord_L56 N p0 n v2 v3 v4 s = some r → zW g mX3_readWord d mc ms n0 Q 0 0 (zHp s) [some (.ref 3), some (.int p0), some (.int v2), some (.int v3), some (.int v4)] [] 56 := fun v2 v3 v4 s h => hrec v2 v3 v4 s r h rfl
    have hf : fX3_readWord_L56S N p0 (fX3_readWord_L56 N p0 n) v2 v3 v4 s = some r := hf
    unfold fX3_readWord_L56S at hf
    refine z_iload dX3_readWord_56 rfl ?_
    refine z_sipush 800 dX3_readWord_58 (by decide +kernel) ?_
    refine z_icmp_gt 87 dX3_readWord_61 (by decide) (fun c61 => ?_) (fun c61 => ?_)
    · have hf := zifp hf c61
      cases hf
      refine z_mask (ls' := [_, _, _, _, _]) [true, true, true, true, false] rfl ?_
      exact k2 _ _ _ rfl
    · have hf := zifn hf c61
      refine z_aload_n dX3_readWord_64 rfl ?_
      refine z_getf dX3_readWord_65 fX3_63 (at_Reader s) rfl ?_
      refine z_bipush 8 dX3_readWord_68 (by decide +kernel) ?_
      refine z_icmp_ne 87 dX3_readWord_70 (by decide) (fun c70 => ?_) (fun c70 => ?_)
      · have hf := zifn hf c70
        cases hf
        refine z_mask (ls' := [_, _, _, _, _]) [true, true, true, true, false] rfl ?_
        exact k2 _ _ _ rfl
      · have hf := zifp hf c70
        refine z_aload_n dX3_readWord_73 rfl ?_
        rcases zbt_of hf with ⟨s12, q13, hf⟩ | ⟨x11, s12, q13, hf⟩
        · cases hf
          obtain ⟨e1, e2, hQ⟩ := kx _ rfl
          cases e1
          cases e2
          exact z_xV (as := []) hok dX3_readWord_74 kX3_44 (zcvTV (tX3_step hok (d - 1) (by omega) N   q13)) rfl (at_Reader s) rfl rfl (by omega) (Nat.le_of_ble_eq_true rfl) rfl rfl hQ
        · refine z_cV (as := []) hok dX3_readWord_74 kX3_44 (zcvV (tX3_step hok (d - 1) (by omega) N   q13)) rfl (at_Reader s) rfl rfl (by omega) (Nat.le_of_ble_eq_true rfl) (Nat.zero_le _) (Nat.zero_le _) rfl ?_
          refine z_aload_n dX3_readWord_77 rfl ?_
          rcases zbt_of hf with ⟨s15, q16, hf⟩ | ⟨x14, s15, q16, hf⟩
          · cases hf
            obtain ⟨e1, e2, hQ⟩ := kx _ rfl
            cases e1
            cases e2
            exact z_xV (as := []) hok dX3_readWord_78 kX3_103 (zcvTV (tX3_readOperand hok (d - 1) (by omega) N   q16)) rfl (at_Reader s12) rfl rfl (by omega) (Nat.le_of_ble_eq_true rfl) rfl rfl hQ
          · refine z_cV (as := []) hok dX3_readWord_78 kX3_103 (zcvV (tX3_readOperand hok (d - 1) (by omega) N   q16)) rfl (at_Reader s12) rfl rfl (by omega) (Nat.le_of_ble_eq_true rfl) (Nat.zero_le _) (Nat.zero_le _) rfl ?_
            refine z_iinc (ls' := [_, _, _, _, _]) (v4 + 1) dX3_readWord_81 rfl rfl (by decide) rfl ?_
            refine z_goto 56 dX3_readWord_84 (by decide) ?_
            refine z_mask (ls' := [_, _, _, _, _]) [true, true, true, true, true] rfl ?_
            exact hrec v2 v3 (v4 + 1) s15 hf
noncomputable def fX3_readWord_J87 (N : Nat) (p0 : Int32) (v2 : Int32) (v3 : Int32) (s : zS) : Option (Option Unit × zS) := if zBk (s.2.2.1 302) then if zBk (s.2.2.1 302) then zbn (fX6_setCell N ((s.2.2.1 302) + 1) v2 3 ((s.1 (100 * ((s.2.2.1 302) + 3) + 3)) - v3) s) (fun x25 s26 => zbt (fX3_demand N 0 s26) (fun sx => some (none, sx)) (fun x28 s29 => zbt (fX3_step N  s29) (fun sx => some (none, sx)) (fun x31 s32 => some (some (), s32)))) else none else none
set_option maxHeartbeats 400000 in
set_option maxRecDepth 100000 in
theorem tX3_readWord_J87 {g : zGl} (hok : zGok g) (d : Nat) (hd : 422 ≤ d) (N : Nat) (p0 : Int32)  {mc ms n0 : Nat} (v2 : Int32) (v3 : Int32) {s s' : zS} {w : Option Unit} (emc : zk1 w = mc) (ems : zk6 w = ms) (hf : fX3_readWord_J87 N p0 v2 v3 s = some (w, s')) : zW g mX3_readWord d mc ms n0 (zendV w (zHp s')) 0 0 (zHp s) [some (.ref 3), some (.int p0), some (.int v2), some (.int v3), none] [] 87 := by
  unfold fX3_readWord_J87 at hf
  refine z_aload_n dX3_readWord_87 rfl ?_
  refine z_getf dX3_readWord_88 fX3_25 (at_Reader s) rfl ?_
  obtain ⟨hb23, hf⟩ := zifs hf
  refine z_getN hok dX3_readWord_91 fX3_51 (at_Book s (s.2.2.1 302) hb23) rfl ?_
  refine z_iload_n dX3_readWord_94 rfl ?_
  refine z_iconst 3 dX3_readWord_95 (by decide +kernel) ?_
  refine z_aload_n dX3_readWord_96 rfl ?_
  refine z_getf dX3_readWord_97 fX3_25 (at_Reader s) rfl ?_
  obtain ⟨hb24, hf⟩ := zifs hf
  refine z_getN hok dX3_readWord_100 fX3_100 (at_Book s (s.2.2.1 302) hb24) rfl ?_
  refine z_getN hok dX3_readWord_103 fX3_55 (at_Table s ((s.2.2.1 302) + 3) (zBk_t (s.2.2.1 302) hb24).2.1) rfl ?_
  refine z_iload_n dX3_readWord_106 rfl ?_
  refine z_isub dX3_readWord_107 ?_
  obtain ⟨x25, s26, q27, hf⟩ := zbn_of hf
  refine z_cV (as := [_, _, _]) hok dX3_readWord_108 kX3_106 (tX6_setCell hok (d - 1) N ((s.2.2.1 302) + 1) v2 3 ((s.1 (100 * ((s.2.2.1 302) + 3) + 3)) - v3) (zBk_t (s.2.2.1 302) hb23).1 q27) rfl (at_Table s ((s.2.2.1 302) + 1) (zBk_t (s.2.2.1 302) hb23).1) rfl rfl (by omega) (Nat.le_of_ble_eq_true rfl) (Nat.zero_le _) (Nat.zero_le _) rfl ?_
  refine z_aload_n dX3_readWord_111 rfl ?_
  refine z_iconst 0 dX3_readWord_112 (by decide +kernel) ?_
  rcases zbt_of hf with ⟨s29, q30, hf⟩ | ⟨x28, s29, q30, hf⟩
  · cases hf
    have e1 : mc = 1 := emc.symm
    have e2 : ms = 6 := ems.symm
    subst e1
    subst e2
    exact z_xV (as := [_]) hok dX3_readWord_113 kX3_97 (zcvTV (tX3_demand hok (d - 1) (by omega) N 0  q30)) rfl (at_Reader s26) rfl rfl (by omega) (Nat.le_of_ble_eq_true rfl) rfl rfl ⟨rfl, rfl⟩
  · refine z_cV (as := [_]) hok dX3_readWord_113 kX3_97 (zcvV (tX3_demand hok (d - 1) (by omega) N 0  q30)) rfl (at_Reader s26) rfl rfl (by omega) (Nat.le_of_ble_eq_true rfl) (Nat.zero_le _) (Nat.zero_le _) rfl ?_
    refine z_aload_n dX3_readWord_116 rfl ?_
    rcases zbt_of hf with ⟨s32, q33, hf⟩ | ⟨x31, s32, q33, hf⟩
    · cases hf
      have e1 : mc = 1 := emc.symm
      have e2 : ms = 6 := ems.symm
      subst e1
      subst e2
      exact z_xV (as := []) hok dX3_readWord_117 kX3_44 (zcvTV (tX3_step hok (d - 1) (by omega) N   q33)) rfl (at_Reader s29) rfl rfl (by omega) (Nat.le_of_ble_eq_true rfl) rfl rfl ⟨rfl, rfl⟩
    · refine z_cV (as := []) hok dX3_readWord_117 kX3_44 (zcvV (tX3_step hok (d - 1) (by omega) N   q33)) rfl (at_Reader s29) rfl rfl (by omega) (Nat.le_of_ble_eq_true rfl) (Nat.zero_le _) (Nat.zero_le _) rfl ?_
      cases hf
      exact z_vret rfl dX3_readWord_120 (Nat.zero_le _) (Nat.zero_le _) ⟨rfl, rfl⟩
noncomputable def fX3_readWord_J53 (N : Nat) (p0 : Int32) (v2 : Int32) (v3 : Int32) (s : zS) : Option (Option Unit × zS) := zbl (fX3_readWord_L56 N p0 N v2 v3 0 s) (fun x => some x) (fun lq17 => match lq17 with | (y20, y21, s22) => fX3_readWord_J87 N p0 y20 y21 s22)
set_option maxHeartbeats 400000 in
set_option maxRecDepth 100000 in
theorem tX3_readWord_J53 {g : zGl} (hok : zGok g) (d : Nat) (hd : 422 ≤ d) (N : Nat) (p0 : Int32)  {mc ms n0 : Nat} (v2 : Int32) (v3 : Int32) {s s' : zS} {w : Option Unit} (emc : zk1 w = mc) (ems : zk6 w = ms) (hf : fX3_readWord_J53 N p0 v2 v3 s = some (w, s')) : zW g mX3_readWord d mc ms n0 (zendV w (zHp s')) 0 0 (zHp s) [some (.ref 3), some (.int p0), some (.int v2), some (.int v3), none] [] 53 := by
  unfold fX3_readWord_J53 at hf
  refine z_iconst 0 dX3_readWord_53 (by decide +kernel) ?_
  refine z_istore (ls' := [_, _, _, _, _]) dX3_readWord_54 (by decide) rfl ?_
  refine z_mask (ls' := [_, _, _, _, _]) [true, true, true, true, true] rfl ?_
  rcases zbl_of hf with ⟨lr18, le19, hf⟩ | ⟨lr18, le19, hf⟩
  · cases hf
    exact tX3_readWord_L56 hok d (by omega) N p0  N v2 v3 0 s _ le19 (fun w1 s1 hh => by cases hh; exact ⟨rfl, rfl⟩) (fun s1 hh => by cases hh; exact ⟨emc.symm, ems.symm, rfl, rfl⟩) (fun _ _ _ hh => by cases hh)
  · obtain ⟨y20, y21, s22⟩ := lr18
    refine tX3_readWord_L56 hok d (by omega) N p0  N v2 v3 0 s _ le19 (fun w1 s1 hh => by cases hh) (fun s1 hh => by cases hh) (fun _ _ _ hh => ?_)
    cases hh
    refine z_mask (ls' := [_, _, _, _, _]) [true, true, true, true, false] rfl ?_
    exact tX3_readWord_J87 hok d (by omega) N p0  y20 y21 emc ems hf
noncomputable def fX3_readWord_J16 (N : Nat) (p0 : Int32)  (s : zS) : Option (Option Unit × zS) := zbt (fX3_nameNumber N  s) (fun sx => some (none, sx)) (fun x1 s2 => zbt (fX3_addStatement N 2 x1 p0 s2) (fun sx => some (none, sx)) (fun x4 s5 => if zBk (s5.2.2.1 302) then zbt (fX3_step N  s5) (fun sx => some (none, sx)) (fun x8 s9 => if (s9.1 304) = 0 then fX3_readWord_J53 N p0 x4 (s5.1 (100 * ((s5.2.2.1 302) + 3) + 3)) s9 else zbt (fX3_readOperand N  s9) (fun sx => some (none, sx)) (fun x34 s35 => fX3_readWord_J53 N p0 x4 (s5.1 (100 * ((s5.2.2.1 302) + 3) + 3)) s35)) else none))
set_option maxHeartbeats 400000 in
set_option maxRecDepth 100000 in
theorem tX3_readWord_J16 {g : zGl} (hok : zGok g) (d : Nat) (hd : 422 ≤ d) (N : Nat) (p0 : Int32)  {mc ms n0 : Nat}  {s s' : zS} {w : Option Unit} (emc : zk1 w = mc) (ems : zk6 w = ms) (hf : fX3_readWord_J16 N p0  s = some (w, s')) : zW g mX3_readWord d mc ms n0 (zendV w (zHp s')) 0 0 (zHp s) [some (.ref 3), some (.int p0), none, none, none] [] 16 := by
  unfold fX3_readWord_J16 at hf
  refine z_aload_n dX3_readWord_16 rfl ?_
  refine z_iconst 2 dX3_readWord_17 (by decide +kernel) ?_
  refine z_aload_n dX3_readWord_18 rfl ?_
  rcases zbt_of hf with ⟨s2, q3, hf⟩ | ⟨x1, s2, q3, hf⟩
  · cases hf
    have e1 : mc = 1 := emc.symm
    have e2 : ms = 6 := ems.symm
    subst e1
    subst e2
    exact z_xV (as := []) hok dX3_readWord_19 kX3_94 (zcvTI (tX3_nameNumber hok (d - 1) (by omega) N   q3)) rfl (at_Reader s) rfl rfl (by omega) (Nat.le_of_ble_eq_true rfl) rfl rfl ⟨rfl, rfl⟩
  · refine z_cV (as := []) hok dX3_readWord_19 kX3_94 (zcvI (tX3_nameNumber hok (d - 1) (by omega) N   q3)) rfl (at_Reader s) rfl rfl (by omega) (Nat.le_of_ble_eq_true rfl) (Nat.zero_le _) (Nat.zero_le _) rfl ?_
    refine z_iload_n dX3_readWord_22 rfl ?_
    rcases zbt_of hf with ⟨s5, q6, hf⟩ | ⟨x4, s5, q6, hf⟩
    · cases hf
      have e1 : mc = 1 := emc.symm
      have e2 : ms = 6 := ems.symm
      subst e1
      subst e2
      exact z_xV (as := [_, _, _]) hok dX3_readWord_23 kX3_90 (zcvTI (tX3_addStatement hok (d - 1) (by omega) N 2 x1 p0  q6)) rfl (at_Reader s2) rfl rfl (by omega) (Nat.le_of_ble_eq_true rfl) rfl rfl ⟨rfl, rfl⟩
    · refine z_cV (as := [_, _, _]) hok dX3_readWord_23 kX3_90 (zcvI (tX3_addStatement hok (d - 1) (by omega) N 2 x1 p0  q6)) rfl (at_Reader s2) rfl rfl (by omega) (Nat.le_of_ble_eq_true rfl) (Nat.zero_le _) (Nat.zero_le _) rfl ?_
      refine z_istore_n (ls' := [_, _, _, _, _]) dX3_readWord_26 (by decide) rfl ?_
      refine z_aload_n dX3_readWord_27 rfl ?_
      refine z_getf dX3_readWord_28 fX3_25 (at_Reader s5) rfl ?_
      obtain ⟨hb7, hf⟩ := zifs hf
      refine z_getN hok dX3_readWord_31 fX3_100 (at_Book s5 (s5.2.2.1 302) hb7) rfl ?_
      refine z_getN hok dX3_readWord_34 fX3_55 (at_Table s5 ((s5.2.2.1 302) + 3) (zBk_t (s5.2.2.1 302) hb7).2.1) rfl ?_
      refine z_istore_n (ls' := [_, _, _, _, _]) dX3_readWord_37 (by decide) rfl ?_
      refine z_aload_n dX3_readWord_38 rfl ?_
      rcases zbt_of hf with ⟨s9, q10, hf⟩ | ⟨x8, s9, q10, hf⟩
      · cases hf
        have e1 : mc = 1 := emc.symm
        have e2 : ms = 6 := ems.symm
        subst e1
        subst e2
        exact z_xV (as := []) hok dX3_readWord_39 kX3_44 (zcvTV (tX3_step hok (d - 1) (by omega) N   q10)) rfl (at_Reader s5) rfl rfl (by omega) (Nat.le_of_ble_eq_true rfl) rfl rfl ⟨rfl, rfl⟩
      · refine z_cV (as := []) hok dX3_readWord_39 kX3_44 (zcvV (tX3_step hok (d - 1) (by omega) N   q10)) rfl (at_Reader s5) rfl rfl (by omega) (Nat.le_of_ble_eq_true rfl) (Nat.zero_le _) (Nat.zero_le _) rfl ?_
        refine z_aload_n dX3_readWord_42 rfl ?_
        refine z_getf dX3_readWord_43 fX3_63 (at_Reader s9) rfl ?_
        refine z_if_eq 53 dX3_readWord_46 (by decide) (fun c46 => ?_) (fun c46 => ?_)
        · have hf := zifp hf c46
          refine z_mask (ls' := [_, _, _, _, _]) [true, true, true, true, false] rfl ?_
          exact tX3_readWord_J53 hok d (by omega) N p0  x4 (s5.1 (100 * ((s5.2.2.1 302) + 3) + 3)) emc ems hf
        · have hf := zifn hf c46
          refine z_aload_n dX3_readWord_49 rfl ?_
          rcases zbt_of hf with ⟨s35, q36, hf⟩ | ⟨x34, s35, q36, hf⟩
          · cases hf
            have e1 : mc = 1 := emc.symm
            have e2 : ms = 6 := ems.symm
            subst e1
            subst e2
            exact z_xV (as := []) hok dX3_readWord_50 kX3_103 (zcvTV (tX3_readOperand hok (d - 1) (by omega) N   q36)) rfl (at_Reader s9) rfl rfl (by omega) (Nat.le_of_ble_eq_true rfl) rfl rfl ⟨rfl, rfl⟩
          · refine z_cV (as := []) hok dX3_readWord_50 kX3_103 (zcvV (tX3_readOperand hok (d - 1) (by omega) N   q36)) rfl (at_Reader s9) rfl rfl (by omega) (Nat.le_of_ble_eq_true rfl) (Nat.zero_le _) (Nat.zero_le _) rfl ?_
            refine z_mask (ls' := [_, _, _, _, _]) [true, true, true, true, false] rfl ?_
            exact tX3_readWord_J53 hok d (by omega) N p0  x4 (s5.1 (100 * ((s5.2.2.1 302) + 3) + 3)) emc ems hf
noncomputable def fX3_readWord (N : Nat) (p0 : Int32) (s : zS) : Option (Option Unit × zS) := if (s.1 304) = 1 then fX3_readWord_J16 N p0  s else if (s.1 304) = 2 then fX3_readWord_J16 N p0  s else zbt (fX3_demand N 0 s) (fun sx => some (none, sx)) (fun x37 s38 => zbt (fX3_step N  s38) (fun sx => some (none, sx)) (fun x40 s41 => some (some (), s41)))
set_option maxHeartbeats 400000 in
set_option maxRecDepth 100000 in
theorem tX3_readWord {g : zGl} (hok : zGok g) (d : Nat) (hd : 422 ≤ d) (N : Nat) (p0 : Int32)  {s s' : zS} {w : Option Unit} (hf : fX3_readWord N p0 s = some (w, s')) : zMet g mX3_readWord d (zk1 w) (zk6 w) [.ref 3, .int p0] (zHp s) (zendV w (zHp s')) := by
  refine zMet.ofW (by decide +kernel) (Nat.le_of_ble_eq_true rfl) ?_
  generalize emc : zk1 w = mc
  generalize ems : zk6 w = ms
  show zW g mX3_readWord d mc ms 51 _ 0 0 (zHp s) [some (.ref 3), some (.int p0), none, none, none] [] 0
  unfold fX3_readWord at hf
  refine z_aload_n dX3_readWord_0 rfl ?_
  refine z_getf dX3_readWord_1 fX3_63 (at_Reader s) rfl ?_
  refine z_iconst 1 dX3_readWord_4 (by decide +kernel) ?_
  refine z_icmp_eq 16 dX3_readWord_5 (by decide) (fun c5 => ?_) (fun c5 => ?_)
  · have hf := zifp hf c5
    refine z_mask (ls' := [_, _, _, _, _]) [true, true, false, false, false] rfl ?_
    exact tX3_readWord_J16 hok d (by omega) N p0   emc ems hf
  · have hf := zifn hf c5
    refine z_aload_n dX3_readWord_8 rfl ?_
    refine z_getf dX3_readWord_9 fX3_63 (at_Reader s) rfl ?_
    refine z_iconst 2 dX3_readWord_12 (by decide +kernel) ?_
    refine z_icmp_ne 111 dX3_readWord_13 (by decide) (fun c13 => ?_) (fun c13 => ?_)
    · have hf := zifn hf c13
      refine z_aload_n dX3_readWord_111 rfl ?_
      refine z_iconst 0 dX3_readWord_112 (by decide +kernel) ?_
      rcases zbt_of hf with ⟨s38, q39, hf⟩ | ⟨x37, s38, q39, hf⟩
      · cases hf
        have e1 : mc = 1 := emc.symm
        have e2 : ms = 6 := ems.symm
        subst e1
        subst e2
        exact z_xV (as := [_]) hok dX3_readWord_113 kX3_97 (zcvTV (tX3_demand hok (d - 1) (by omega) N 0  q39)) rfl (at_Reader s) rfl rfl (by omega) (Nat.le_of_ble_eq_true rfl) rfl rfl ⟨rfl, rfl⟩
      · refine z_cV (as := [_]) hok dX3_readWord_113 kX3_97 (zcvV (tX3_demand hok (d - 1) (by omega) N 0  q39)) rfl (at_Reader s) rfl rfl (by omega) (Nat.le_of_ble_eq_true rfl) (Nat.zero_le _) (Nat.zero_le _) rfl ?_
        refine z_aload_n dX3_readWord_116 rfl ?_
        rcases zbt_of hf with ⟨s41, q42, hf⟩ | ⟨x40, s41, q42, hf⟩
        · cases hf
          have e1 : mc = 1 := emc.symm
          have e2 : ms = 6 := ems.symm
          subst e1
          subst e2
          exact z_xV (as := []) hok dX3_readWord_117 kX3_44 (zcvTV (tX3_step hok (d - 1) (by omega) N   q42)) rfl (at_Reader s38) rfl rfl (by omega) (Nat.le_of_ble_eq_true rfl) rfl rfl ⟨rfl, rfl⟩
        · refine z_cV (as := []) hok dX3_readWord_117 kX3_44 (zcvV (tX3_step hok (d - 1) (by omega) N   q42)) rfl (at_Reader s38) rfl rfl (by omega) (Nat.le_of_ble_eq_true rfl) (Nat.zero_le _) (Nat.zero_le _) rfl ?_
          cases hf
          exact z_vret rfl dX3_readWord_120 (Nat.zero_le _) (Nat.zero_le _) ⟨rfl, rfl⟩
    · have hf := zifp hf c13
      refine z_mask (ls' := [_, _, _, _, _]) [true, true, false, false, false] rfl ?_
      exact tX3_readWord_J16 hok d (by omega) N p0   emc ems hf

noncomputable def fX3_readLabels_L2S (N : Nat) (p0 : Int32) (rec : Int32 → zS → Option ((Option Unit × zS) ⊕ (zS))) (v2 : Int32) (s : zS) : Option ((Option Unit × zS) ⊕ (zS)) := if 400 < v2 then some (.inr (s)) else zbn (fX3_isAtLabel N  s) (fun x1 s2 => if x1 = 0 then some (.inr (s2)) else if (s2.1 304) = 4 then zbn (fX8_valueOf N (s2.1 303) s2) (fun x19 s20 => zbt (fX3_addStatement N 1 x19 p0 s20) (fun sx => some (.inl (none, sx))) (fun x22 s23 => zbt (fX3_step N  s23) (fun sx => some (.inl (none, sx))) (fun x25 s26 => zbt (fX3_demand N 22 s26) (fun sx => some (.inl (none, sx))) (fun x28 s29 => zbt (fX3_step N  s29) (fun sx => some (.inl (none, sx))) (fun x31 s32 => rec (v2 + 1) s32))))) else zbt (fX3_nameNumber N  s2) (fun sx => some (.inl (none, sx))) (fun x4 s5 => zbt (fX3_addStatement N 0 x4 p0 s5) (fun sx => some (.inl (none, sx))) (fun x7 s8 => zbt (fX3_step N  s8) (fun sx => some (.inl (none, sx))) (fun x10 s11 => zbt (fX3_demand N 22 s11) (fun sx => some (.inl (none, sx))) (fun x13 s14 => zbt (fX3_step N  s14) (fun sx => some (.inl (none, sx))) (fun x16 s17 => rec (v2 + 1) s17))))))
noncomputable def fX3_readLabels_L2 (N : Nat) (p0 : Int32) (n : Nat) : Int32 → zS → Option ((Option Unit × zS) ⊕ (zS)) := Nat.rec (motive := fun _ => Int32 → zS → Option ((Option Unit × zS) ⊕ (zS))) (fun _ _ => none) (fun _ rec => fX3_readLabels_L2S N p0 rec) n
set_option maxHeartbeats 400000 in
set_option maxRecDepth 100000 in
theorem tX3_readLabels_L2 {g : zGl} (hok : zGok g) (d : Nat) (hd : 3 ≤ d) (N : Nat) (p0 : Int32)  {mc ms n0 : Nat} {Q : zO → List zE → Prop} (n : Nat) : ∀ (v2 : Int32) (s : zS) (r : (Option Unit × zS) ⊕ (zS)) (hf : fX3_readLabels_L2 N p0 n v2 s = some r) (k1 : ∀ w s', r = .inl (some w, s') → Q (.inl none) (zHp s')) (kx : ∀ s', r = .inl (none, s') → mc = 1 ∧ ms = 6 ∧ Q (.inr zIAE) (zHp s')) (k2 : ∀  (s' : zS), r = .inr (s') → zW g mX3_readLabels d mc ms n0 Q 0 0 (zHp s') [some (.ref 3), some (.int p0), none] [] 76), zW g mX3_readLabels d mc ms n0 Q 0 0 (zHp s) [some (.ref 3), some (.int p0), some (.int v2)] [] 2 := by
  induction n with
  | zero => intro v2 s r hf; cases hf
  | succ n ih =>
    intro v2 s r hf k1 kx k2
    have hrec : ∀ (v2 : Int32) (s : zS) (r1 : (Option Unit × zS) ⊕ (zS)), fX3_readLabels_L2 N p0 n v2 s = some r1 → r1 = r → zW g mX3_readLabels d mc ms n0 Q 0 0 (zHp s) [some (.ref 3), some (.int p0), some (.int v2)] [] 2 := fun v2 s r1 h e => ih v2 s r1 h (by subst e; exact k1) (by subst e; exact kx) (by subst e; exact k2)
    have hrec : ∀ (v2 : Int32) (s : zS), fX3_readLabels_L2 N p0 n v2 s = some r → zW g mX3_readLabels d mc ms n0 Q 0 0 (zHp s) [some (.ref 3), some (.int p0), some (.int v2)] [] 2 := fun v2 s h => hrec v2 s r h rfl
    have hf : fX3_readLabels_L2S N p0 (fX3_readLabels_L2 N p0 n) v2 s = some r := hf
    unfold fX3_readLabels_L2S at hf
    refine z_iload_n dX3_readLabels_2 rfl ?_
    refine z_sipush 400 dX3_readLabels_3 (by decide +kernel) ?_
    refine z_icmp_gt 76 dX3_readLabels_6 (by decide) (fun c6 => ?_) (fun c6 => ?_)
    · have hf := zifp hf c6
      cases hf
      refine z_mask (ls' := [_, _, _]) [true, true, false] rfl ?_
      exact k2  _ rfl
    · have hf := zifn hf c6
      refine z_aload_n dX3_readLabels_9 rfl ?_
      obtain ⟨x1, s2, q3, hf⟩ := zbn_of hf
      refine z_cV (as := []) hok dX3_readLabels_10 kX3_86 (tX3_isAtLabel hok (d - 1) (by omega) N   q3) rfl (at_Reader s) rfl rfl (by omega) (Nat.le_of_ble_eq_true rfl) (Nat.zero_le _) (Nat.zero_le _) rfl ?_
      refine z_if_eq 76 dX3_readLabels_13 (by decide) (fun c13 => ?_) (fun c13 => ?_)
      · have hf := zifp hf c13
        cases hf
        refine z_mask (ls' := [_, _, _]) [true, true, false] rfl ?_
        exact k2  _ rfl
      · have hf := zifn hf c13
        refine z_aload_n dX3_readLabels_16 rfl ?_
        refine z_getf dX3_readLabels_17 fX3_63 (at_Reader s2) rfl ?_
        refine z_iconst 4 dX3_readLabels_20 (by decide +kernel) ?_
        refine z_icmp_ne 45 dX3_readLabels_21 (by decide) (fun c21 => ?_) (fun c21 => ?_)
        · have hf := zifn hf c21
          refine z_aload_n dX3_readLabels_45 rfl ?_
          refine z_iconst 0 dX3_readLabels_46 (by decide +kernel) ?_
          refine z_aload_n dX3_readLabels_47 rfl ?_
          rcases zbt_of hf with ⟨s5, q6, hf⟩ | ⟨x4, s5, q6, hf⟩
          · cases hf
            obtain ⟨e1, e2, hQ⟩ := kx _ rfl
            cases e1
            cases e2
            exact z_xV (as := []) hok dX3_readLabels_48 kX3_94 (zcvTI (tX3_nameNumber hok (d - 1) (by omega) N   q6)) rfl (at_Reader s2) rfl rfl (by omega) (Nat.le_of_ble_eq_true rfl) rfl rfl hQ
          · refine z_cV (as := []) hok dX3_readLabels_48 kX3_94 (zcvI (tX3_nameNumber hok (d - 1) (by omega) N   q6)) rfl (at_Reader s2) rfl rfl (by omega) (Nat.le_of_ble_eq_true rfl) (Nat.zero_le _) (Nat.zero_le _) rfl ?_
            refine z_iload_n dX3_readLabels_51 rfl ?_
            rcases zbt_of hf with ⟨s8, q9, hf⟩ | ⟨x7, s8, q9, hf⟩
            · cases hf
              obtain ⟨e1, e2, hQ⟩ := kx _ rfl
              cases e1
              cases e2
              exact z_xV (as := [_, _, _]) hok dX3_readLabels_52 kX3_90 (zcvTI (tX3_addStatement hok (d - 1) (by omega) N 0 x4 p0  q9)) rfl (at_Reader s5) rfl rfl (by omega) (Nat.le_of_ble_eq_true rfl) rfl rfl hQ
            · refine z_cV (as := [_, _, _]) hok dX3_readLabels_52 kX3_90 (zcvI (tX3_addStatement hok (d - 1) (by omega) N 0 x4 p0  q9)) rfl (at_Reader s5) rfl rfl (by omega) (Nat.le_of_ble_eq_true rfl) (Nat.zero_le _) (Nat.zero_le _) rfl ?_
              refine z_pop dX3_readLabels_55 rfl ?_
              refine z_aload_n dX3_readLabels_56 rfl ?_
              rcases zbt_of hf with ⟨s11, q12, hf⟩ | ⟨x10, s11, q12, hf⟩
              · cases hf
                obtain ⟨e1, e2, hQ⟩ := kx _ rfl
                cases e1
                cases e2
                exact z_xV (as := []) hok dX3_readLabels_57 kX3_44 (zcvTV (tX3_step hok (d - 1) (by omega) N   q12)) rfl (at_Reader s8) rfl rfl (by omega) (Nat.le_of_ble_eq_true rfl) rfl rfl hQ
              · refine z_cV (as := []) hok dX3_readLabels_57 kX3_44 (zcvV (tX3_step hok (d - 1) (by omega) N   q12)) rfl (at_Reader s8) rfl rfl (by omega) (Nat.le_of_ble_eq_true rfl) (Nat.zero_le _) (Nat.zero_le _) rfl ?_
                refine z_aload_n dX3_readLabels_60 rfl ?_
                refine z_bipush 22 dX3_readLabels_61 (by decide +kernel) ?_
                rcases zbt_of hf with ⟨s14, q15, hf⟩ | ⟨x13, s14, q15, hf⟩
                · cases hf
                  obtain ⟨e1, e2, hQ⟩ := kx _ rfl
                  cases e1
                  cases e2
                  exact z_xV (as := [_]) hok dX3_readLabels_63 kX3_97 (zcvTV (tX3_demand hok (d - 1) (by omega) N 22  q15)) rfl (at_Reader s11) rfl rfl (by omega) (Nat.le_of_ble_eq_true rfl) rfl rfl hQ
                · refine z_cV (as := [_]) hok dX3_readLabels_63 kX3_97 (zcvV (tX3_demand hok (d - 1) (by omega) N 22  q15)) rfl (at_Reader s11) rfl rfl (by omega) (Nat.le_of_ble_eq_true rfl) (Nat.zero_le _) (Nat.zero_le _) rfl ?_
                  refine z_aload_n dX3_readLabels_66 rfl ?_
                  rcases zbt_of hf with ⟨s17, q18, hf⟩ | ⟨x16, s17, q18, hf⟩
                  · cases hf
                    obtain ⟨e1, e2, hQ⟩ := kx _ rfl
                    cases e1
                    cases e2
                    exact z_xV (as := []) hok dX3_readLabels_67 kX3_44 (zcvTV (tX3_step hok (d - 1) (by omega) N   q18)) rfl (at_Reader s14) rfl rfl (by omega) (Nat.le_of_ble_eq_true rfl) rfl rfl hQ
                  · refine z_cV (as := []) hok dX3_readLabels_67 kX3_44 (zcvV (tX3_step hok (d - 1) (by omega) N   q18)) rfl (at_Reader s14) rfl rfl (by omega) (Nat.le_of_ble_eq_true rfl) (Nat.zero_le _) (Nat.zero_le _) rfl ?_
                    refine z_iinc (ls' := [_, _, _]) (v2 + 1) dX3_readLabels_70 rfl rfl (by decide) rfl ?_
                    refine z_goto 2 dX3_readLabels_73 (by decide) ?_
                    refine z_mask (ls' := [_, _, _]) [true, true, true] rfl ?_
                    exact hrec (v2 + 1) s17 hf
        · have hf := zifp hf c21
          refine z_aload_n dX3_readLabels_24 rfl ?_
          refine z_iconst 1 dX3_readLabels_25 (by decide +kernel) ?_
          refine z_aload_n dX3_readLabels_26 rfl ?_
          refine z_getf dX3_readLabels_27 fX3_12 (at_Reader s2) rfl ?_
          refine z_aload_n dX3_readLabels_30 rfl ?_
          refine z_getf dX3_readLabels_31 fX3_41 (at_Reader s2) rfl ?_
          obtain ⟨x19, s20, q21, hf⟩ := zbn_of hf
          refine z_cV (as := [_]) hok dX3_readLabels_34 kX3_72 (tX8_valueOf hok (d - 1) (by omega) N (s2.1 303)  q21) rfl (at_Words s2) rfl rfl (by omega) (Nat.le_of_ble_eq_true rfl) (Nat.zero_le _) (Nat.zero_le _) rfl ?_
          refine z_iload_n dX3_readLabels_37 rfl ?_
          rcases zbt_of hf with ⟨s23, q24, hf⟩ | ⟨x22, s23, q24, hf⟩
          · cases hf
            obtain ⟨e1, e2, hQ⟩ := kx _ rfl
            cases e1
            cases e2
            exact z_xV (as := [_, _, _]) hok dX3_readLabels_38 kX3_90 (zcvTI (tX3_addStatement hok (d - 1) (by omega) N 1 x19 p0  q24)) rfl (at_Reader s20) rfl rfl (by omega) (Nat.le_of_ble_eq_true rfl) rfl rfl hQ
          · refine z_cV (as := [_, _, _]) hok dX3_readLabels_38 kX3_90 (zcvI (tX3_addStatement hok (d - 1) (by omega) N 1 x19 p0  q24)) rfl (at_Reader s20) rfl rfl (by omega) (Nat.le_of_ble_eq_true rfl) (Nat.zero_le _) (Nat.zero_le _) rfl ?_
            refine z_pop dX3_readLabels_41 rfl ?_
            refine z_goto 56 dX3_readLabels_42 (by decide) ?_
            refine z_aload_n dX3_readLabels_56 rfl ?_
            rcases zbt_of hf with ⟨s26, q27, hf⟩ | ⟨x25, s26, q27, hf⟩
            · cases hf
              obtain ⟨e1, e2, hQ⟩ := kx _ rfl
              cases e1
              cases e2
              exact z_xV (as := []) hok dX3_readLabels_57 kX3_44 (zcvTV (tX3_step hok (d - 1) (by omega) N   q27)) rfl (at_Reader s23) rfl rfl (by omega) (Nat.le_of_ble_eq_true rfl) rfl rfl hQ
            · refine z_cV (as := []) hok dX3_readLabels_57 kX3_44 (zcvV (tX3_step hok (d - 1) (by omega) N   q27)) rfl (at_Reader s23) rfl rfl (by omega) (Nat.le_of_ble_eq_true rfl) (Nat.zero_le _) (Nat.zero_le _) rfl ?_
              refine z_aload_n dX3_readLabels_60 rfl ?_
              refine z_bipush 22 dX3_readLabels_61 (by decide +kernel) ?_
              rcases zbt_of hf with ⟨s29, q30, hf⟩ | ⟨x28, s29, q30, hf⟩
              · cases hf
                obtain ⟨e1, e2, hQ⟩ := kx _ rfl
                cases e1
                cases e2
                exact z_xV (as := [_]) hok dX3_readLabels_63 kX3_97 (zcvTV (tX3_demand hok (d - 1) (by omega) N 22  q30)) rfl (at_Reader s26) rfl rfl (by omega) (Nat.le_of_ble_eq_true rfl) rfl rfl hQ
              · refine z_cV (as := [_]) hok dX3_readLabels_63 kX3_97 (zcvV (tX3_demand hok (d - 1) (by omega) N 22  q30)) rfl (at_Reader s26) rfl rfl (by omega) (Nat.le_of_ble_eq_true rfl) (Nat.zero_le _) (Nat.zero_le _) rfl ?_
                refine z_aload_n dX3_readLabels_66 rfl ?_
                rcases zbt_of hf with ⟨s32, q33, hf⟩ | ⟨x31, s32, q33, hf⟩
                · cases hf
                  obtain ⟨e1, e2, hQ⟩ := kx _ rfl
                  cases e1
                  cases e2
                  exact z_xV (as := []) hok dX3_readLabels_67 kX3_44 (zcvTV (tX3_step hok (d - 1) (by omega) N   q33)) rfl (at_Reader s29) rfl rfl (by omega) (Nat.le_of_ble_eq_true rfl) rfl rfl hQ
                · refine z_cV (as := []) hok dX3_readLabels_67 kX3_44 (zcvV (tX3_step hok (d - 1) (by omega) N   q33)) rfl (at_Reader s29) rfl rfl (by omega) (Nat.le_of_ble_eq_true rfl) (Nat.zero_le _) (Nat.zero_le _) rfl ?_
                  refine z_iinc (ls' := [_, _, _]) (v2 + 1) dX3_readLabels_70 rfl rfl (by decide) rfl ?_
                  refine z_goto 2 dX3_readLabels_73 (by decide) ?_
                  refine z_mask (ls' := [_, _, _]) [true, true, true] rfl ?_
                  exact hrec (v2 + 1) s32 hf
noncomputable def fX3_readLabels (N : Nat) (p0 : Int32) (s : zS) : Option (Option Unit × zS) := zbl (fX3_readLabels_L2 N p0 N 0 s) (fun x => some x) (fun s37 => some (some (), s37))
set_option maxHeartbeats 400000 in
set_option maxRecDepth 100000 in
theorem tX3_readLabels {g : zGl} (hok : zGok g) (d : Nat) (hd : 3 ≤ d) (N : Nat) (p0 : Int32)  {s s' : zS} {w : Option Unit} (hf : fX3_readLabels N p0 s = some (w, s')) : zMet g mX3_readLabels d (zk1 w) (zk6 w) [.ref 3, .int p0] (zHp s) (zendV w (zHp s')) := by
  refine zMet.ofW (by decide +kernel) (Nat.le_of_ble_eq_true rfl) ?_
  generalize emc : zk1 w = mc
  generalize ems : zk6 w = ms
  show zW g mX3_readLabels d mc ms 51 _ 0 0 (zHp s) [some (.ref 3), some (.int p0), none] [] 0
  unfold fX3_readLabels at hf
  refine z_iconst 0 dX3_readLabels_0 (by decide +kernel) ?_
  refine z_istore_n (ls' := [_, _, _]) dX3_readLabels_1 (by decide) rfl ?_
  refine z_mask (ls' := [_, _, _]) [true, true, true] rfl ?_
  rcases zbl_of hf with ⟨lr35, le36, hf⟩ | ⟨lr35, le36, hf⟩
  · cases hf
    exact tX3_readLabels_L2 hok d (by omega) N p0  N 0 s _ le36 (fun w1 s1 hh => by cases hh; exact ⟨rfl, rfl⟩) (fun s1 hh => by cases hh; exact ⟨emc.symm, ems.symm, rfl, rfl⟩) (fun  _ hh => by cases hh)
  · obtain ⟨s37, rfl⟩ : ∃ z, z = lr35 := ⟨_, rfl⟩
    refine tX3_readLabels_L2 hok d (by omega) N p0  N 0 s _ le36 (fun w1 s1 hh => by cases hh) (fun s1 hh => by cases hh) (fun  _ hh => ?_)
    cases hh
    cases hf
    exact z_vret rfl dX3_readLabels_76 (Nat.zero_le _) (Nat.zero_le _) ⟨rfl, rfl⟩

