noncomputable def fX10_operands_L11S (N : Nat) (p0 : Int32) (rec : Int32 → zS → Option ((Int32 × zS) ⊕ (zS))) (v2 : Int32) (s : zS) : Option ((Int32 × zS) ⊕ (zS)) := if v2 = 0 then some (.inr (s)) else zbn (fX10_takeOperand N  s) (fun x1 s2 => if x1 = 0 then some (.inl (0, s2)) else if zga ((6 * p0) + 3) (zlen 37) = true then if zga ((6 * p0) + 3) (zlen 37) = true then zbn (fX10_isSign N 44 (zsr s2 37 ((6 * p0) + 3) ((s2.2.1 37 ((6 * p0) + 3).toNatClampNeg) + 1))) (fun x6 s7 => if x6 = 0 then rec x6 s7 else zbn (fX10_next N  s7) (fun x9 s10 => rec x6 s10)) else none else none)
noncomputable def fX10_operands_L11 (N : Nat) (p0 : Int32) (n : Nat) : Int32 → zS → Option ((Int32 × zS) ⊕ (zS)) := Nat.rec (motive := fun _ => Int32 → zS → Option ((Int32 × zS) ⊕ (zS))) (fun _ _ => none) (fun _ rec => fX10_operands_L11S N p0 rec) n
set_option maxHeartbeats 400000 in
set_option maxRecDepth 100000 in
theorem tX10_operands_L11 {g : zGl} (hok : zGok g) (d : Nat) (hd : 8 ≤ d) (N : Nat) (p0 : Int32)  {mc ms n0 : Nat} {Q : zO → List zE → Prop} (n : Nat) : ∀ (v2 : Int32) (s : zS) (r : (Int32 × zS) ⊕ (zS)) (hf : fX10_operands_L11 N p0 n v2 s = some r) (k1 : ∀ w s', r = .inl (w, s') → Q (.inl (some (.int w))) (zHp s')) (k2 : ∀  (s' : zS), r = .inr (s') → zW g mX10_operands d mc ms n0 Q 0 0 (zHp s') [some (.ref 33), some (.int p0), none] [] 57), zW g mX10_operands d mc ms n0 Q 0 0 (zHp s) [some (.ref 33), some (.int p0), some (.int v2)] [] 11 := by
  induction n with
  | zero => intro v2 s r hf; cases hf
  | succ n ih =>
    intro v2 s r hf k1 k2
    have hrec : ∀ (v2 : Int32) (s : zS) (r1 : (Int32 × zS) ⊕ (zS)), fX10_operands_L11 N p0 n v2 s = some r1 → r1 = r → zW g mX10_operands d mc ms n0 Q 0 0 (zHp s) [some (.ref 33), some (.int p0), some (.int v2)] [] 11 := fun v2 s r1 h e => ih v2 s r1 h (by subst e; exact k1) (by subst e; exact k2)
    have hrec : ∀ (v2 : Int32) (s : zS), fX10_operands_L11 N p0 n v2 s = some r → zW g mX10_operands d mc ms n0 Q 0 0 (zHp s) [some (.ref 33), some (.int p0), some (.int v2)] [] 11 := fun v2 s h => hrec v2 s r h rfl
    have hf : fX10_operands_L11S N p0 (fX10_operands_L11 N p0 n) v2 s = some r := hf
    unfold fX10_operands_L11S at hf
    refine z_iload_n dX10_operands_11 rfl ?_
    refine z_if_eq 57 dX10_operands_12 (by decide) (fun c12 => ?_) (fun c12 => ?_)
    · have hf := zifp hf c12
      cases hf
      refine z_mask (ls' := [_, _, _]) [true, true, false] rfl ?_
      exact k2  _ rfl
    · have hf := zifn hf c12
      refine z_aload_n dX10_operands_15 rfl ?_
      obtain ⟨x1, s2, q3, hf⟩ := zbn_of hf
      refine z_cV (as := []) hok dX10_operands_16 kX10_223 (tX10_takeOperand hok (d - 1) (by omega) N   q3) rfl (at_Model s) rfl rfl (by omega) (Nat.le_of_ble_eq_true rfl) (Nat.zero_le _) (Nat.zero_le _) rfl ?_
      refine z_if_ne 24 dX10_operands_19 (by decide) (fun c19 => ?_) (fun c19 => ?_)
      · have hf := zifn hf c19
        refine z_aload_n dX10_operands_24 rfl ?_
        refine z_getf dX10_operands_25 fX10_19 (at_Model s2) rfl ?_
        refine z_bipush 6 dX10_operands_28 (by decide +kernel) ?_
        refine z_iload_n dX10_operands_30 rfl ?_
        refine z_imul dX10_operands_31 ?_
        refine z_iconst 3 dX10_operands_32 (by decide +kernel) ?_
        refine z_iadd dX10_operands_33 ?_
        refine z_dup2_11 dX10_operands_34 rfl rfl ?_
        obtain ⟨hi4, hf⟩ := zifs hf
        refine z_iald dX10_operands_35 (at_arr s2 37 (by decide)) (zga_in hi4) ?_
        refine z_iconst 1 dX10_operands_36 (by decide +kernel) ?_
        refine z_iadd dX10_operands_37 ?_
        obtain ⟨hi5, hf⟩ := zifs hf
        refine z_iastore dX10_operands_38 (at_arr s2 37 (by decide)) (zga_in hi5) (st_arr s2 37 (by decide) ((6 * p0) + 3) ((s2.2.1 37 ((6 * p0) + 3).toNatClampNeg) + 1)) ?_
        refine z_aload_n dX10_operands_39 rfl ?_
        refine z_bipush 44 dX10_operands_40 (by decide +kernel) ?_
        obtain ⟨x6, s7, q8, hf⟩ := zbn_of hf
        refine z_cV (as := [_]) hok dX10_operands_42 kX10_167 (tX10_isSign hok (d - 1) N 44  q8) rfl (at_Model (zsr s2 37 ((6 * p0) + 3) ((s2.2.1 37 ((6 * p0) + 3).toNatClampNeg) + 1))) rfl rfl (by omega) (Nat.le_of_ble_eq_true rfl) (Nat.zero_le _) (Nat.zero_le _) rfl ?_
        refine z_istore_n (ls' := [_, _, _]) dX10_operands_45 (by decide) rfl ?_
        refine z_iload_n dX10_operands_46 rfl ?_
        refine z_if_eq 11 dX10_operands_47 (by decide) (fun c47 => ?_) (fun c47 => ?_)
        · have hf := zifp hf c47
          refine z_mask (ls' := [_, _, _]) [true, true, true] rfl ?_
          exact hrec x6 s7 hf
        · have hf := zifn hf c47
          refine z_aload_n dX10_operands_50 rfl ?_
          obtain ⟨x9, s10, q11, hf⟩ := zbn_of hf
          refine z_cV (as := []) hok dX10_operands_51 kX10_177 (tX10_next hok (d - 1) (by omega) N   q11) rfl (at_Model s7) rfl rfl (by omega) (Nat.le_of_ble_eq_true rfl) (Nat.zero_le _) (Nat.zero_le _) rfl ?_
          refine z_goto 11 dX10_operands_54 (by decide) ?_
          refine z_mask (ls' := [_, _, _]) [true, true, true] rfl ?_
          exact hrec x6 s10 hf
      · have hf := zifp hf c19
        refine z_iconst 0 dX10_operands_22 (by decide +kernel) ?_
        cases hf
        exact z_zret rfl (by decide) dX10_operands_23 (Nat.zero_le _) (Nat.zero_le _) (k1 _ _ rfl)
noncomputable def fX10_operands (N : Nat) (p0 : Int32) (s : zS) : Option (Int32 × zS) := if (s.1 3315) = 0 then some (1, s) else zbl (fX10_operands_L11 N p0 N 1 s) (fun x => some x) (fun s15 => if (s15.1 3315) = 0 then some (1, s15) else zbn (fX10_fail N 5 s15) (fun x16 s17 => if x16 = 0 then some (0, s17) else some (1, s17)))
set_option maxHeartbeats 400000 in
set_option maxRecDepth 100000 in
theorem tX10_operands {g : zGl} (hok : zGok g) (d : Nat) (hd : 8 ≤ d) (N : Nat) (p0 : Int32)  {s s' : zS} {w : Int32} (hf : fX10_operands N p0 s = some (w, s')) : zMet g mX10_operands d 0 0 [.ref 33, .int p0] (zHp s) (zret (some (.int w)) (zHp s')) := by
  refine zMet.ofW (by decide +kernel) (Nat.le_of_ble_eq_true rfl) ?_
  show zW g mX10_operands d 0 0 51 _ 0 0 (zHp s) [some (.ref 33), some (.int p0), none] [] 0
  unfold fX10_operands at hf
  refine z_aload_n dX10_operands_0 rfl ?_
  refine z_getf dX10_operands_1 fX10_79 (at_Model s) rfl ?_
  refine z_if_ne 9 dX10_operands_4 (by decide) (fun c4 => ?_) (fun c4 => ?_)
  · have hf := zifn hf c4
    refine z_iconst 1 dX10_operands_9 (by decide +kernel) ?_
    refine z_istore_n (ls' := [_, _, _]) dX10_operands_10 (by decide) rfl ?_
    refine z_mask (ls' := [_, _, _]) [true, true, true] rfl ?_
    rcases zbl_of hf with ⟨lr13, le14, hf⟩ | ⟨lr13, le14, hf⟩
    · cases hf
      exact tX10_operands_L11 hok d (by omega) N p0  N 1 s _ le14 (fun w1 s1 hh => by cases hh; exact ⟨rfl, rfl⟩) (fun  _ hh => by cases hh)
    · obtain ⟨s15, rfl⟩ : ∃ z, z = lr13 := ⟨_, rfl⟩
      refine tX10_operands_L11 hok d (by omega) N p0  N 1 s _ le14 (fun w1 s1 hh => by cases hh) (fun  _ hh => ?_)
      cases hh
      refine z_aload_n dX10_operands_57 rfl ?_
      refine z_getf dX10_operands_58 fX10_79 (at_Model s15) rfl ?_
      refine z_if_eq 72 dX10_operands_61 (by decide) (fun c61 => ?_) (fun c61 => ?_)
      · have hf := zifp hf c61
        refine z_iconst 1 dX10_operands_72 (by decide +kernel) ?_
        refine z_goto 77 dX10_operands_73 (by decide) ?_
        cases hf
        exact z_zret rfl (by decide) dX10_operands_77 (Nat.zero_le _) (Nat.zero_le _) ⟨rfl, rfl⟩
      · have hf := zifn hf c61
        refine z_aload_n dX10_operands_64 rfl ?_
        refine z_iconst 5 dX10_operands_65 (by decide +kernel) ?_
        obtain ⟨x16, s17, q18, hf⟩ := zbn_of hf
        refine z_cV (as := [_]) hok dX10_operands_66 kX10_152 (tX10_fail hok (d - 1) N 5  q18) rfl (at_Model s15) rfl rfl (by omega) (Nat.le_of_ble_eq_true rfl) (Nat.zero_le _) (Nat.zero_le _) rfl ?_
        refine z_if_eq 76 dX10_operands_69 (by decide) (fun c69 => ?_) (fun c69 => ?_)
        · have hf := zifp hf c69
          refine z_iconst 0 dX10_operands_76 (by decide +kernel) ?_
          cases hf
          exact z_zret rfl (by decide) dX10_operands_77 (Nat.zero_le _) (Nat.zero_le _) ⟨rfl, rfl⟩
        · have hf := zifn hf c69
          refine z_iconst 1 dX10_operands_72 (by decide +kernel) ?_
          refine z_goto 77 dX10_operands_73 (by decide) ?_
          cases hf
          exact z_zret rfl (by decide) dX10_operands_77 (Nat.zero_le _) (Nat.zero_le _) ⟨rfl, rfl⟩
  · have hf := zifp hf c4
    refine z_iconst 1 dX10_operands_7 (by decide +kernel) ?_
    cases hf
    exact z_zret rfl (by decide) dX10_operands_8 (Nat.zero_le _) (Nat.zero_le _) ⟨rfl, rfl⟩

noncomputable def fX10_readLine_J167 (N : Nat)  (rec : Int32 → zS → Option ((Int32 × zS) ⊕ (zS))) (v1 : Int32) (v2 : Int32) (v3 : Int32) (v5 : Int32) (s : zS) : Option ((Int32 × zS) ⊕ (zS)) := if v3 = 0 then zbn (fX10_operands N v5 s) (fun x12 s13 => if zbo x12 = true then some (.inl (x12, s13)) else none) else zbn (fX10_isSign N 58 s) (fun x16 s17 => if x16 = 0 then zbn (fX10_operands N v5 s17) (fun x27 s28 => if zbo x27 = true then some (.inl (x27, s28)) else none) else if v2 = 0 then if zga (6 * v5) (zlen 37) = true then zbn (fX10_next N  (zsr s17 37 (6 * v5) 0)) (fun x20 s21 => rec v1 s21) else none else if zga (6 * v5) (zlen 37) = true then zbn (fX10_next N  (zsr s17 37 (6 * v5) 1)) (fun x24 s25 => rec v1 s25) else none)
set_option maxHeartbeats 400000 in
set_option maxRecDepth 100000 in
theorem tX10_readLine_J167 {g : zGl} (hok : zGok g) (d : Nat) (hd : 9 ≤ d) (N : Nat)   {mc ms n0 : Nat} {Q : zO → List zE → Prop} (rec : Int32 → zS → Option ((Int32 × zS) ⊕ (zS))) (r : (Int32 × zS) ⊕ (zS)) (k1 : ∀ w s', r = .inl (w, s') → Q (.inl (some (.int w))) (zHp s')) (k2 : ∀  (s' : zS), r = .inr (s') → zW g mX10_readLine d mc ms n0 Q 0 0 (zHp s') [some (.ref 33), none, none, none, none, none] [] 213) (hrec : ∀ (v1 : Int32) (s : zS), rec v1 s = some r → zW g mX10_readLine d mc ms n0 Q 0 0 (zHp s) [some (.ref 33), some (.int v1), none, none, none, none] [] 2) (v1 : Int32) (v2 : Int32) (v3 : Int32) (v5 : Int32) (s : zS) (hf : fX10_readLine_J167 N  rec v1 v2 v3 v5 s = some r) : zW g mX10_readLine d mc ms n0 Q 0 0 (zHp s) [some (.ref 33), some (.int v1), some (.int v2), some (.int v3), none, some (.int v5)] [] 167 := by
  unfold fX10_readLine_J167 at hf
  refine z_iload_n dX10_readLine_167 rfl ?_
  refine z_if_eq 180 dX10_readLine_168 (by decide) (fun c168 => ?_) (fun c168 => ?_)
  · have hf := zifp hf c168
    refine z_aload_n dX10_readLine_180 rfl ?_
    refine z_iload dX10_readLine_181 rfl ?_
    obtain ⟨x12, s13, q14, hf⟩ := zbn_of hf
    refine z_cV (as := [_]) hok dX10_readLine_183 kX10_229 (tX10_operands hok (d - 1) (by omega) N v5  q14) rfl (at_Model s) rfl rfl (by omega) (Nat.le_of_ble_eq_true rfl) (Nat.zero_le _) (Nat.zero_le _) rfl ?_
    obtain ⟨bo15, hf⟩ := zifs hf
    cases hf
    exact z_zret rfl (zbo_n bo15) dX10_readLine_186 (Nat.zero_le _) (Nat.zero_le _) (k1 _ _ rfl)
  · have hf := zifn hf c168
    refine z_aload_n dX10_readLine_171 rfl ?_
    refine z_bipush 58 dX10_readLine_172 (by decide +kernel) ?_
    obtain ⟨x16, s17, q18, hf⟩ := zbn_of hf
    refine z_cV (as := [_]) hok dX10_readLine_174 kX10_167 (tX10_isSign hok (d - 1) N 58  q18) rfl (at_Model s) rfl rfl (by omega) (Nat.le_of_ble_eq_true rfl) (Nat.zero_le _) (Nat.zero_le _) rfl ?_
    refine z_if_ne 187 dX10_readLine_177 (by decide) (fun c177 => ?_) (fun c177 => ?_)
    · have hf := zifn hf c177
      refine z_aload_n dX10_readLine_187 rfl ?_
      refine z_getf dX10_readLine_188 fX10_19 (at_Model s17) rfl ?_
      refine z_bipush 6 dX10_readLine_191 (by decide +kernel) ?_
      refine z_iload dX10_readLine_193 rfl ?_
      refine z_imul dX10_readLine_195 ?_
      refine z_iload_n dX10_readLine_196 rfl ?_
      refine z_if_eq 204 dX10_readLine_197 (by decide) (fun c197 => ?_) (fun c197 => ?_)
      · have hf := zifp hf c197
        refine z_iconst 0 dX10_readLine_204 (by decide +kernel) ?_
        obtain ⟨hi19, hf⟩ := zifs hf
        refine z_iastore dX10_readLine_205 (at_arr s17 37 (by decide)) (zga_in hi19) (st_arr s17 37 (by decide) (6 * v5) 0) ?_
        refine z_aload_n dX10_readLine_206 rfl ?_
        obtain ⟨x20, s21, q22, hf⟩ := zbn_of hf
        refine z_cV (as := []) hok dX10_readLine_207 kX10_177 (tX10_next hok (d - 1) (by omega) N   q22) rfl (at_Model (zsr s17 37 (6 * v5) 0)) rfl rfl (by omega) (Nat.le_of_ble_eq_true rfl) (Nat.zero_le _) (Nat.zero_le _) rfl ?_
        refine z_goto 2 dX10_readLine_210 (by decide) ?_
        refine z_mask (ls' := [_, _, _, _, _, _]) [true, true, false, false, false, false] rfl ?_
        exact hrec v1 s21 hf
      · have hf := zifn hf c197
        refine z_iconst 1 dX10_readLine_200 (by decide +kernel) ?_
        refine z_goto 205 dX10_readLine_201 (by decide) ?_
        obtain ⟨hi23, hf⟩ := zifs hf
        refine z_iastore dX10_readLine_205 (at_arr s17 37 (by decide)) (zga_in hi23) (st_arr s17 37 (by decide) (6 * v5) 1) ?_
        refine z_aload_n dX10_readLine_206 rfl ?_
        obtain ⟨x24, s25, q26, hf⟩ := zbn_of hf
        refine z_cV (as := []) hok dX10_readLine_207 kX10_177 (tX10_next hok (d - 1) (by omega) N   q26) rfl (at_Model (zsr s17 37 (6 * v5) 1)) rfl rfl (by omega) (Nat.le_of_ble_eq_true rfl) (Nat.zero_le _) (Nat.zero_le _) rfl ?_
        refine z_goto 2 dX10_readLine_210 (by decide) ?_
        refine z_mask (ls' := [_, _, _, _, _, _]) [true, true, false, false, false, false] rfl ?_
        exact hrec v1 s25 hf
    · have hf := zifp hf c177
      refine z_aload_n dX10_readLine_180 rfl ?_
      refine z_iload dX10_readLine_181 rfl ?_
      obtain ⟨x27, s28, q29, hf⟩ := zbn_of hf
      refine z_cV (as := [_]) hok dX10_readLine_183 kX10_229 (tX10_operands hok (d - 1) (by omega) N v5  q29) rfl (at_Model s17) rfl rfl (by omega) (Nat.le_of_ble_eq_true rfl) (Nat.zero_le _) (Nat.zero_le _) rfl ?_
      obtain ⟨bo30, hf⟩ := zifs hf
      cases hf
      exact z_zret rfl (zbo_n bo30) dX10_readLine_186 (Nat.zero_le _) (Nat.zero_le _) (k1 _ _ rfl)
noncomputable def fX10_readLine_J124 (N : Nat)  (rec : Int32 → zS → Option ((Int32 × zS) ⊕ (zS))) (v1 : Int32) (v2 : Int32) (v3 : Int32) (v4 : Int32) (k0 : Int32) (s : zS) : Option ((Int32 × zS) ⊕ (zS)) := zbn (fX10_state N k0 v4 s) (fun x5 s6 => if x5 = 0 then some (.inl (0, s6)) else if zga 0 (zlen 36) = true then zbn (fX10_next N  s6) (fun x9 s10 => if v2 = 0 then fX10_readLine_J167 N  rec v1 v2 v3 ((s6.2.1 36 (0 : Int32).toNatClampNeg) - 1) s10 else zbn (fX10_isSign N 58 s10) (fun x31 s32 => if x31 = 0 then zbn (fX10_fail N 5 s32) (fun x34 s35 => if zbo x34 = true then some (.inl (x34, s35)) else none) else fX10_readLine_J167 N  rec v1 v2 v3 ((s6.2.1 36 (0 : Int32).toNatClampNeg) - 1) s32)) else none)
set_option maxHeartbeats 400000 in
set_option maxRecDepth 100000 in
theorem tX10_readLine_J124 {g : zGl} (hok : zGok g) (d : Nat) (hd : 9 ≤ d) (N : Nat)   {mc ms n0 : Nat} {Q : zO → List zE → Prop} (rec : Int32 → zS → Option ((Int32 × zS) ⊕ (zS))) (r : (Int32 × zS) ⊕ (zS)) (k1 : ∀ w s', r = .inl (w, s') → Q (.inl (some (.int w))) (zHp s')) (k2 : ∀  (s' : zS), r = .inr (s') → zW g mX10_readLine d mc ms n0 Q 0 0 (zHp s') [some (.ref 33), none, none, none, none, none] [] 213) (hrec : ∀ (v1 : Int32) (s : zS), rec v1 s = some r → zW g mX10_readLine d mc ms n0 Q 0 0 (zHp s) [some (.ref 33), some (.int v1), none, none, none, none] [] 2) (v1 : Int32) (v2 : Int32) (v3 : Int32) (v4 : Int32) (k0 : Int32) (s : zS) (hf : fX10_readLine_J124 N  rec v1 v2 v3 v4 k0 s = some r) : zW g mX10_readLine d mc ms n0 Q 0 0 (zHp s) [some (.ref 33), some (.int v1), some (.int v2), some (.int v3), some (.int v4), none] [.int k0, .ref 33] 124 := by
  unfold fX10_readLine_J124 at hf
  refine z_iload dX10_readLine_124 rfl ?_
  obtain ⟨x5, s6, q7, hf⟩ := zbn_of hf
  refine z_cV (as := [_, _]) hok dX10_readLine_126 kX10_226 (tX10_state hok (d - 1) (by omega) N k0 v4  q7) rfl (at_Model s) rfl rfl (by omega) (Nat.le_of_ble_eq_true rfl) (Nat.zero_le _) (Nat.zero_le _) rfl ?_
  refine z_if_ne 134 dX10_readLine_129 (by decide) (fun c129 => ?_) (fun c129 => ?_)
  · have hf := zifn hf c129
    refine z_aload_n dX10_readLine_134 rfl ?_
    refine z_getf dX10_readLine_135 fX10_16 (at_Model s6) rfl ?_
    refine z_iconst 0 dX10_readLine_138 (by decide +kernel) ?_
    obtain ⟨hi8, hf⟩ := zifs hf
    refine z_iald dX10_readLine_139 (at_arr s6 36 (by decide)) (zga_in hi8) ?_
    refine z_iconst 1 dX10_readLine_140 (by decide +kernel) ?_
    refine z_isub dX10_readLine_141 ?_
    refine z_istore (ls' := [_, _, _, _, _, _]) dX10_readLine_142 (by decide) rfl ?_
    refine z_aload_n dX10_readLine_144 rfl ?_
    obtain ⟨x9, s10, q11, hf⟩ := zbn_of hf
    refine z_cV (as := []) hok dX10_readLine_145 kX10_177 (tX10_next hok (d - 1) (by omega) N   q11) rfl (at_Model s6) rfl rfl (by omega) (Nat.le_of_ble_eq_true rfl) (Nat.zero_le _) (Nat.zero_le _) rfl ?_
    refine z_iload_n dX10_readLine_148 rfl ?_
    refine z_if_eq 167 dX10_readLine_149 (by decide) (fun c149 => ?_) (fun c149 => ?_)
    · have hf := zifp hf c149
      refine z_mask (ls' := [_, _, _, _, _, _]) [true, true, true, true, false, true] rfl ?_
      exact tX10_readLine_J167 hok d (by omega) N   _ r k1 k2 hrec v1 v2 v3 ((s6.2.1 36 (0 : Int32).toNatClampNeg) - 1) s10 hf
    · have hf := zifn hf c149
      refine z_aload_n dX10_readLine_152 rfl ?_
      refine z_bipush 58 dX10_readLine_153 (by decide +kernel) ?_
      obtain ⟨x31, s32, q33, hf⟩ := zbn_of hf
      refine z_cV (as := [_]) hok dX10_readLine_155 kX10_167 (tX10_isSign hok (d - 1) N 58  q33) rfl (at_Model s10) rfl rfl (by omega) (Nat.le_of_ble_eq_true rfl) (Nat.zero_le _) (Nat.zero_le _) rfl ?_
      refine z_if_ne 167 dX10_readLine_158 (by decide) (fun c158 => ?_) (fun c158 => ?_)
      · have hf := zifn hf c158
        refine z_mask (ls' := [_, _, _, _, _, _]) [true, true, true, true, false, true] rfl ?_
        exact tX10_readLine_J167 hok d (by omega) N   _ r k1 k2 hrec v1 v2 v3 ((s6.2.1 36 (0 : Int32).toNatClampNeg) - 1) s32 hf
      · have hf := zifp hf c158
        refine z_aload_n dX10_readLine_161 rfl ?_
        refine z_iconst 5 dX10_readLine_162 (by decide +kernel) ?_
        obtain ⟨x34, s35, q36, hf⟩ := zbn_of hf
        refine z_cV (as := [_]) hok dX10_readLine_163 kX10_152 (tX10_fail hok (d - 1) N 5  q36) rfl (at_Model s32) rfl rfl (by omega) (Nat.le_of_ble_eq_true rfl) (Nat.zero_le _) (Nat.zero_le _) rfl ?_
        obtain ⟨bo37, hf⟩ := zifs hf
        cases hf
        exact z_zret rfl (zbo_n bo37) dX10_readLine_166 (Nat.zero_le _) (Nat.zero_le _) (k1 _ _ rfl)
  · have hf := zifp hf c129
    refine z_iconst 0 dX10_readLine_132 (by decide +kernel) ?_
    cases hf
    exact z_zret rfl (by decide) dX10_readLine_133 (Nat.zero_le _) (Nat.zero_le _) (k1 _ _ rfl)
noncomputable def fX10_readLine_J112 (N : Nat)  (rec : Int32 → zS → Option ((Int32 × zS) ⊕ (zS))) (v1 : Int32) (v2 : Int32) (v3 : Int32) (k0 : Int32) (s : zS) : Option ((Int32 × zS) ⊕ (zS)) := if v2 = 0 then fX10_readLine_J124 N  rec v1 v2 v3 k0 2 s else fX10_readLine_J124 N  rec v1 v2 v3 k0 0 s
set_option maxHeartbeats 400000 in
set_option maxRecDepth 100000 in
theorem tX10_readLine_J112 {g : zGl} (hok : zGok g) (d : Nat) (hd : 9 ≤ d) (N : Nat)   {mc ms n0 : Nat} {Q : zO → List zE → Prop} (rec : Int32 → zS → Option ((Int32 × zS) ⊕ (zS))) (r : (Int32 × zS) ⊕ (zS)) (k1 : ∀ w s', r = .inl (w, s') → Q (.inl (some (.int w))) (zHp s')) (k2 : ∀  (s' : zS), r = .inr (s') → zW g mX10_readLine d mc ms n0 Q 0 0 (zHp s') [some (.ref 33), none, none, none, none, none] [] 213) (hrec : ∀ (v1 : Int32) (s : zS), rec v1 s = some r → zW g mX10_readLine d mc ms n0 Q 0 0 (zHp s) [some (.ref 33), some (.int v1), none, none, none, none] [] 2) (v1 : Int32) (v2 : Int32) (v3 : Int32) (k0 : Int32) (s : zS) (hf : fX10_readLine_J112 N  rec v1 v2 v3 k0 s = some r) : zW g mX10_readLine d mc ms n0 Q 0 0 (zHp s) [some (.ref 33), some (.int v1), some (.int v2), some (.int v3), none, none] [.int k0] 112 := by
  unfold fX10_readLine_J112 at hf
  refine z_istore (ls' := [_, _, _, _, _, _]) dX10_readLine_112 (by decide) rfl ?_
  refine z_aload_n dX10_readLine_114 rfl ?_
  refine z_iload_n dX10_readLine_115 rfl ?_
  refine z_if_eq 123 dX10_readLine_116 (by decide) (fun c116 => ?_) (fun c116 => ?_)
  · have hf := zifp hf c116
    refine z_iconst 2 dX10_readLine_123 (by decide +kernel) ?_
    refine z_mask (ls' := [_, _, _, _, _, _]) [true, true, true, true, true, false] rfl ?_
    exact tX10_readLine_J124 hok d (by omega) N   _ r k1 k2 hrec v1 v2 v3 k0 2 s hf
  · have hf := zifn hf c116
    refine z_iconst 0 dX10_readLine_119 (by decide +kernel) ?_
    refine z_goto 124 dX10_readLine_120 (by decide) ?_
    refine z_mask (ls' := [_, _, _, _, _, _]) [true, true, true, true, true, false] rfl ?_
    exact tX10_readLine_J124 hok d (by omega) N   _ r k1 k2 hrec v1 v2 v3 k0 0 s hf
noncomputable def fX10_readLine_J77 (N : Nat)  (rec : Int32 → zS → Option ((Int32 × zS) ⊕ (zS))) (v1 : Int32) (v2 : Int32) (k0 : Int32) (s : zS) : Option ((Int32 × zS) ⊕ (zS)) := if zga 0 (zlen 36) = true then if (s.2.1 36 (0 : Int32).toNatClampNeg) = 400 then zbn (fX10_fail N 8 s) (fun x38 s39 => if zbo x38 = true then some (.inl (x38, s39)) else none) else if v2 = 0 then zbn (fX10_number N  s) (fun x2 s3 => fX10_readLine_J112 N  rec v1 v2 k0 x2 s3) else fX10_readLine_J112 N  rec v1 v2 k0 (s.1 3316) s else none
set_option maxHeartbeats 400000 in
set_option maxRecDepth 100000 in
theorem tX10_readLine_J77 {g : zGl} (hok : zGok g) (d : Nat) (hd : 9 ≤ d) (N : Nat)   {mc ms n0 : Nat} {Q : zO → List zE → Prop} (rec : Int32 → zS → Option ((Int32 × zS) ⊕ (zS))) (r : (Int32 × zS) ⊕ (zS)) (k1 : ∀ w s', r = .inl (w, s') → Q (.inl (some (.int w))) (zHp s')) (k2 : ∀  (s' : zS), r = .inr (s') → zW g mX10_readLine d mc ms n0 Q 0 0 (zHp s') [some (.ref 33), none, none, none, none, none] [] 213) (hrec : ∀ (v1 : Int32) (s : zS), rec v1 s = some r → zW g mX10_readLine d mc ms n0 Q 0 0 (zHp s) [some (.ref 33), some (.int v1), none, none, none, none] [] 2) (v1 : Int32) (v2 : Int32) (k0 : Int32) (s : zS) (hf : fX10_readLine_J77 N  rec v1 v2 k0 s = some r) : zW g mX10_readLine d mc ms n0 Q 0 0 (zHp s) [some (.ref 33), some (.int v1), some (.int v2), none, none, none] [.int k0] 77 := by
  unfold fX10_readLine_J77 at hf
  refine z_istore_n (ls' := [_, _, _, _, _, _]) dX10_readLine_77 (by decide) rfl ?_
  refine z_aload_n dX10_readLine_78 rfl ?_
  refine z_getf dX10_readLine_79 fX10_16 (at_Model s) rfl ?_
  refine z_iconst 0 dX10_readLine_82 (by decide +kernel) ?_
  obtain ⟨hi1, hf⟩ := zifs hf
  refine z_iald dX10_readLine_83 (at_arr s 36 (by decide)) (zga_in hi1) ?_
  refine z_sipush 400 dX10_readLine_84 (by decide +kernel) ?_
  refine z_icmp_ne 97 dX10_readLine_87 (by decide) (fun c87 => ?_) (fun c87 => ?_)
  · have hf := zifn hf c87
    refine z_iload_n dX10_readLine_97 rfl ?_
    refine z_if_eq 108 dX10_readLine_98 (by decide) (fun c98 => ?_) (fun c98 => ?_)
    · have hf := zifp hf c98
      refine z_aload_n dX10_readLine_108 rfl ?_
      obtain ⟨x2, s3, q4, hf⟩ := zbn_of hf
      refine z_cV (as := []) hok dX10_readLine_109 kX10_184 (tX10_number hok (d - 1) (by omega) N   q4) rfl (at_Model s) rfl rfl (by omega) (Nat.le_of_ble_eq_true rfl) (Nat.zero_le _) (Nat.zero_le _) rfl ?_
      refine z_mask (ls' := [_, _, _, _, _, _]) [true, true, true, true, false, false] rfl ?_
      exact tX10_readLine_J112 hok d (by omega) N   _ r k1 k2 hrec v1 v2 k0 x2 s3 hf
    · have hf := zifn hf c98
      refine z_aload_n dX10_readLine_101 rfl ?_
      refine z_getf dX10_readLine_102 fX10_82 (at_Model s) rfl ?_
      refine z_goto 112 dX10_readLine_105 (by decide) ?_
      refine z_mask (ls' := [_, _, _, _, _, _]) [true, true, true, true, false, false] rfl ?_
      exact tX10_readLine_J112 hok d (by omega) N   _ r k1 k2 hrec v1 v2 k0 (s.1 3316) s hf
  · have hf := zifp hf c87
    refine z_aload_n dX10_readLine_90 rfl ?_
    refine z_bipush 8 dX10_readLine_91 (by decide +kernel) ?_
    obtain ⟨x38, s39, q40, hf⟩ := zbn_of hf
    refine z_cV (as := [_]) hok dX10_readLine_93 kX10_152 (tX10_fail hok (d - 1) N 8  q40) rfl (at_Model s) rfl rfl (by omega) (Nat.le_of_ble_eq_true rfl) (Nat.zero_le _) (Nat.zero_le _) rfl ?_
    obtain ⟨bo41, hf⟩ := zifs hf
    cases hf
    exact z_zret rfl (zbo_n bo41) dX10_readLine_96 (Nat.zero_le _) (Nat.zero_le _) (k1 _ _ rfl)
noncomputable def fX10_readLine_J72 (N : Nat)  (rec : Int32 → zS → Option ((Int32 × zS) ⊕ (zS))) (v1 : Int32) (v2 : Int32) (s : zS) : Option ((Int32 × zS) ⊕ (zS)) := fX10_readLine_J77 N  rec v1 v2 1 s
set_option maxHeartbeats 400000 in
set_option maxRecDepth 100000 in
theorem tX10_readLine_J72 {g : zGl} (hok : zGok g) (d : Nat) (hd : 9 ≤ d) (N : Nat)   {mc ms n0 : Nat} {Q : zO → List zE → Prop} (rec : Int32 → zS → Option ((Int32 × zS) ⊕ (zS))) (r : (Int32 × zS) ⊕ (zS)) (k1 : ∀ w s', r = .inl (w, s') → Q (.inl (some (.int w))) (zHp s')) (k2 : ∀  (s' : zS), r = .inr (s') → zW g mX10_readLine d mc ms n0 Q 0 0 (zHp s') [some (.ref 33), none, none, none, none, none] [] 213) (hrec : ∀ (v1 : Int32) (s : zS), rec v1 s = some r → zW g mX10_readLine d mc ms n0 Q 0 0 (zHp s) [some (.ref 33), some (.int v1), none, none, none, none] [] 2) (v1 : Int32) (v2 : Int32) (s : zS) (hf : fX10_readLine_J72 N  rec v1 v2 s = some r) : zW g mX10_readLine d mc ms n0 Q 0 0 (zHp s) [some (.ref 33), some (.int v1), some (.int v2), none, none, none] [] 72 := by
  unfold fX10_readLine_J72 at hf
  refine z_iconst 1 dX10_readLine_72 (by decide +kernel) ?_
  refine z_goto 77 dX10_readLine_73 (by decide) ?_
  refine z_mask (ls' := [_, _, _, _, _, _]) [true, true, true, false, false, false] rfl ?_
  exact tX10_readLine_J77 hok d (by omega) N   _ r k1 k2 hrec v1 v2 1 s hf
noncomputable def fX10_readLine_J60 (N : Nat)  (rec : Int32 → zS → Option ((Int32 × zS) ⊕ (zS))) (v1 : Int32) (v2 : Int32) (s : zS) : Option ((Int32 × zS) ⊕ (zS)) := if v2 = 0 then zbn (fX10_register N  s) (fun x42 s43 => if x42 = (-1) then fX10_readLine_J72 N  rec v1 v2 s43 else fX10_readLine_J77 N  rec v1 v2 0 s43) else fX10_readLine_J72 N  rec v1 v2 s
set_option maxHeartbeats 400000 in
set_option maxRecDepth 100000 in
theorem tX10_readLine_J60 {g : zGl} (hok : zGok g) (d : Nat) (hd : 9 ≤ d) (N : Nat)   {mc ms n0 : Nat} {Q : zO → List zE → Prop} (rec : Int32 → zS → Option ((Int32 × zS) ⊕ (zS))) (r : (Int32 × zS) ⊕ (zS)) (k1 : ∀ w s', r = .inl (w, s') → Q (.inl (some (.int w))) (zHp s')) (k2 : ∀  (s' : zS), r = .inr (s') → zW g mX10_readLine d mc ms n0 Q 0 0 (zHp s') [some (.ref 33), none, none, none, none, none] [] 213) (hrec : ∀ (v1 : Int32) (s : zS), rec v1 s = some r → zW g mX10_readLine d mc ms n0 Q 0 0 (zHp s) [some (.ref 33), some (.int v1), none, none, none, none] [] 2) (v1 : Int32) (v2 : Int32) (s : zS) (hf : fX10_readLine_J60 N  rec v1 v2 s = some r) : zW g mX10_readLine d mc ms n0 Q 0 0 (zHp s) [some (.ref 33), some (.int v1), some (.int v2), none, none, none] [] 60 := by
  unfold fX10_readLine_J60 at hf
  refine z_iload_n dX10_readLine_60 rfl ?_
  refine z_if_ne 72 dX10_readLine_61 (by decide) (fun c61 => ?_) (fun c61 => ?_)
  · have hf := zifn hf c61
    refine z_mask (ls' := [_, _, _, _, _, _]) [true, true, true, false, false, false] rfl ?_
    exact tX10_readLine_J72 hok d (by omega) N   _ r k1 k2 hrec v1 v2 s hf
  · have hf := zifp hf c61
    refine z_aload_n dX10_readLine_64 rfl ?_
    obtain ⟨x42, s43, q44, hf⟩ := zbn_of hf
    refine z_cV (as := []) hok dX10_readLine_65 kX10_170 (tX10_register hok (d - 1) (by omega) N   q44) rfl (at_Model s) rfl rfl (by omega) (Nat.le_of_ble_eq_true rfl) (Nat.zero_le _) (Nat.zero_le _) rfl ?_
    refine z_iconst (-1) dX10_readLine_68 (by decide +kernel) ?_
    refine z_icmp_ne 76 dX10_readLine_69 (by decide) (fun c69 => ?_) (fun c69 => ?_)
    · have hf := zifn hf c69
      refine z_iconst 0 dX10_readLine_76 (by decide +kernel) ?_
      refine z_mask (ls' := [_, _, _, _, _, _]) [true, true, true, false, false, false] rfl ?_
      exact tX10_readLine_J77 hok d (by omega) N   _ r k1 k2 hrec v1 v2 0 s43 hf
    · have hf := zifp hf c69
      refine z_mask (ls' := [_, _, _, _, _, _]) [true, true, true, false, false, false] rfl ?_
      exact tX10_readLine_J72 hok d (by omega) N   _ r k1 k2 hrec v1 v2 s43 hf
noncomputable def fX10_readLine_J41 (N : Nat)  (rec : Int32 → zS → Option ((Int32 × zS) ⊕ (zS))) (v1 : Int32) (k0 : Int32) (s : zS) : Option ((Int32 × zS) ⊕ (zS)) := if (s.1 3315) = 1 then fX10_readLine_J60 N  rec v1 k0 s else if k0 = 0 then zbn (fX10_fail N 5 s) (fun x45 s46 => if zbo x45 = true then some (.inl (x45, s46)) else none) else fX10_readLine_J60 N  rec v1 k0 s
set_option maxHeartbeats 400000 in
set_option maxRecDepth 100000 in
theorem tX10_readLine_J41 {g : zGl} (hok : zGok g) (d : Nat) (hd : 9 ≤ d) (N : Nat)   {mc ms n0 : Nat} {Q : zO → List zE → Prop} (rec : Int32 → zS → Option ((Int32 × zS) ⊕ (zS))) (r : (Int32 × zS) ⊕ (zS)) (k1 : ∀ w s', r = .inl (w, s') → Q (.inl (some (.int w))) (zHp s')) (k2 : ∀  (s' : zS), r = .inr (s') → zW g mX10_readLine d mc ms n0 Q 0 0 (zHp s') [some (.ref 33), none, none, none, none, none] [] 213) (hrec : ∀ (v1 : Int32) (s : zS), rec v1 s = some r → zW g mX10_readLine d mc ms n0 Q 0 0 (zHp s) [some (.ref 33), some (.int v1), none, none, none, none] [] 2) (v1 : Int32) (k0 : Int32) (s : zS) (hf : fX10_readLine_J41 N  rec v1 k0 s = some r) : zW g mX10_readLine d mc ms n0 Q 0 0 (zHp s) [some (.ref 33), some (.int v1), none, none, none, none] [.int k0] 41 := by
  unfold fX10_readLine_J41 at hf
  refine z_istore_n (ls' := [_, _, _, _, _, _]) dX10_readLine_41 (by decide) rfl ?_
  refine z_aload_n dX10_readLine_42 rfl ?_
  refine z_getf dX10_readLine_43 fX10_79 (at_Model s) rfl ?_
  refine z_iconst 1 dX10_readLine_46 (by decide +kernel) ?_
  refine z_icmp_eq 60 dX10_readLine_47 (by decide) (fun c47 => ?_) (fun c47 => ?_)
  · have hf := zifp hf c47
    refine z_mask (ls' := [_, _, _, _, _, _]) [true, true, true, false, false, false] rfl ?_
    exact tX10_readLine_J60 hok d (by omega) N   _ r k1 k2 hrec v1 k0 s hf
  · have hf := zifn hf c47
    refine z_iload_n dX10_readLine_50 rfl ?_
    refine z_if_ne 60 dX10_readLine_51 (by decide) (fun c51 => ?_) (fun c51 => ?_)
    · have hf := zifn hf c51
      refine z_mask (ls' := [_, _, _, _, _, _]) [true, true, true, false, false, false] rfl ?_
      exact tX10_readLine_J60 hok d (by omega) N   _ r k1 k2 hrec v1 k0 s hf
    · have hf := zifp hf c51
      refine z_aload_n dX10_readLine_54 rfl ?_
      refine z_iconst 5 dX10_readLine_55 (by decide +kernel) ?_
      obtain ⟨x45, s46, q47, hf⟩ := zbn_of hf
      refine z_cV (as := [_]) hok dX10_readLine_56 kX10_152 (tX10_fail hok (d - 1) N 5  q47) rfl (at_Model s) rfl rfl (by omega) (Nat.le_of_ble_eq_true rfl) (Nat.zero_le _) (Nat.zero_le _) rfl ?_
      obtain ⟨bo48, hf⟩ := zifs hf
      cases hf
      exact z_zret rfl (zbo_n bo48) dX10_readLine_59 (Nat.zero_le _) (Nat.zero_le _) (k1 _ _ rfl)
noncomputable def fX10_readLine_J40 (N : Nat)  (rec : Int32 → zS → Option ((Int32 × zS) ⊕ (zS))) (v1 : Int32) (s : zS) : Option ((Int32 × zS) ⊕ (zS)) := fX10_readLine_J41 N  rec v1 0 s
set_option maxHeartbeats 400000 in
set_option maxRecDepth 100000 in
theorem tX10_readLine_J40 {g : zGl} (hok : zGok g) (d : Nat) (hd : 9 ≤ d) (N : Nat)   {mc ms n0 : Nat} {Q : zO → List zE → Prop} (rec : Int32 → zS → Option ((Int32 × zS) ⊕ (zS))) (r : (Int32 × zS) ⊕ (zS)) (k1 : ∀ w s', r = .inl (w, s') → Q (.inl (some (.int w))) (zHp s')) (k2 : ∀  (s' : zS), r = .inr (s') → zW g mX10_readLine d mc ms n0 Q 0 0 (zHp s') [some (.ref 33), none, none, none, none, none] [] 213) (hrec : ∀ (v1 : Int32) (s : zS), rec v1 s = some r → zW g mX10_readLine d mc ms n0 Q 0 0 (zHp s) [some (.ref 33), some (.int v1), none, none, none, none] [] 2) (v1 : Int32) (s : zS) (hf : fX10_readLine_J40 N  rec v1 s = some r) : zW g mX10_readLine d mc ms n0 Q 0 0 (zHp s) [some (.ref 33), some (.int v1), none, none, none, none] [] 40 := by
  unfold fX10_readLine_J40 at hf
  refine z_iconst 0 dX10_readLine_40 (by decide +kernel) ?_
  refine z_mask (ls' := [_, _, _, _, _, _]) [true, true, false, false, false, false] rfl ?_
  exact tX10_readLine_J41 hok d (by omega) N   _ r k1 k2 hrec v1 0 s hf
noncomputable def fX10_readLine_L2S (N : Nat)  (rec : Int32 → zS → Option ((Int32 × zS) ⊕ (zS))) (v1 : Int32) (s : zS) : Option ((Int32 × zS) ⊕ (zS)) := if v1 = 0 then some (.inr (s)) else if (s.1 3315) = 0 then some (.inl (1, s)) else if (s.1 3315) = 2 then if ((s.1 3318) - (s.1 3317)) = 1 then fX10_readLine_J41 N  rec v1 1 s else fX10_readLine_J40 N  rec v1 s else fX10_readLine_J40 N  rec v1 s
noncomputable def fX10_readLine_L2 (N : Nat)  (n : Nat) : Int32 → zS → Option ((Int32 × zS) ⊕ (zS)) := Nat.rec (motive := fun _ => Int32 → zS → Option ((Int32 × zS) ⊕ (zS))) (fun _ _ => none) (fun _ rec => fX10_readLine_L2S N  rec) n
set_option maxHeartbeats 400000 in
set_option maxRecDepth 100000 in
theorem tX10_readLine_L2 {g : zGl} (hok : zGok g) (d : Nat) (hd : 9 ≤ d) (N : Nat)   {mc ms n0 : Nat} {Q : zO → List zE → Prop} (n : Nat) : ∀ (v1 : Int32) (s : zS) (r : (Int32 × zS) ⊕ (zS)) (hf : fX10_readLine_L2 N  n v1 s = some r) (k1 : ∀ w s', r = .inl (w, s') → Q (.inl (some (.int w))) (zHp s')) (k2 : ∀  (s' : zS), r = .inr (s') → zW g mX10_readLine d mc ms n0 Q 0 0 (zHp s') [some (.ref 33), none, none, none, none, none] [] 213), zW g mX10_readLine d mc ms n0 Q 0 0 (zHp s) [some (.ref 33), some (.int v1), none, none, none, none] [] 2 := by
  induction n with
  | zero => intro v1 s r hf; cases hf
  | succ n ih =>
    intro v1 s r hf k1 k2
    have hrec : ∀ (v1 : Int32) (s : zS) (r1 : (Int32 × zS) ⊕ (zS)), fX10_readLine_L2 N  n v1 s = some r1 → r1 = r → zW g mX10_readLine d mc ms n0 Q 0 0 (zHp s) [some (.ref 33), some (.int v1), none, none, none, none] [] 2 := fun v1 s r1 h e => ih v1 s r1 h (by subst e; exact k1) (by subst e; exact k2)
    have hrec : ∀ (v1 : Int32) (s : zS), fX10_readLine_L2 N  n v1 s = some r → zW g mX10_readLine d mc ms n0 Q 0 0 (zHp s) [some (.ref 33), some (.int v1), none, none, none, none] [] 2 := fun v1 s h => hrec v1 s r h rfl
    have hf : fX10_readLine_L2S N  (fX10_readLine_L2 N  n) v1 s = some r := hf
    unfold fX10_readLine_L2S at hf
    refine z_iload_n dX10_readLine_2 rfl ?_
    refine z_if_eq 213 dX10_readLine_3 (by decide) (fun c3 => ?_) (fun c3 => ?_)
    · have hf := zifp hf c3
      cases hf
      refine z_mask (ls' := [_, _, _, _, _, _]) [true, false, false, false, false, false] rfl ?_
      exact k2  _ rfl
    · have hf := zifn hf c3
      refine z_aload_n dX10_readLine_6 rfl ?_
      refine z_getf dX10_readLine_7 fX10_79 (at_Model s) rfl ?_
      refine z_if_ne 15 dX10_readLine_10 (by decide) (fun c10 => ?_) (fun c10 => ?_)
      · have hf := zifn hf c10
        refine z_aload_n dX10_readLine_15 rfl ?_
        refine z_getf dX10_readLine_16 fX10_79 (at_Model s) rfl ?_
        refine z_iconst 2 dX10_readLine_19 (by decide +kernel) ?_
        refine z_icmp_ne 40 dX10_readLine_20 (by decide) (fun c20 => ?_) (fun c20 => ?_)
        · have hf := zifn hf c20
          refine z_mask (ls' := [_, _, _, _, _, _]) [true, true, false, false, false, false] rfl ?_
          exact tX10_readLine_J40 hok d (by omega) N   _ r k1 k2 hrec v1 s hf
        · have hf := zifp hf c20
          refine z_aload_n dX10_readLine_23 rfl ?_
          refine z_getf dX10_readLine_24 fX10_88 (at_Model s) rfl ?_
          refine z_aload_n dX10_readLine_27 rfl ?_
          refine z_getf dX10_readLine_28 fX10_85 (at_Model s) rfl ?_
          refine z_isub dX10_readLine_31 ?_
          refine z_iconst 1 dX10_readLine_32 (by decide +kernel) ?_
          refine z_icmp_ne 40 dX10_readLine_33 (by decide) (fun c33 => ?_) (fun c33 => ?_)
          · have hf := zifn hf c33
            refine z_mask (ls' := [_, _, _, _, _, _]) [true, true, false, false, false, false] rfl ?_
            exact tX10_readLine_J40 hok d (by omega) N   _ r k1 k2 hrec v1 s hf
          · have hf := zifp hf c33
            refine z_iconst 1 dX10_readLine_36 (by decide +kernel) ?_
            refine z_goto 41 dX10_readLine_37 (by decide) ?_
            refine z_mask (ls' := [_, _, _, _, _, _]) [true, true, false, false, false, false] rfl ?_
            exact tX10_readLine_J41 hok d (by omega) N   _ r k1 k2 hrec v1 1 s hf
      · have hf := zifp hf c10
        refine z_iconst 1 dX10_readLine_13 (by decide +kernel) ?_
        cases hf
        exact z_zret rfl (by decide) dX10_readLine_14 (Nat.zero_le _) (Nat.zero_le _) (k1 _ _ rfl)
noncomputable def fX10_readLine (N : Nat)  (s : zS) : Option (Int32 × zS) := zbl (fX10_readLine_L2 N  N 1 s) (fun x => some x) (fun s52 => some (1, s52))
set_option maxHeartbeats 400000 in
set_option maxRecDepth 100000 in
theorem tX10_readLine {g : zGl} (hok : zGok g) (d : Nat) (hd : 9 ≤ d) (N : Nat)   {s s' : zS} {w : Int32} (hf : fX10_readLine N  s = some (w, s')) : zMet g mX10_readLine d 0 0 [.ref 33] (zHp s) (zret (some (.int w)) (zHp s')) := by
  refine zMet.ofW (by decide +kernel) (Nat.le_of_ble_eq_true rfl) ?_
  show zW g mX10_readLine d 0 0 51 _ 0 0 (zHp s) [some (.ref 33), none, none, none, none, none] [] 0
  unfold fX10_readLine at hf
  refine z_iconst 1 dX10_readLine_0 (by decide +kernel) ?_
  refine z_istore_n (ls' := [_, _, _, _, _, _]) dX10_readLine_1 (by decide) rfl ?_
  refine z_mask (ls' := [_, _, _, _, _, _]) [true, true, false, false, false, false] rfl ?_
  rcases zbl_of hf with ⟨lr50, le51, hf⟩ | ⟨lr50, le51, hf⟩
  · cases hf
    exact tX10_readLine_L2 hok d (by omega) N   N 1 s _ le51 (fun w1 s1 hh => by cases hh; exact ⟨rfl, rfl⟩) (fun  _ hh => by cases hh)
  · obtain ⟨s52, rfl⟩ : ∃ z, z = lr50 := ⟨_, rfl⟩
    refine tX10_readLine_L2 hok d (by omega) N   N 1 s _ le51 (fun w1 s1 hh => by cases hh) (fun  _ hh => ?_)
    cases hh
    refine z_iconst 1 dX10_readLine_213 (by decide +kernel) ?_
    cases hf
    exact z_zret rfl (by decide) dX10_readLine_214 (Nat.zero_le _) (Nat.zero_le _) ⟨rfl, rfl⟩

noncomputable def fX10_keep_L2S (N : Nat)  (rec : Int32 → zS → Option ((Unit × zS) ⊕ (zS))) (v1 : Int32) (s : zS) : Option ((Unit × zS) ⊕ (zS)) := if 4 ≤ v1 then some (.inr (s)) else if zga v1 (zlen 36) = true then if zga (4 + v1) (zlen 36) = true then rec (v1 + 1) (zsr s 36 (4 + v1) (s.2.1 36 v1.toNatClampNeg)) else none else none
noncomputable def fX10_keep_L2 (N : Nat)  (n : Nat) : Int32 → zS → Option ((Unit × zS) ⊕ (zS)) := Nat.rec (motive := fun _ => Int32 → zS → Option ((Unit × zS) ⊕ (zS))) (fun _ _ => none) (fun _ rec => fX10_keep_L2S N  rec) n
set_option maxHeartbeats 400000 in
set_option maxRecDepth 100000 in
theorem tX10_keep_L2 {g : zGl} (hok : zGok g) (d : Nat)  (N : Nat)   {mc ms n0 : Nat} {Q : zO → List zE → Prop} (n : Nat) : ∀ (v1 : Int32) (s : zS) (r : (Unit × zS) ⊕ (zS)) (hf : fX10_keep_L2 N  n v1 s = some r) (k1 : ∀ w s', r = .inl (w, s') → Q (.inl none) (zHp s')) (k2 : ∀  (s' : zS), r = .inr (s') → zW g mX10_keep d mc ms n0 Q 0 0 (zHp s') [some (.ref 33), none] [] 27), zW g mX10_keep d mc ms n0 Q 0 0 (zHp s) [some (.ref 33), some (.int v1)] [] 2 := by
  induction n with
  | zero => intro v1 s r hf; cases hf
  | succ n ih =>
    intro v1 s r hf k1 k2
    have hrec : ∀ (v1 : Int32) (s : zS) (r1 : (Unit × zS) ⊕ (zS)), fX10_keep_L2 N  n v1 s = some r1 → r1 = r → zW g mX10_keep d mc ms n0 Q 0 0 (zHp s) [some (.ref 33), some (.int v1)] [] 2 := fun v1 s r1 h e => ih v1 s r1 h (by subst e; exact k1) (by subst e; exact k2)
    have hrec : ∀ (v1 : Int32) (s : zS), fX10_keep_L2 N  n v1 s = some r → zW g mX10_keep d mc ms n0 Q 0 0 (zHp s) [some (.ref 33), some (.int v1)] [] 2 := fun v1 s h => hrec v1 s r h rfl
    have hf : fX10_keep_L2S N  (fX10_keep_L2 N  n) v1 s = some r := hf
    unfold fX10_keep_L2S at hf
    refine z_iload_n dX10_keep_2 rfl ?_
    refine z_iconst 4 dX10_keep_3 (by decide +kernel) ?_
    refine z_icmp_ge 27 dX10_keep_4 (by decide) (fun c4 => ?_) (fun c4 => ?_)
    · have hf := zifp hf c4
      cases hf
      refine z_mask (ls' := [_, _]) [true, false] rfl ?_
      exact k2  _ rfl
    · have hf := zifn hf c4
      refine z_aload_n dX10_keep_7 rfl ?_
      refine z_getf dX10_keep_8 fX10_16 (at_Model s) rfl ?_
      refine z_iconst 4 dX10_keep_11 (by decide +kernel) ?_
      refine z_iload_n dX10_keep_12 rfl ?_
      refine z_iadd dX10_keep_13 ?_
      refine z_aload_n dX10_keep_14 rfl ?_
      refine z_getf dX10_keep_15 fX10_16 (at_Model s) rfl ?_
      refine z_iload_n dX10_keep_18 rfl ?_
      obtain ⟨hi1, hf⟩ := zifs hf
      refine z_iald dX10_keep_19 (at_arr s 36 (by decide)) (zga_in hi1) ?_
      obtain ⟨hi2, hf⟩ := zifs hf
      refine z_iastore dX10_keep_20 (at_arr s 36 (by decide)) (zga_in hi2) (st_arr s 36 (by decide) (4 + v1) (s.2.1 36 v1.toNatClampNeg)) ?_
      refine z_iinc (ls' := [_, _]) (v1 + 1) dX10_keep_21 rfl rfl (by decide) rfl ?_
      refine z_goto 2 dX10_keep_24 (by decide) ?_
      refine z_mask (ls' := [_, _]) [true, true] rfl ?_
      exact hrec (v1 + 1) (zsr s 36 (4 + v1) (s.2.1 36 v1.toNatClampNeg)) hf
noncomputable def fX10_keep_L29S (N : Nat)  (rec : Int32 → zS → Option ((Unit × zS) ⊕ (zS))) (v1 : Int32) (s : zS) : Option ((Unit × zS) ⊕ (zS)) := if 2400 ≤ v1 then some (.inr (s)) else if zga v1 (zlen 37) = true then if zga (2400 + v1) (zlen 37) = true then rec (v1 + 1) (zsr s 37 (2400 + v1) (s.2.1 37 v1.toNatClampNeg)) else none else none
noncomputable def fX10_keep_L29 (N : Nat)  (n : Nat) : Int32 → zS → Option ((Unit × zS) ⊕ (zS)) := Nat.rec (motive := fun _ => Int32 → zS → Option ((Unit × zS) ⊕ (zS))) (fun _ _ => none) (fun _ rec => fX10_keep_L29S N  rec) n
set_option maxHeartbeats 400000 in
set_option maxRecDepth 100000 in
theorem tX10_keep_L29 {g : zGl} (hok : zGok g) (d : Nat)  (N : Nat)   {mc ms n0 : Nat} {Q : zO → List zE → Prop} (n : Nat) : ∀ (v1 : Int32) (s : zS) (r : (Unit × zS) ⊕ (zS)) (hf : fX10_keep_L29 N  n v1 s = some r) (k1 : ∀ w s', r = .inl (w, s') → Q (.inl none) (zHp s')) (k2 : ∀  (s' : zS), r = .inr (s') → zW g mX10_keep d mc ms n0 Q 0 0 (zHp s') [some (.ref 33), none] [] 58), zW g mX10_keep d mc ms n0 Q 0 0 (zHp s) [some (.ref 33), some (.int v1)] [] 29 := by
  induction n with
  | zero => intro v1 s r hf; cases hf
  | succ n ih =>
    intro v1 s r hf k1 k2
    have hrec : ∀ (v1 : Int32) (s : zS) (r1 : (Unit × zS) ⊕ (zS)), fX10_keep_L29 N  n v1 s = some r1 → r1 = r → zW g mX10_keep d mc ms n0 Q 0 0 (zHp s) [some (.ref 33), some (.int v1)] [] 29 := fun v1 s r1 h e => ih v1 s r1 h (by subst e; exact k1) (by subst e; exact k2)
    have hrec : ∀ (v1 : Int32) (s : zS), fX10_keep_L29 N  n v1 s = some r → zW g mX10_keep d mc ms n0 Q 0 0 (zHp s) [some (.ref 33), some (.int v1)] [] 29 := fun v1 s h => hrec v1 s r h rfl
    have hf : fX10_keep_L29S N  (fX10_keep_L29 N  n) v1 s = some r := hf
    unfold fX10_keep_L29S at hf
    refine z_iload_n dX10_keep_29 rfl ?_
    refine z_sipush 2400 dX10_keep_30 (by decide +kernel) ?_
    refine z_icmp_ge 58 dX10_keep_33 (by decide) (fun c33 => ?_) (fun c33 => ?_)
    · have hf := zifp hf c33
      cases hf
      refine z_mask (ls' := [_, _]) [true, false] rfl ?_
      exact k2  _ rfl
    · have hf := zifn hf c33
      refine z_aload_n dX10_keep_36 rfl ?_
      refine z_getf dX10_keep_37 fX10_19 (at_Model s) rfl ?_
      refine z_sipush 2400 dX10_keep_40 (by decide +kernel) ?_
      refine z_iload_n dX10_keep_43 rfl ?_
      refine z_iadd dX10_keep_44 ?_
      refine z_aload_n dX10_keep_45 rfl ?_
      refine z_getf dX10_keep_46 fX10_19 (at_Model s) rfl ?_
      refine z_iload_n dX10_keep_49 rfl ?_
      obtain ⟨hi7, hf⟩ := zifs hf
      refine z_iald dX10_keep_50 (at_arr s 37 (by decide)) (zga_in hi7) ?_
      obtain ⟨hi8, hf⟩ := zifs hf
      refine z_iastore dX10_keep_51 (at_arr s 37 (by decide)) (zga_in hi8) (st_arr s 37 (by decide) (2400 + v1) (s.2.1 37 v1.toNatClampNeg)) ?_
      refine z_iinc (ls' := [_, _]) (v1 + 1) dX10_keep_52 rfl rfl (by decide) rfl ?_
      refine z_goto 29 dX10_keep_55 (by decide) ?_
      refine z_mask (ls' := [_, _]) [true, true] rfl ?_
      exact hrec (v1 + 1) (zsr s 37 (2400 + v1) (s.2.1 37 v1.toNatClampNeg)) hf
noncomputable def fX10_keep_L60S (N : Nat)  (rec : Int32 → zS → Option ((Unit × zS) ⊕ (zS))) (v1 : Int32) (s : zS) : Option ((Unit × zS) ⊕ (zS)) := if 5600 ≤ v1 then some (.inr (s)) else if zga v1 (zlen 38) = true then if zga (5600 + v1) (zlen 38) = true then rec (v1 + 1) (zsr s 38 (5600 + v1) (s.2.1 38 v1.toNatClampNeg)) else none else none
noncomputable def fX10_keep_L60 (N : Nat)  (n : Nat) : Int32 → zS → Option ((Unit × zS) ⊕ (zS)) := Nat.rec (motive := fun _ => Int32 → zS → Option ((Unit × zS) ⊕ (zS))) (fun _ _ => none) (fun _ rec => fX10_keep_L60S N  rec) n
set_option maxHeartbeats 400000 in
set_option maxRecDepth 100000 in
theorem tX10_keep_L60 {g : zGl} (hok : zGok g) (d : Nat)  (N : Nat)   {mc ms n0 : Nat} {Q : zO → List zE → Prop} (n : Nat) : ∀ (v1 : Int32) (s : zS) (r : (Unit × zS) ⊕ (zS)) (hf : fX10_keep_L60 N  n v1 s = some r) (k1 : ∀ w s', r = .inl (w, s') → Q (.inl none) (zHp s')) (k2 : ∀  (s' : zS), r = .inr (s') → zW g mX10_keep d mc ms n0 Q 0 0 (zHp s') [some (.ref 33), none] [] 89), zW g mX10_keep d mc ms n0 Q 0 0 (zHp s) [some (.ref 33), some (.int v1)] [] 60 := by
  induction n with
  | zero => intro v1 s r hf; cases hf
  | succ n ih =>
    intro v1 s r hf k1 k2
    have hrec : ∀ (v1 : Int32) (s : zS) (r1 : (Unit × zS) ⊕ (zS)), fX10_keep_L60 N  n v1 s = some r1 → r1 = r → zW g mX10_keep d mc ms n0 Q 0 0 (zHp s) [some (.ref 33), some (.int v1)] [] 60 := fun v1 s r1 h e => ih v1 s r1 h (by subst e; exact k1) (by subst e; exact k2)
    have hrec : ∀ (v1 : Int32) (s : zS), fX10_keep_L60 N  n v1 s = some r → zW g mX10_keep d mc ms n0 Q 0 0 (zHp s) [some (.ref 33), some (.int v1)] [] 60 := fun v1 s h => hrec v1 s r h rfl
    have hf : fX10_keep_L60S N  (fX10_keep_L60 N  n) v1 s = some r := hf
    unfold fX10_keep_L60S at hf
    refine z_iload_n dX10_keep_60 rfl ?_
    refine z_sipush 5600 dX10_keep_61 (by decide +kernel) ?_
    refine z_icmp_ge 89 dX10_keep_64 (by decide) (fun c64 => ?_) (fun c64 => ?_)
    · have hf := zifp hf c64
      cases hf
      refine z_mask (ls' := [_, _]) [true, false] rfl ?_
      exact k2  _ rfl
    · have hf := zifn hf c64
      refine z_aload_n dX10_keep_67 rfl ?_
      refine z_getf dX10_keep_68 fX10_22 (at_Model s) rfl ?_
      refine z_sipush 5600 dX10_keep_71 (by decide +kernel) ?_
      refine z_iload_n dX10_keep_74 rfl ?_
      refine z_iadd dX10_keep_75 ?_
      refine z_aload_n dX10_keep_76 rfl ?_
      refine z_getf dX10_keep_77 fX10_22 (at_Model s) rfl ?_
      refine z_iload_n dX10_keep_80 rfl ?_
      obtain ⟨hi13, hf⟩ := zifs hf
      refine z_iald dX10_keep_81 (at_arr s 38 (by decide)) (zga_in hi13) ?_
      obtain ⟨hi14, hf⟩ := zifs hf
      refine z_iastore dX10_keep_82 (at_arr s 38 (by decide)) (zga_in hi14) (st_arr s 38 (by decide) (5600 + v1) (s.2.1 38 v1.toNatClampNeg)) ?_
      refine z_iinc (ls' := [_, _]) (v1 + 1) dX10_keep_83 rfl rfl (by decide) rfl ?_
      refine z_goto 60 dX10_keep_86 (by decide) ?_
      refine z_mask (ls' := [_, _]) [true, true] rfl ?_
      exact hrec (v1 + 1) (zsr s 38 (5600 + v1) (s.2.1 38 v1.toNatClampNeg)) hf
noncomputable def fX10_keep_L91S (N : Nat)  (rec : Int32 → zS → Option ((Unit × zS) ⊕ (zS))) (v1 : Int32) (s : zS) : Option ((Unit × zS) ⊕ (zS)) := if 4000 ≤ v1 then some (.inr (s)) else if zga v1 (zlen 39) = true then if zga (4000 + v1) (zlen 39) = true then rec (v1 + 1) (zsr s 39 (4000 + v1) (s.2.1 39 v1.toNatClampNeg)) else none else none
noncomputable def fX10_keep_L91 (N : Nat)  (n : Nat) : Int32 → zS → Option ((Unit × zS) ⊕ (zS)) := Nat.rec (motive := fun _ => Int32 → zS → Option ((Unit × zS) ⊕ (zS))) (fun _ _ => none) (fun _ rec => fX10_keep_L91S N  rec) n
set_option maxHeartbeats 400000 in
set_option maxRecDepth 100000 in
theorem tX10_keep_L91 {g : zGl} (hok : zGok g) (d : Nat)  (N : Nat)   {mc ms n0 : Nat} {Q : zO → List zE → Prop} (n : Nat) : ∀ (v1 : Int32) (s : zS) (r : (Unit × zS) ⊕ (zS)) (hf : fX10_keep_L91 N  n v1 s = some r) (k1 : ∀ w s', r = .inl (w, s') → Q (.inl none) (zHp s')) (k2 : ∀  (s' : zS), r = .inr (s') → zW g mX10_keep d mc ms n0 Q 0 0 (zHp s') [some (.ref 33), none] [] 120), zW g mX10_keep d mc ms n0 Q 0 0 (zHp s) [some (.ref 33), some (.int v1)] [] 91 := by
  induction n with
  | zero => intro v1 s r hf; cases hf
  | succ n ih =>
    intro v1 s r hf k1 k2
    have hrec : ∀ (v1 : Int32) (s : zS) (r1 : (Unit × zS) ⊕ (zS)), fX10_keep_L91 N  n v1 s = some r1 → r1 = r → zW g mX10_keep d mc ms n0 Q 0 0 (zHp s) [some (.ref 33), some (.int v1)] [] 91 := fun v1 s r1 h e => ih v1 s r1 h (by subst e; exact k1) (by subst e; exact k2)
    have hrec : ∀ (v1 : Int32) (s : zS), fX10_keep_L91 N  n v1 s = some r → zW g mX10_keep d mc ms n0 Q 0 0 (zHp s) [some (.ref 33), some (.int v1)] [] 91 := fun v1 s h => hrec v1 s r h rfl
    have hf : fX10_keep_L91S N  (fX10_keep_L91 N  n) v1 s = some r := hf
    unfold fX10_keep_L91S at hf
    refine z_iload_n dX10_keep_91 rfl ?_
    refine z_sipush 4000 dX10_keep_92 (by decide +kernel) ?_
    refine z_icmp_ge 120 dX10_keep_95 (by decide) (fun c95 => ?_) (fun c95 => ?_)
    · have hf := zifp hf c95
      cases hf
      refine z_mask (ls' := [_, _]) [true, false] rfl ?_
      exact k2  _ rfl
    · have hf := zifn hf c95
      refine z_aload_n dX10_keep_98 rfl ?_
      refine z_getf dX10_keep_99 fX10_25 (at_Model s) rfl ?_
      refine z_sipush 4000 dX10_keep_102 (by decide +kernel) ?_
      refine z_iload_n dX10_keep_105 rfl ?_
      refine z_iadd dX10_keep_106 ?_
      refine z_aload_n dX10_keep_107 rfl ?_
      refine z_getf dX10_keep_108 fX10_25 (at_Model s) rfl ?_
      refine z_iload_n dX10_keep_111 rfl ?_
      obtain ⟨hi19, hf⟩ := zifs hf
      refine z_iald dX10_keep_112 (at_arr s 39 (by decide)) (zga_in hi19) ?_
      obtain ⟨hi20, hf⟩ := zifs hf
      refine z_iastore dX10_keep_113 (at_arr s 39 (by decide)) (zga_in hi20) (st_arr s 39 (by decide) (4000 + v1) (s.2.1 39 v1.toNatClampNeg)) ?_
      refine z_iinc (ls' := [_, _]) (v1 + 1) dX10_keep_114 rfl rfl (by decide) rfl ?_
      refine z_goto 91 dX10_keep_117 (by decide) ?_
      refine z_mask (ls' := [_, _]) [true, true] rfl ?_
      exact hrec (v1 + 1) (zsr s 39 (4000 + v1) (s.2.1 39 v1.toNatClampNeg)) hf
noncomputable def fX10_keep_L122S (N : Nat)  (rec : Int32 → zS → Option ((Unit × zS) ⊕ (zS))) (v1 : Int32) (s : zS) : Option ((Unit × zS) ⊕ (zS)) := if 2400 ≤ v1 then some (.inr (s)) else if zga v1 (zlen 40) = true then if zga (2400 + v1) (zlen 40) = true then rec (v1 + 1) (zsr s 40 (2400 + v1) (s.2.1 40 v1.toNatClampNeg)) else none else none
noncomputable def fX10_keep_L122 (N : Nat)  (n : Nat) : Int32 → zS → Option ((Unit × zS) ⊕ (zS)) := Nat.rec (motive := fun _ => Int32 → zS → Option ((Unit × zS) ⊕ (zS))) (fun _ _ => none) (fun _ rec => fX10_keep_L122S N  rec) n
set_option maxHeartbeats 400000 in
set_option maxRecDepth 100000 in
theorem tX10_keep_L122 {g : zGl} (hok : zGok g) (d : Nat)  (N : Nat)   {mc ms n0 : Nat} {Q : zO → List zE → Prop} (n : Nat) : ∀ (v1 : Int32) (s : zS) (r : (Unit × zS) ⊕ (zS)) (hf : fX10_keep_L122 N  n v1 s = some r) (k1 : ∀ w s', r = .inl (w, s') → Q (.inl none) (zHp s')) (k2 : ∀  (s' : zS), r = .inr (s') → zW g mX10_keep d mc ms n0 Q 0 0 (zHp s') [some (.ref 33), none] [] 151), zW g mX10_keep d mc ms n0 Q 0 0 (zHp s) [some (.ref 33), some (.int v1)] [] 122 := by
  induction n with
  | zero => intro v1 s r hf; cases hf
  | succ n ih =>
    intro v1 s r hf k1 k2
    have hrec : ∀ (v1 : Int32) (s : zS) (r1 : (Unit × zS) ⊕ (zS)), fX10_keep_L122 N  n v1 s = some r1 → r1 = r → zW g mX10_keep d mc ms n0 Q 0 0 (zHp s) [some (.ref 33), some (.int v1)] [] 122 := fun v1 s r1 h e => ih v1 s r1 h (by subst e; exact k1) (by subst e; exact k2)
    have hrec : ∀ (v1 : Int32) (s : zS), fX10_keep_L122 N  n v1 s = some r → zW g mX10_keep d mc ms n0 Q 0 0 (zHp s) [some (.ref 33), some (.int v1)] [] 122 := fun v1 s h => hrec v1 s r h rfl
    have hf : fX10_keep_L122S N  (fX10_keep_L122 N  n) v1 s = some r := hf
    unfold fX10_keep_L122S at hf
    refine z_iload_n dX10_keep_122 rfl ?_
    refine z_sipush 2400 dX10_keep_123 (by decide +kernel) ?_
    refine z_icmp_ge 151 dX10_keep_126 (by decide) (fun c126 => ?_) (fun c126 => ?_)
    · have hf := zifp hf c126
      cases hf
      refine z_mask (ls' := [_, _]) [true, false] rfl ?_
      exact k2  _ rfl
    · have hf := zifn hf c126
      refine z_aload_n dX10_keep_129 rfl ?_
      refine z_getf dX10_keep_130 fX10_28 (at_Model s) rfl ?_
      refine z_sipush 2400 dX10_keep_133 (by decide +kernel) ?_
      refine z_iload_n dX10_keep_136 rfl ?_
      refine z_iadd dX10_keep_137 ?_
      refine z_aload_n dX10_keep_138 rfl ?_
      refine z_getf dX10_keep_139 fX10_28 (at_Model s) rfl ?_
      refine z_iload_n dX10_keep_142 rfl ?_
      obtain ⟨hi25, hf⟩ := zifs hf
      refine z_iald dX10_keep_143 (at_arr s 40 (by decide)) (zga_in hi25) ?_
      obtain ⟨hi26, hf⟩ := zifs hf
      refine z_iastore dX10_keep_144 (at_arr s 40 (by decide)) (zga_in hi26) (st_arr s 40 (by decide) (2400 + v1) (s.2.1 40 v1.toNatClampNeg)) ?_
      refine z_iinc (ls' := [_, _]) (v1 + 1) dX10_keep_145 rfl rfl (by decide) rfl ?_
      refine z_goto 122 dX10_keep_148 (by decide) ?_
      refine z_mask (ls' := [_, _]) [true, true] rfl ?_
      exact hrec (v1 + 1) (zsr s 40 (2400 + v1) (s.2.1 40 v1.toNatClampNeg)) hf
noncomputable def fX10_keep_L153S (N : Nat)  (rec : Int32 → zS → Option ((Unit × zS) ⊕ (zS))) (v1 : Int32) (s : zS) : Option ((Unit × zS) ⊕ (zS)) := if 150 ≤ v1 then some (.inr (s)) else if zga v1 (zlen 41) = true then if zga (150 + v1) (zlen 41) = true then rec (v1 + 1) (zsr s 41 (150 + v1) (s.2.1 41 v1.toNatClampNeg)) else none else none
noncomputable def fX10_keep_L153 (N : Nat)  (n : Nat) : Int32 → zS → Option ((Unit × zS) ⊕ (zS)) := Nat.rec (motive := fun _ => Int32 → zS → Option ((Unit × zS) ⊕ (zS))) (fun _ _ => none) (fun _ rec => fX10_keep_L153S N  rec) n
set_option maxHeartbeats 400000 in
set_option maxRecDepth 100000 in
theorem tX10_keep_L153 {g : zGl} (hok : zGok g) (d : Nat)  (N : Nat)   {mc ms n0 : Nat} {Q : zO → List zE → Prop} (n : Nat) : ∀ (v1 : Int32) (s : zS) (r : (Unit × zS) ⊕ (zS)) (hf : fX10_keep_L153 N  n v1 s = some r) (k1 : ∀ w s', r = .inl (w, s') → Q (.inl none) (zHp s')) (k2 : ∀  (s' : zS), r = .inr (s') → zW g mX10_keep d mc ms n0 Q 0 0 (zHp s') [some (.ref 33), none] [] 182), zW g mX10_keep d mc ms n0 Q 0 0 (zHp s) [some (.ref 33), some (.int v1)] [] 153 := by
  induction n with
  | zero => intro v1 s r hf; cases hf
  | succ n ih =>
    intro v1 s r hf k1 k2
    have hrec : ∀ (v1 : Int32) (s : zS) (r1 : (Unit × zS) ⊕ (zS)), fX10_keep_L153 N  n v1 s = some r1 → r1 = r → zW g mX10_keep d mc ms n0 Q 0 0 (zHp s) [some (.ref 33), some (.int v1)] [] 153 := fun v1 s r1 h e => ih v1 s r1 h (by subst e; exact k1) (by subst e; exact k2)
    have hrec : ∀ (v1 : Int32) (s : zS), fX10_keep_L153 N  n v1 s = some r → zW g mX10_keep d mc ms n0 Q 0 0 (zHp s) [some (.ref 33), some (.int v1)] [] 153 := fun v1 s h => hrec v1 s r h rfl
    have hf : fX10_keep_L153S N  (fX10_keep_L153 N  n) v1 s = some r := hf
    unfold fX10_keep_L153S at hf
    refine z_iload_n dX10_keep_153 rfl ?_
    refine z_sipush 150 dX10_keep_154 (by decide +kernel) ?_
    refine z_icmp_ge 182 dX10_keep_157 (by decide) (fun c157 => ?_) (fun c157 => ?_)
    · have hf := zifp hf c157
      cases hf
      refine z_mask (ls' := [_, _]) [true, false] rfl ?_
      exact k2  _ rfl
    · have hf := zifn hf c157
      refine z_aload_n dX10_keep_160 rfl ?_
      refine z_getf dX10_keep_161 fX10_31 (at_Model s) rfl ?_
      refine z_sipush 150 dX10_keep_164 (by decide +kernel) ?_
      refine z_iload_n dX10_keep_167 rfl ?_
      refine z_iadd dX10_keep_168 ?_
      refine z_aload_n dX10_keep_169 rfl ?_
      refine z_getf dX10_keep_170 fX10_31 (at_Model s) rfl ?_
      refine z_iload_n dX10_keep_173 rfl ?_
      obtain ⟨hi31, hf⟩ := zifs hf
      refine z_iald dX10_keep_174 (at_arr s 41 (by decide)) (zga_in hi31) ?_
      obtain ⟨hi32, hf⟩ := zifs hf
      refine z_iastore dX10_keep_175 (at_arr s 41 (by decide)) (zga_in hi32) (st_arr s 41 (by decide) (150 + v1) (s.2.1 41 v1.toNatClampNeg)) ?_
      refine z_iinc (ls' := [_, _]) (v1 + 1) dX10_keep_176 rfl rfl (by decide) rfl ?_
      refine z_goto 153 dX10_keep_179 (by decide) ?_
      refine z_mask (ls' := [_, _]) [true, true] rfl ?_
      exact hrec (v1 + 1) (zsr s 41 (150 + v1) (s.2.1 41 v1.toNatClampNeg)) hf
noncomputable def fX10_keep_L184S (N : Nat)  (rec : Int32 → zS → Option ((Unit × zS) ⊕ (zS))) (v1 : Int32) (s : zS) : Option ((Unit × zS) ⊕ (zS)) := if 3000 ≤ v1 then some (.inr (s)) else if zga v1 (zlen 42) = true then if zga (3000 + v1) (zlen 42) = true then rec (v1 + 1) (zsr s 42 (3000 + v1) (s.2.1 42 v1.toNatClampNeg)) else none else none
noncomputable def fX10_keep_L184 (N : Nat)  (n : Nat) : Int32 → zS → Option ((Unit × zS) ⊕ (zS)) := Nat.rec (motive := fun _ => Int32 → zS → Option ((Unit × zS) ⊕ (zS))) (fun _ _ => none) (fun _ rec => fX10_keep_L184S N  rec) n
set_option maxHeartbeats 400000 in
set_option maxRecDepth 100000 in
theorem tX10_keep_L184 {g : zGl} (hok : zGok g) (d : Nat)  (N : Nat)   {mc ms n0 : Nat} {Q : zO → List zE → Prop} (n : Nat) : ∀ (v1 : Int32) (s : zS) (r : (Unit × zS) ⊕ (zS)) (hf : fX10_keep_L184 N  n v1 s = some r) (k1 : ∀ w s', r = .inl (w, s') → Q (.inl none) (zHp s')) (k2 : ∀  (s' : zS), r = .inr (s') → zW g mX10_keep d mc ms n0 Q 0 0 (zHp s') [some (.ref 33), none] [] 213), zW g mX10_keep d mc ms n0 Q 0 0 (zHp s) [some (.ref 33), some (.int v1)] [] 184 := by
  induction n with
  | zero => intro v1 s r hf; cases hf
  | succ n ih =>
    intro v1 s r hf k1 k2
    have hrec : ∀ (v1 : Int32) (s : zS) (r1 : (Unit × zS) ⊕ (zS)), fX10_keep_L184 N  n v1 s = some r1 → r1 = r → zW g mX10_keep d mc ms n0 Q 0 0 (zHp s) [some (.ref 33), some (.int v1)] [] 184 := fun v1 s r1 h e => ih v1 s r1 h (by subst e; exact k1) (by subst e; exact k2)
    have hrec : ∀ (v1 : Int32) (s : zS), fX10_keep_L184 N  n v1 s = some r → zW g mX10_keep d mc ms n0 Q 0 0 (zHp s) [some (.ref 33), some (.int v1)] [] 184 := fun v1 s h => hrec v1 s r h rfl
    have hf : fX10_keep_L184S N  (fX10_keep_L184 N  n) v1 s = some r := hf
    unfold fX10_keep_L184S at hf
    refine z_iload_n dX10_keep_184 rfl ?_
    refine z_sipush 3000 dX10_keep_185 (by decide +kernel) ?_
    refine z_icmp_ge 213 dX10_keep_188 (by decide) (fun c188 => ?_) (fun c188 => ?_)
    · have hf := zifp hf c188
      cases hf
      refine z_mask (ls' := [_, _]) [true, false] rfl ?_
      exact k2  _ rfl
    · have hf := zifn hf c188
      refine z_aload_n dX10_keep_191 rfl ?_
      refine z_getf dX10_keep_192 fX10_34 (at_Model s) rfl ?_
      refine z_sipush 3000 dX10_keep_195 (by decide +kernel) ?_
      refine z_iload_n dX10_keep_198 rfl ?_
      refine z_iadd dX10_keep_199 ?_
      refine z_aload_n dX10_keep_200 rfl ?_
      refine z_getf dX10_keep_201 fX10_34 (at_Model s) rfl ?_
      refine z_iload_n dX10_keep_204 rfl ?_
      obtain ⟨hi37, hf⟩ := zifs hf
      refine z_iald dX10_keep_205 (at_arr s 42 (by decide)) (zga_in hi37) ?_
      obtain ⟨hi38, hf⟩ := zifs hf
      refine z_iastore dX10_keep_206 (at_arr s 42 (by decide)) (zga_in hi38) (st_arr s 42 (by decide) (3000 + v1) (s.2.1 42 v1.toNatClampNeg)) ?_
      refine z_iinc (ls' := [_, _]) (v1 + 1) dX10_keep_207 rfl rfl (by decide) rfl ?_
      refine z_goto 184 dX10_keep_210 (by decide) ?_
      refine z_mask (ls' := [_, _]) [true, true] rfl ?_
      exact hrec (v1 + 1) (zsr s 42 (3000 + v1) (s.2.1 42 v1.toNatClampNeg)) hf
noncomputable def fX10_keep_L215S (N : Nat)  (rec : Int32 → zS → Option ((Unit × zS) ⊕ (zS))) (v1 : Int32) (s : zS) : Option ((Unit × zS) ⊕ (zS)) := if 800 ≤ v1 then some (.inr (s)) else if zga v1 (zlen 49) = true then if zga (800 + v1) (zlen 49) = true then rec (v1 + 1) (zsr s 49 (800 + v1) (s.2.1 49 v1.toNatClampNeg)) else none else none
noncomputable def fX10_keep_L215 (N : Nat)  (n : Nat) : Int32 → zS → Option ((Unit × zS) ⊕ (zS)) := Nat.rec (motive := fun _ => Int32 → zS → Option ((Unit × zS) ⊕ (zS))) (fun _ _ => none) (fun _ rec => fX10_keep_L215S N  rec) n
set_option maxHeartbeats 400000 in
set_option maxRecDepth 100000 in
theorem tX10_keep_L215 {g : zGl} (hok : zGok g) (d : Nat)  (N : Nat)   {mc ms n0 : Nat} {Q : zO → List zE → Prop} (n : Nat) : ∀ (v1 : Int32) (s : zS) (r : (Unit × zS) ⊕ (zS)) (hf : fX10_keep_L215 N  n v1 s = some r) (k1 : ∀ w s', r = .inl (w, s') → Q (.inl none) (zHp s')) (k2 : ∀  (s' : zS), r = .inr (s') → zW g mX10_keep d mc ms n0 Q 0 0 (zHp s') [some (.ref 33), none] [] 244), zW g mX10_keep d mc ms n0 Q 0 0 (zHp s) [some (.ref 33), some (.int v1)] [] 215 := by
  induction n with
  | zero => intro v1 s r hf; cases hf
  | succ n ih =>
    intro v1 s r hf k1 k2
    have hrec : ∀ (v1 : Int32) (s : zS) (r1 : (Unit × zS) ⊕ (zS)), fX10_keep_L215 N  n v1 s = some r1 → r1 = r → zW g mX10_keep d mc ms n0 Q 0 0 (zHp s) [some (.ref 33), some (.int v1)] [] 215 := fun v1 s r1 h e => ih v1 s r1 h (by subst e; exact k1) (by subst e; exact k2)
    have hrec : ∀ (v1 : Int32) (s : zS), fX10_keep_L215 N  n v1 s = some r → zW g mX10_keep d mc ms n0 Q 0 0 (zHp s) [some (.ref 33), some (.int v1)] [] 215 := fun v1 s h => hrec v1 s r h rfl
    have hf : fX10_keep_L215S N  (fX10_keep_L215 N  n) v1 s = some r := hf
    unfold fX10_keep_L215S at hf
    refine z_iload_n dX10_keep_215 rfl ?_
    refine z_sipush 800 dX10_keep_216 (by decide +kernel) ?_
    refine z_icmp_ge 244 dX10_keep_219 (by decide) (fun c219 => ?_) (fun c219 => ?_)
    · have hf := zifp hf c219
      cases hf
      refine z_mask (ls' := [_, _]) [true, false] rfl ?_
      exact k2  _ rfl
    · have hf := zifn hf c219
      refine z_aload_n dX10_keep_222 rfl ?_
      refine z_getf dX10_keep_223 fX10_59 (at_Model s) rfl ?_
      refine z_sipush 800 dX10_keep_226 (by decide +kernel) ?_
      refine z_iload_n dX10_keep_229 rfl ?_
      refine z_iadd dX10_keep_230 ?_
      refine z_aload_n dX10_keep_231 rfl ?_
      refine z_getf dX10_keep_232 fX10_59 (at_Model s) rfl ?_
      refine z_iload_n dX10_keep_235 rfl ?_
      obtain ⟨hi43, hf⟩ := zifs hf
      refine z_iald dX10_keep_236 (at_arr s 49 (by decide)) (zga_in hi43) ?_
      obtain ⟨hi44, hf⟩ := zifs hf
      refine z_iastore dX10_keep_237 (at_arr s 49 (by decide)) (zga_in hi44) (st_arr s 49 (by decide) (800 + v1) (s.2.1 49 v1.toNatClampNeg)) ?_
      refine z_iinc (ls' := [_, _]) (v1 + 1) dX10_keep_238 rfl rfl (by decide) rfl ?_
      refine z_goto 215 dX10_keep_241 (by decide) ?_
      refine z_mask (ls' := [_, _]) [true, true] rfl ?_
      exact hrec (v1 + 1) (zsr s 49 (800 + v1) (s.2.1 49 v1.toNatClampNeg)) hf
noncomputable def fX10_keep (N : Nat)  (s : zS) : Option (Unit × zS) := zbl (fX10_keep_L2 N  N 0 s) (fun x => some x) (fun s6 => zbl (fX10_keep_L29 N  N 0 s6) (fun x => some x) (fun s12 => zbl (fX10_keep_L60 N  N 0 s12) (fun x => some x) (fun s18 => zbl (fX10_keep_L91 N  N 0 s18) (fun x => some x) (fun s24 => zbl (fX10_keep_L122 N  N 0 s24) (fun x => some x) (fun s30 => zbl (fX10_keep_L153 N  N 0 s30) (fun x => some x) (fun s36 => zbl (fX10_keep_L184 N  N 0 s36) (fun x => some x) (fun s42 => zbl (fX10_keep_L215 N  N 0 s42) (fun x => some x) (fun s48 => some ((), s48)))))))))
set_option maxHeartbeats 400000 in
set_option maxRecDepth 100000 in
theorem tX10_keep {g : zGl} (hok : zGok g) (d : Nat)  (N : Nat)   {s s' : zS} {w : Unit} (hf : fX10_keep N  s = some (w, s')) : zMet g mX10_keep d 0 0 [.ref 33] (zHp s) (zret none (zHp s')) := by
  refine zMet.ofW (by decide +kernel) (Nat.le_of_ble_eq_true rfl) ?_
  show zW g mX10_keep d 0 0 51 _ 0 0 (zHp s) [some (.ref 33), none] [] 0
  unfold fX10_keep at hf
  refine z_iconst 0 dX10_keep_0 (by decide +kernel) ?_
  refine z_istore_n (ls' := [_, _]) dX10_keep_1 (by decide) rfl ?_
  refine z_mask (ls' := [_, _]) [true, true] rfl ?_
  rcases zbl_of hf with ⟨lr4, le5, hf⟩ | ⟨lr4, le5, hf⟩
  · cases hf
    exact tX10_keep_L2 hok d N   N 0 s _ le5 (fun w1 s1 hh => by cases hh; exact ⟨rfl, rfl⟩) (fun  _ hh => by cases hh)
  · obtain ⟨s6, rfl⟩ : ∃ z, z = lr4 := ⟨_, rfl⟩
    refine tX10_keep_L2 hok d N   N 0 s _ le5 (fun w1 s1 hh => by cases hh) (fun  _ hh => ?_)
    cases hh
    refine z_iconst 0 dX10_keep_27 (by decide +kernel) ?_
    refine z_istore_n (ls' := [_, _]) dX10_keep_28 (by decide) rfl ?_
    refine z_mask (ls' := [_, _]) [true, true] rfl ?_
    rcases zbl_of hf with ⟨lr10, le11, hf⟩ | ⟨lr10, le11, hf⟩
    · cases hf
      exact tX10_keep_L29 hok d N   N 0 s6 _ le11 (fun w1 s1 hh => by cases hh; exact ⟨rfl, rfl⟩) (fun  _ hh => by cases hh)
    · obtain ⟨s12, rfl⟩ : ∃ z, z = lr10 := ⟨_, rfl⟩
      refine tX10_keep_L29 hok d N   N 0 s6 _ le11 (fun w1 s1 hh => by cases hh) (fun  _ hh => ?_)
      cases hh
      refine z_iconst 0 dX10_keep_58 (by decide +kernel) ?_
      refine z_istore_n (ls' := [_, _]) dX10_keep_59 (by decide) rfl ?_
      refine z_mask (ls' := [_, _]) [true, true] rfl ?_
      rcases zbl_of hf with ⟨lr16, le17, hf⟩ | ⟨lr16, le17, hf⟩
      · cases hf
        exact tX10_keep_L60 hok d N   N 0 s12 _ le17 (fun w1 s1 hh => by cases hh; exact ⟨rfl, rfl⟩) (fun  _ hh => by cases hh)
      · obtain ⟨s18, rfl⟩ : ∃ z, z = lr16 := ⟨_, rfl⟩
        refine tX10_keep_L60 hok d N   N 0 s12 _ le17 (fun w1 s1 hh => by cases hh) (fun  _ hh => ?_)
        cases hh
        refine z_iconst 0 dX10_keep_89 (by decide +kernel) ?_
        refine z_istore_n (ls' := [_, _]) dX10_keep_90 (by decide) rfl ?_
        refine z_mask (ls' := [_, _]) [true, true] rfl ?_
        rcases zbl_of hf with ⟨lr22, le23, hf⟩ | ⟨lr22, le23, hf⟩
        · cases hf
          exact tX10_keep_L91 hok d N   N 0 s18 _ le23 (fun w1 s1 hh => by cases hh; exact ⟨rfl, rfl⟩) (fun  _ hh => by cases hh)
        · obtain ⟨s24, rfl⟩ : ∃ z, z = lr22 := ⟨_, rfl⟩
          refine tX10_keep_L91 hok d N   N 0 s18 _ le23 (fun w1 s1 hh => by cases hh) (fun  _ hh => ?_)
          cases hh
          refine z_iconst 0 dX10_keep_120 (by decide +kernel) ?_
          refine z_istore_n (ls' := [_, _]) dX10_keep_121 (by decide) rfl ?_
          refine z_mask (ls' := [_, _]) [true, true] rfl ?_
          rcases zbl_of hf with ⟨lr28, le29, hf⟩ | ⟨lr28, le29, hf⟩
          · cases hf
            exact tX10_keep_L122 hok d N   N 0 s24 _ le29 (fun w1 s1 hh => by cases hh; exact ⟨rfl, rfl⟩) (fun  _ hh => by cases hh)
          · obtain ⟨s30, rfl⟩ : ∃ z, z = lr28 := ⟨_, rfl⟩
            refine tX10_keep_L122 hok d N   N 0 s24 _ le29 (fun w1 s1 hh => by cases hh) (fun  _ hh => ?_)
            cases hh
            refine z_iconst 0 dX10_keep_151 (by decide +kernel) ?_
            refine z_istore_n (ls' := [_, _]) dX10_keep_152 (by decide) rfl ?_
            refine z_mask (ls' := [_, _]) [true, true] rfl ?_
            rcases zbl_of hf with ⟨lr34, le35, hf⟩ | ⟨lr34, le35, hf⟩
            · cases hf
              exact tX10_keep_L153 hok d N   N 0 s30 _ le35 (fun w1 s1 hh => by cases hh; exact ⟨rfl, rfl⟩) (fun  _ hh => by cases hh)
            · obtain ⟨s36, rfl⟩ : ∃ z, z = lr34 := ⟨_, rfl⟩
              refine tX10_keep_L153 hok d N   N 0 s30 _ le35 (fun w1 s1 hh => by cases hh) (fun  _ hh => ?_)
              cases hh
              refine z_iconst 0 dX10_keep_182 (by decide +kernel) ?_
              refine z_istore_n (ls' := [_, _]) dX10_keep_183 (by decide) rfl ?_
              refine z_mask (ls' := [_, _]) [true, true] rfl ?_
              rcases zbl_of hf with ⟨lr40, le41, hf⟩ | ⟨lr40, le41, hf⟩
              · cases hf
                exact tX10_keep_L184 hok d N   N 0 s36 _ le41 (fun w1 s1 hh => by cases hh; exact ⟨rfl, rfl⟩) (fun  _ hh => by cases hh)
              · obtain ⟨s42, rfl⟩ : ∃ z, z = lr40 := ⟨_, rfl⟩
                refine tX10_keep_L184 hok d N   N 0 s36 _ le41 (fun w1 s1 hh => by cases hh) (fun  _ hh => ?_)
                cases hh
                refine z_iconst 0 dX10_keep_213 (by decide +kernel) ?_
                refine z_istore_n (ls' := [_, _]) dX10_keep_214 (by decide) rfl ?_
                refine z_mask (ls' := [_, _]) [true, true] rfl ?_
                rcases zbl_of hf with ⟨lr46, le47, hf⟩ | ⟨lr46, le47, hf⟩
                · cases hf
                  exact tX10_keep_L215 hok d N   N 0 s42 _ le47 (fun w1 s1 hh => by cases hh; exact ⟨rfl, rfl⟩) (fun  _ hh => by cases hh)
                · obtain ⟨s48, rfl⟩ : ∃ z, z = lr46 := ⟨_, rfl⟩
                  refine tX10_keep_L215 hok d N   N 0 s42 _ le47 (fun w1 s1 hh => by cases hh) (fun  _ hh => ?_)
                  cases hh
                  cases hf
                  exact z_vret rfl dX10_keep_244 (Nat.zero_le _) (Nat.zero_le _) ⟨rfl, rfl⟩

