noncomputable def fX10_name (N : Nat) (p0 : Int32) (p1 : Int32) (s : zS) : Option (Int32 × zS) := if p0 < 0 then some ((-1), (zsc s 3300 0)) else if zga 7 (zlen 36) = true then if (s.2.1 36 (7 : Int32).toNatClampNeg) ≤ p0 then some ((-1), (zsc s 3300 0)) else if p1 < 0 then some ((-1), (zsc s 3300 0)) else if zga (150 + p0) (zlen 41) = true then if (s.2.1 41 (150 + p0).toNatClampNeg) ≤ p1 then some ((-1), (zsc s 3300 0)) else if zga ((2400 + (16 * p0)) + p1) (zlen 40) = true then some (s.2.1 40 ((2400 + (16 * p0)) + p1).toNatClampNeg, (zsc s 3300 0)) else none else none else none
set_option maxHeartbeats 400000 in
set_option maxRecDepth 100000 in
theorem tX10_name {g : zGl} (hok : zGok g) (d : Nat)  (N : Nat) (p0 : Int32) (p1 : Int32)  {s s' : zS} {w : Int32} (hf : fX10_name N p0 p1 s = some (w, s')) : zMet g mX10_name d 0 0 [.ref 33, .int p0, .int p1] (zHp s) (zret (some (.int w)) (zHp s')) := by
  refine zMet.ofW (by decide +kernel) (Nat.le_of_ble_eq_true rfl) ?_
  show zW g mX10_name d 0 0 51 _ 0 0 (zHp s) [some (.ref 33), some (.int p0), some (.int p1)] [] 0
  unfold fX10_name at hf
  refine z_aload_n dX10_name_0 rfl ?_
  refine z_iconst 0 dX10_name_1 (by decide +kernel) ?_
  refine z_putf dX10_name_2 fX10_62 wX10_0 (at_Model s) (Nat.le_of_ble_eq_true rfl) (fun _ => rfl) (fun _ => rfl) (st_Model_0 s 0) ?_
  refine z_iload_n dX10_name_5 rfl ?_
  refine z_if_lt 56 dX10_name_6 (by decide) (fun c6 => ?_) (fun c6 => ?_)
  · have hf := zifp hf c6
    refine z_iconst (-1) dX10_name_56 (by decide +kernel) ?_
    cases hf
    exact z_iret rfl dX10_name_57 (Nat.zero_le _) (Nat.zero_le _) ⟨rfl, rfl⟩
  · have hf := zifn hf c6
    refine z_iload_n dX10_name_9 rfl ?_
    refine z_aload_n dX10_name_10 rfl ?_
    refine z_getf dX10_name_11 fX10_16 (at_Model (zsc s 3300 0)) rfl ?_
    refine z_bipush 7 dX10_name_14 (by decide +kernel) ?_
    obtain ⟨hi1, hf⟩ := zifs hf
    refine z_iald dX10_name_16 (at_arr (zsc s 3300 0) 36 (by decide)) (zga_in hi1) ?_
    refine z_icmp_ge 56 dX10_name_17 (by decide) (fun c17 => ?_) (fun c17 => ?_)
    · have hf := zifp hf c17
      refine z_iconst (-1) dX10_name_56 (by decide +kernel) ?_
      cases hf
      exact z_iret rfl dX10_name_57 (Nat.zero_le _) (Nat.zero_le _) ⟨rfl, rfl⟩
    · have hf := zifn hf c17
      refine z_iload_n dX10_name_20 rfl ?_
      refine z_if_lt 56 dX10_name_21 (by decide) (fun c21 => ?_) (fun c21 => ?_)
      · have hf := zifp hf c21
        refine z_iconst (-1) dX10_name_56 (by decide +kernel) ?_
        cases hf
        exact z_iret rfl dX10_name_57 (Nat.zero_le _) (Nat.zero_le _) ⟨rfl, rfl⟩
      · have hf := zifn hf c21
        refine z_iload_n dX10_name_24 rfl ?_
        refine z_aload_n dX10_name_25 rfl ?_
        refine z_getf dX10_name_26 fX10_31 (at_Model (zsc s 3300 0)) rfl ?_
        refine z_sipush 150 dX10_name_29 (by decide +kernel) ?_
        refine z_iload_n dX10_name_32 rfl ?_
        refine z_iadd dX10_name_33 ?_
        obtain ⟨hi2, hf⟩ := zifs hf
        refine z_iald dX10_name_34 (at_arr (zsc s 3300 0) 41 (by decide)) (zga_in hi2) ?_
        refine z_icmp_ge 56 dX10_name_35 (by decide) (fun c35 => ?_) (fun c35 => ?_)
        · have hf := zifp hf c35
          refine z_iconst (-1) dX10_name_56 (by decide +kernel) ?_
          cases hf
          exact z_iret rfl dX10_name_57 (Nat.zero_le _) (Nat.zero_le _) ⟨rfl, rfl⟩
        · have hf := zifn hf c35
          refine z_aload_n dX10_name_38 rfl ?_
          refine z_getf dX10_name_39 fX10_28 (at_Model (zsc s 3300 0)) rfl ?_
          refine z_sipush 2400 dX10_name_42 (by decide +kernel) ?_
          refine z_bipush 16 dX10_name_45 (by decide +kernel) ?_
          refine z_iload_n dX10_name_47 rfl ?_
          refine z_imul dX10_name_48 ?_
          refine z_iadd dX10_name_49 ?_
          refine z_iload_n dX10_name_50 rfl ?_
          refine z_iadd dX10_name_51 ?_
          obtain ⟨hi3, hf⟩ := zifs hf
          refine z_iald dX10_name_52 (at_arr (zsc s 3300 0) 40 (by decide)) (zga_in hi3) ?_
          refine z_goto 57 dX10_name_53 (by decide) ?_
          cases hf
          exact z_iret rfl dX10_name_57 (Nat.zero_le _) (Nat.zero_le _) ⟨rfl, rfl⟩

noncomputable def fX10_string (N : Nat) (p0 : Int32) (p1 : Int32) (s : zS) : Option (Int32 × zS) := if p0 < 0 then some ((-1), (zsc s 3300 0)) else if zga 5 (zlen 36) = true then if (s.2.1 36 (5 : Int32).toNatClampNeg) ≤ p0 then some ((-1), (zsc s 3300 0)) else if p1 < 0 then some ((-1), (zsc s 3300 0)) else if zga ((5600 + (7 * p0)) + 6) (zlen 38) = true then if p1 < (s.2.1 38 ((5600 + (7 * p0)) + 6).toNatClampNeg) then if zga (800 + p0) (zlen 49) = true then if zga ((3000 + (s.2.1 49 (800 + p0).toNatClampNeg)) + p1) (zlen 42) = true then some (s.2.1 42 ((3000 + (s.2.1 49 (800 + p0).toNatClampNeg)) + p1).toNatClampNeg, (zsc s 3300 0)) else none else none else some ((-1), (zsc s 3300 0)) else none else none
set_option maxHeartbeats 400000 in
set_option maxRecDepth 100000 in
theorem tX10_string {g : zGl} (hok : zGok g) (d : Nat)  (N : Nat) (p0 : Int32) (p1 : Int32)  {s s' : zS} {w : Int32} (hf : fX10_string N p0 p1 s = some (w, s')) : zMet g mX10_string d 0 0 [.ref 33, .int p0, .int p1] (zHp s) (zret (some (.int w)) (zHp s')) := by
  refine zMet.ofW (by decide +kernel) (Nat.le_of_ble_eq_true rfl) ?_
  show zW g mX10_string d 0 0 51 _ 0 0 (zHp s) [some (.ref 33), some (.int p0), some (.int p1)] [] 0
  unfold fX10_string at hf
  refine z_aload_n dX10_string_0 rfl ?_
  refine z_iconst 0 dX10_string_1 (by decide +kernel) ?_
  refine z_putf dX10_string_2 fX10_62 wX10_0 (at_Model s) (Nat.le_of_ble_eq_true rfl) (fun _ => rfl) (fun _ => rfl) (st_Model_0 s 0) ?_
  refine z_iload_n dX10_string_5 rfl ?_
  refine z_if_lt 43 dX10_string_6 (by decide) (fun c6 => ?_) (fun c6 => ?_)
  · have hf := zifp hf c6
    refine z_iconst (-1) dX10_string_43 (by decide +kernel) ?_
    cases hf
    exact z_iret rfl dX10_string_44 (Nat.zero_le _) (Nat.zero_le _) ⟨rfl, rfl⟩
  · have hf := zifn hf c6
    refine z_iload_n dX10_string_9 rfl ?_
    refine z_aload_n dX10_string_10 rfl ?_
    refine z_getf dX10_string_11 fX10_16 (at_Model (zsc s 3300 0)) rfl ?_
    refine z_iconst 5 dX10_string_14 (by decide +kernel) ?_
    obtain ⟨hi1, hf⟩ := zifs hf
    refine z_iald dX10_string_15 (at_arr (zsc s 3300 0) 36 (by decide)) (zga_in hi1) ?_
    refine z_icmp_ge 43 dX10_string_16 (by decide) (fun c16 => ?_) (fun c16 => ?_)
    · have hf := zifp hf c16
      refine z_iconst (-1) dX10_string_43 (by decide +kernel) ?_
      cases hf
      exact z_iret rfl dX10_string_44 (Nat.zero_le _) (Nat.zero_le _) ⟨rfl, rfl⟩
    · have hf := zifn hf c16
      refine z_iload_n dX10_string_19 rfl ?_
      refine z_if_lt 43 dX10_string_20 (by decide) (fun c20 => ?_) (fun c20 => ?_)
      · have hf := zifp hf c20
        refine z_iconst (-1) dX10_string_43 (by decide +kernel) ?_
        cases hf
        exact z_iret rfl dX10_string_44 (Nat.zero_le _) (Nat.zero_le _) ⟨rfl, rfl⟩
      · have hf := zifn hf c20
        refine z_iload_n dX10_string_23 rfl ?_
        refine z_aload_n dX10_string_24 rfl ?_
        refine z_getf dX10_string_25 fX10_22 (at_Model (zsc s 3300 0)) rfl ?_
        refine z_sipush 5600 dX10_string_28 (by decide +kernel) ?_
        refine z_bipush 7 dX10_string_31 (by decide +kernel) ?_
        refine z_iload_n dX10_string_33 rfl ?_
        refine z_imul dX10_string_34 ?_
        refine z_iadd dX10_string_35 ?_
        refine z_bipush 6 dX10_string_36 (by decide +kernel) ?_
        refine z_iadd dX10_string_38 ?_
        obtain ⟨hi2, hf⟩ := zifs hf
        refine z_iald dX10_string_39 (at_arr (zsc s 3300 0) 38 (by decide)) (zga_in hi2) ?_
        refine z_icmp_lt 45 dX10_string_40 (by decide) (fun c40 => ?_) (fun c40 => ?_)
        · have hf := zifp hf c40
          refine z_aload_n dX10_string_45 rfl ?_
          refine z_getf dX10_string_46 fX10_34 (at_Model (zsc s 3300 0)) rfl ?_
          refine z_sipush 3000 dX10_string_49 (by decide +kernel) ?_
          refine z_aload_n dX10_string_52 rfl ?_
          refine z_getf dX10_string_53 fX10_59 (at_Model (zsc s 3300 0)) rfl ?_
          refine z_sipush 800 dX10_string_56 (by decide +kernel) ?_
          refine z_iload_n dX10_string_59 rfl ?_
          refine z_iadd dX10_string_60 ?_
          obtain ⟨hi3, hf⟩ := zifs hf
          refine z_iald dX10_string_61 (at_arr (zsc s 3300 0) 49 (by decide)) (zga_in hi3) ?_
          refine z_iadd dX10_string_62 ?_
          refine z_iload_n dX10_string_63 rfl ?_
          refine z_iadd dX10_string_64 ?_
          obtain ⟨hi4, hf⟩ := zifs hf
          refine z_iald dX10_string_65 (at_arr (zsc s 3300 0) 42 (by decide)) (zga_in hi4) ?_
          cases hf
          exact z_iret rfl dX10_string_66 (Nat.zero_le _) (Nat.zero_le _) ⟨rfl, rfl⟩
        · have hf := zifn hf c40
          refine z_iconst (-1) dX10_string_43 (by decide +kernel) ?_
          cases hf
          exact z_iret rfl dX10_string_44 (Nat.zero_le _) (Nat.zero_le _) ⟨rfl, rfl⟩

noncomputable def fX10_find_J30 (N : Nat) (p0 : Int64) (p1 : Int64) (rec : Int32 → Int32 → zS → Option ((Int32 × zS) ⊕ (Int32 × zS))) (v5 : Int32) (v6 : Int32) (k0 : Int64) (s : zS) : Option ((Int32 × zS) ⊕ (Int32 × zS)) := if (((k0 >>> ((56 - (8 * (v6 - v6 / 8 * 8))).toInt64 &&& 63)) &&& 255).toInt32) = 0 then rec v5 (v6 + 1) s else if zga v5 (zlen 47) = true then rec (v5 + 1) (v6 + 1) (zsr s 47 v5 (((k0 >>> ((56 - (8 * (v6 - v6 / 8 * 8))).toInt64 &&& 63)) &&& 255).toInt32)) else none
set_option maxHeartbeats 400000 in
set_option maxRecDepth 100000 in
theorem tX10_find_J30 {g : zGl} (hok : zGok g) (d : Nat)  (N : Nat) (p0 : Int64) (p1 : Int64)  {mc ms n0 : Nat} {Q : zO → List zE → Prop} (rec : Int32 → Int32 → zS → Option ((Int32 × zS) ⊕ (Int32 × zS))) (r : (Int32 × zS) ⊕ (Int32 × zS)) (k1 : ∀ w s', r = .inl (w, s') → Q (.inl (some (.int w))) (zHp s')) (k2 : ∀ (y5 : Int32) (s' : zS), r = .inr (y5, s') → zW g mX10_find d mc ms n0 Q 0 0 (zHp s') [some (.ref 33), some (.long p0), none, some (.long p1), none, some (.int y5), none, none, none] [] 75) (hrec : ∀ (v5 : Int32) (v6 : Int32) (s : zS), rec v5 v6 s = some r → zW g mX10_find d mc ms n0 Q 0 0 (zHp s) [some (.ref 33), some (.long p0), none, some (.long p1), none, some (.int v5), some (.int v6), none, none] [] 11) (v5 : Int32) (v6 : Int32) (k0 : Int64) (s : zS) (hf : fX10_find_J30 N p0 p1 rec v5 v6 k0 s = some r) : zW g mX10_find d mc ms n0 Q 0 0 (zHp s) [some (.ref 33), some (.long p0), none, some (.long p1), none, some (.int v5), some (.int v6), none, none] [.long k0] 30 := by
  unfold fX10_find_J30 at hf
  refine z_bipush 56 dX10_find_30 (by decide +kernel) ?_
  refine z_bipush 8 dX10_find_32 (by decide +kernel) ?_
  refine z_iload dX10_find_34 rfl ?_
  refine z_bipush 8 dX10_find_36 (by decide +kernel) ?_
  refine z_irem dX10_find_38 (by decide) ?_
  refine z_imul dX10_find_39 ?_
  refine z_isub dX10_find_40 ?_
  refine z_lshr dX10_find_41 ?_
  refine z_ldc2 dX10_find_42 lX10_247 ?_
  refine z_land dX10_find_45 ?_
  refine z_l2i dX10_find_46 ?_
  refine z_istore (ls' := [_, _, _, _, _, _, _, _, _]) dX10_find_47 (by decide) rfl ?_
  refine z_iload dX10_find_49 rfl ?_
  refine z_if_ne 57 dX10_find_51 (by decide) (fun c51 => ?_) (fun c51 => ?_)
  · have hf := zifn hf c51
    refine z_aload_n dX10_find_57 rfl ?_
    refine z_getf dX10_find_58 fX10_53 (at_Model s) rfl ?_
    refine z_iload dX10_find_61 rfl ?_
    refine z_iload dX10_find_63 rfl ?_
    obtain ⟨hi2, hf⟩ := zifs hf
    refine z_iastore dX10_find_65 (at_arr s 47 (by decide)) (zga_in hi2) (st_arr s 47 (by decide) v5 (((k0 >>> ((56 - (8 * (v6 - v6 / 8 * 8))).toInt64 &&& 63)) &&& 255).toInt32)) ?_
    refine z_iinc (ls' := [_, _, _, _, _, _, _, _, _]) (v5 + 1) dX10_find_66 rfl rfl (by decide) rfl ?_
    refine z_iinc (ls' := [_, _, _, _, _, _, _, _, _]) (v6 + 1) dX10_find_69 rfl rfl (by decide) rfl ?_
    refine z_goto 11 dX10_find_72 (by decide) ?_
    refine z_mask (ls' := [_, _, _, _, _, _, _, _, _]) [true, true, false, true, false, true, true, false, false] rfl ?_
    exact hrec (v5 + 1) (v6 + 1) (zsr s 47 v5 (((k0 >>> ((56 - (8 * (v6 - v6 / 8 * 8))).toInt64 &&& 63)) &&& 255).toInt32)) hf
  · have hf := zifp hf c51
    refine z_goto 69 dX10_find_54 (by decide) ?_
    refine z_iinc (ls' := [_, _, _, _, _, _, _, _, _]) (v6 + 1) dX10_find_69 rfl rfl (by decide) rfl ?_
    refine z_goto 11 dX10_find_72 (by decide) ?_
    refine z_mask (ls' := [_, _, _, _, _, _, _, _, _]) [true, true, false, true, false, true, true, false, false] rfl ?_
    exact hrec v5 (v6 + 1) s hf
noncomputable def fX10_find_L11S (N : Nat) (p0 : Int64) (p1 : Int64) (rec : Int32 → Int32 → zS → Option ((Int32 × zS) ⊕ (Int32 × zS))) (v5 : Int32) (v6 : Int32) (s : zS) : Option ((Int32 × zS) ⊕ (Int32 × zS)) := if 16 ≤ v6 then some (.inr (v5, s)) else if 8 ≤ v6 then fX10_find_J30 N p0 p1 rec v5 v6 p1 s else fX10_find_J30 N p0 p1 rec v5 v6 p0 s
noncomputable def fX10_find_L11 (N : Nat) (p0 : Int64) (p1 : Int64) (n : Nat) : Int32 → Int32 → zS → Option ((Int32 × zS) ⊕ (Int32 × zS)) := Nat.rec (motive := fun _ => Int32 → Int32 → zS → Option ((Int32 × zS) ⊕ (Int32 × zS))) (fun _ _ _ => none) (fun _ rec => fX10_find_L11S N p0 p1 rec) n
set_option maxHeartbeats 400000 in
set_option maxRecDepth 100000 in
theorem tX10_find_L11 {g : zGl} (hok : zGok g) (d : Nat)  (N : Nat) (p0 : Int64) (p1 : Int64)  {mc ms n0 : Nat} {Q : zO → List zE → Prop} (n : Nat) : ∀ (v5 : Int32) (v6 : Int32) (s : zS) (r : (Int32 × zS) ⊕ (Int32 × zS)) (hf : fX10_find_L11 N p0 p1 n v5 v6 s = some r) (k1 : ∀ w s', r = .inl (w, s') → Q (.inl (some (.int w))) (zHp s')) (k2 : ∀ (y5 : Int32) (s' : zS), r = .inr (y5, s') → zW g mX10_find d mc ms n0 Q 0 0 (zHp s') [some (.ref 33), some (.long p0), none, some (.long p1), none, some (.int y5), none, none, none] [] 75), zW g mX10_find d mc ms n0 Q 0 0 (zHp s) [some (.ref 33), some (.long p0), none, some (.long p1), none, some (.int v5), some (.int v6), none, none] [] 11 := by
  induction n with
  | zero => intro v5 v6 s r hf; cases hf
  | succ n ih =>
    intro v5 v6 s r hf k1 k2
    have hrec : ∀ (v5 : Int32) (v6 : Int32) (s : zS) (r1 : (Int32 × zS) ⊕ (Int32 × zS)), fX10_find_L11 N p0 p1 n v5 v6 s = some r1 → r1 = r → zW g mX10_find d mc ms n0 Q 0 0 (zHp s) [some (.ref 33), some (.long p0), none, some (.long p1), none, some (.int v5), some (.int v6), none, none] [] 11 := fun v5 v6 s r1 h e => ih v5 v6 s r1 h (by subst e; exact k1) (by subst e; exact k2)
    have hrec : ∀ (v5 : Int32) (v6 : Int32) (s : zS), fX10_find_L11 N p0 p1 n v5 v6 s = some r → zW g mX10_find d mc ms n0 Q 0 0 (zHp s) [some (.ref 33), some (.long p0), none, some (.long p1), none, some (.int v5), some (.int v6), none, none] [] 11 := fun v5 v6 s h => hrec v5 v6 s r h rfl
    have hf : fX10_find_L11S N p0 p1 (fX10_find_L11 N p0 p1 n) v5 v6 s = some r := hf
    unfold fX10_find_L11S at hf
    refine z_iload dX10_find_11 rfl ?_
    refine z_bipush 16 dX10_find_13 (by decide +kernel) ?_
    refine z_icmp_ge 75 dX10_find_15 (by decide) (fun c15 => ?_) (fun c15 => ?_)
    · have hf := zifp hf c15
      cases hf
      refine z_mask (ls' := [_, _, _, _, _, _, _, _, _]) [true, true, false, true, false, true, false, false, false] rfl ?_
      exact k2 _ _ rfl
    · have hf := zifn hf c15
      refine z_iload dX10_find_18 rfl ?_
      refine z_bipush 8 dX10_find_20 (by decide +kernel) ?_
      refine z_icmp_ge 29 dX10_find_22 (by decide) (fun c22 => ?_) (fun c22 => ?_)
      · have hf := zifp hf c22
        refine z_lload_n dX10_find_29 rfl ?_
        refine z_mask (ls' := [_, _, _, _, _, _, _, _, _]) [true, true, false, true, false, true, true, false, false] rfl ?_
        exact tX10_find_J30 hok d N p0 p1  _ r k1 k2 hrec v5 v6 p1 s hf
      · have hf := zifn hf c22
        refine z_lload_n dX10_find_25 rfl ?_
        refine z_goto 30 dX10_find_26 (by decide) ?_
        refine z_mask (ls' := [_, _, _, _, _, _, _, _, _]) [true, true, false, true, false, true, true, false, false] rfl ?_
        exact tX10_find_J30 hok d N p0 p1  _ r k1 k2 hrec v5 v6 p0 s hf
noncomputable def fX10_find_L116S (N : Nat) (p0 : Int64) (p1 : Int64) (rec : Int32 → Int32 → Int32 → Int32 → zS → Option ((Int32 × zS) ⊕ (Int32 × Int32 × Int32 × zS))) (v5 : Int32) (v6 : Int32) (v7 : Int32) (v8 : Int32) (s : zS) : Option ((Int32 × zS) ⊕ (Int32 × Int32 × Int32 × zS)) := if v5 ≤ v8 then some (.inr (v5, v6, v7, s)) else if v7 = 0 then some (.inr (v5, v6, v7, s)) else if zga ((2400 + (16 * v6)) + v8) (zlen 40) = true then if zga v8 (zlen 47) = true then if (s.2.1 40 ((2400 + (16 * v6)) + v8).toNatClampNeg) = (s.2.1 47 v8.toNatClampNeg) then rec v5 v6 1 (v8 + 1) s else rec v5 v6 0 (v8 + 1) s else none else none
noncomputable def fX10_find_L116 (N : Nat) (p0 : Int64) (p1 : Int64) (n : Nat) : Int32 → Int32 → Int32 → Int32 → zS → Option ((Int32 × zS) ⊕ (Int32 × Int32 × Int32 × zS)) := Nat.rec (motive := fun _ => Int32 → Int32 → Int32 → Int32 → zS → Option ((Int32 × zS) ⊕ (Int32 × Int32 × Int32 × zS))) (fun _ _ _ _ _ => none) (fun _ rec => fX10_find_L116S N p0 p1 rec) n
set_option maxHeartbeats 400000 in
set_option maxRecDepth 100000 in
theorem tX10_find_L116 {g : zGl} (hok : zGok g) (d : Nat)  (N : Nat) (p0 : Int64) (p1 : Int64)  {mc ms n0 : Nat} {Q : zO → List zE → Prop} (n : Nat) : ∀ (v5 : Int32) (v6 : Int32) (v7 : Int32) (v8 : Int32) (s : zS) (r : (Int32 × zS) ⊕ (Int32 × Int32 × Int32 × zS)) (hf : fX10_find_L116 N p0 p1 n v5 v6 v7 v8 s = some r) (k1 : ∀ w s', r = .inl (w, s') → Q (.inl (some (.int w))) (zHp s')) (k2 : ∀ (y5 : Int32) (y6 : Int32) (y7 : Int32) (s' : zS), r = .inr (y5, y6, y7, s') → zW g mX10_find d mc ms n0 Q 0 0 (zHp s') [some (.ref 33), some (.long p0), none, some (.long p1), none, some (.int y5), some (.int y6), some (.int y7), none] [] 168), zW g mX10_find d mc ms n0 Q 0 0 (zHp s) [some (.ref 33), some (.long p0), none, some (.long p1), none, some (.int v5), some (.int v6), some (.int v7), some (.int v8)] [] 116 := by
  induction n with
  | zero => intro v5 v6 v7 v8 s r hf; cases hf
  | succ n ih =>
    intro v5 v6 v7 v8 s r hf k1 k2
    have hrec : ∀ (v5 : Int32) (v6 : Int32) (v7 : Int32) (v8 : Int32) (s : zS) (r1 : (Int32 × zS) ⊕ (Int32 × Int32 × Int32 × zS)), fX10_find_L116 N p0 p1 n v5 v6 v7 v8 s = some r1 → r1 = r → zW g mX10_find d mc ms n0 Q 0 0 (zHp s) [some (.ref 33), some (.long p0), none, some (.long p1), none, some (.int v5), some (.int v6), some (.int v7), some (.int v8)] [] 116 := fun v5 v6 v7 v8 s r1 h e => ih v5 v6 v7 v8 s r1 h (by subst e; exact k1) (by subst e; exact k2)
    have hrec : ∀ (v5 : Int32) (v6 : Int32) (v7 : Int32) (v8 : Int32) (s : zS), fX10_find_L116 N p0 p1 n v5 v6 v7 v8 s = some r → zW g mX10_find d mc ms n0 Q 0 0 (zHp s) [some (.ref 33), some (.long p0), none, some (.long p1), none, some (.int v5), some (.int v6), some (.int v7), some (.int v8)] [] 116 := fun v5 v6 v7 v8 s h => hrec v5 v6 v7 v8 s r h rfl
    have hf : fX10_find_L116S N p0 p1 (fX10_find_L116 N p0 p1 n) v5 v6 v7 v8 s = some r := hf
    unfold fX10_find_L116S at hf
    refine z_iload dX10_find_116 rfl ?_
    refine z_iload dX10_find_118 rfl ?_
    refine z_icmp_ge 168 dX10_find_120 (by decide) (fun c120 => ?_) (fun c120 => ?_)
    · have hf := zifp hf c120
      cases hf
      refine z_mask (ls' := [_, _, _, _, _, _, _, _, _]) [true, true, false, true, false, true, true, true, false] rfl ?_
      exact k2 _ _ _ _ rfl
    · have hf := zifn hf c120
      refine z_iload dX10_find_123 rfl ?_
      refine z_if_eq 168 dX10_find_125 (by decide) (fun c125 => ?_) (fun c125 => ?_)
      · have hf := zifp hf c125
        cases hf
        refine z_mask (ls' := [_, _, _, _, _, _, _, _, _]) [true, true, false, true, false, true, true, true, false] rfl ?_
        exact k2 _ _ _ _ rfl
      · have hf := zifn hf c125
        refine z_aload_n dX10_find_128 rfl ?_
        refine z_getf dX10_find_129 fX10_28 (at_Model s) rfl ?_
        refine z_sipush 2400 dX10_find_132 (by decide +kernel) ?_
        refine z_bipush 16 dX10_find_135 (by decide +kernel) ?_
        refine z_iload dX10_find_137 rfl ?_
        refine z_imul dX10_find_139 ?_
        refine z_iadd dX10_find_140 ?_
        refine z_iload dX10_find_141 rfl ?_
        refine z_iadd dX10_find_143 ?_
        obtain ⟨hi10, hf⟩ := zifs hf
        refine z_iald dX10_find_144 (at_arr s 40 (by decide)) (zga_in hi10) ?_
        refine z_aload_n dX10_find_145 rfl ?_
        refine z_getf dX10_find_146 fX10_53 (at_Model s) rfl ?_
        refine z_iload dX10_find_149 rfl ?_
        obtain ⟨hi11, hf⟩ := zifs hf
        refine z_iald dX10_find_151 (at_arr s 47 (by decide)) (zga_in hi11) ?_
        refine z_icmp_ne 159 dX10_find_152 (by decide) (fun c152 => ?_) (fun c152 => ?_)
        · have hf := zifn hf c152
          refine z_iconst 0 dX10_find_159 (by decide +kernel) ?_
          refine z_istore (ls' := [_, _, _, _, _, _, _, _, _]) dX10_find_160 (by decide) rfl ?_
          refine z_iinc (ls' := [_, _, _, _, _, _, _, _, _]) (v8 + 1) dX10_find_162 rfl rfl (by decide) rfl ?_
          refine z_goto 116 dX10_find_165 (by decide) ?_
          refine z_mask (ls' := [_, _, _, _, _, _, _, _, _]) [true, true, false, true, false, true, true, true, true] rfl ?_
          exact hrec v5 v6 0 (v8 + 1) s hf
        · have hf := zifp hf c152
          refine z_iconst 1 dX10_find_155 (by decide +kernel) ?_
          refine z_goto 160 dX10_find_156 (by decide) ?_
          refine z_istore (ls' := [_, _, _, _, _, _, _, _, _]) dX10_find_160 (by decide) rfl ?_
          refine z_iinc (ls' := [_, _, _, _, _, _, _, _, _]) (v8 + 1) dX10_find_162 rfl rfl (by decide) rfl ?_
          refine z_goto 116 dX10_find_165 (by decide) ?_
          refine z_mask (ls' := [_, _, _, _, _, _, _, _, _]) [true, true, false, true, false, true, true, true, true] rfl ?_
          exact hrec v5 v6 1 (v8 + 1) s hf
noncomputable def fX10_find_J111 (N : Nat) (p0 : Int64) (p1 : Int64) (rec : Int32 → Int32 → zS → Option ((Int32 × zS) ⊕ (zS))) (v5 : Int32) (v6 : Int32) (k0 : Int32) (s : zS) : Option ((Int32 × zS) ⊕ (zS)) := zbl (fX10_find_L116 N p0 p1 N v5 v6 k0 0 s) (fun x => some (.inl x)) (fun lq12 => match lq12 with | (y15, y16, y17, s18) => if y17 = 0 then rec y15 (y16 + 1) s18 else some (.inl (y16, s18)))
set_option maxHeartbeats 400000 in
set_option maxRecDepth 100000 in
theorem tX10_find_J111 {g : zGl} (hok : zGok g) (d : Nat)  (N : Nat) (p0 : Int64) (p1 : Int64)  {mc ms n0 : Nat} {Q : zO → List zE → Prop} (rec : Int32 → Int32 → zS → Option ((Int32 × zS) ⊕ (zS))) (r : (Int32 × zS) ⊕ (zS)) (k1 : ∀ w s', r = .inl (w, s') → Q (.inl (some (.int w))) (zHp s')) (k2 : ∀  (s' : zS), r = .inr (s') → zW g mX10_find d mc ms n0 Q 0 0 (zHp s') [some (.ref 33), some (.long p0), none, some (.long p1), none, none, none, none, none] [] 182) (hrec : ∀ (v5 : Int32) (v6 : Int32) (s : zS), rec v5 v6 s = some r → zW g mX10_find d mc ms n0 Q 0 0 (zHp s) [some (.ref 33), some (.long p0), none, some (.long p1), none, some (.int v5), some (.int v6), none, none] [] 78) (v5 : Int32) (v6 : Int32) (k0 : Int32) (s : zS) (hf : fX10_find_J111 N p0 p1 rec v5 v6 k0 s = some r) : zW g mX10_find d mc ms n0 Q 0 0 (zHp s) [some (.ref 33), some (.long p0), none, some (.long p1), none, some (.int v5), some (.int v6), none, none] [.int k0] 111 := by
  unfold fX10_find_J111 at hf
  refine z_istore (ls' := [_, _, _, _, _, _, _, _, _]) dX10_find_111 (by decide) rfl ?_
  refine z_iconst 0 dX10_find_113 (by decide +kernel) ?_
  refine z_istore (ls' := [_, _, _, _, _, _, _, _, _]) dX10_find_114 (by decide) rfl ?_
  refine z_mask (ls' := [_, _, _, _, _, _, _, _, _]) [true, true, false, true, false, true, true, true, true] rfl ?_
  rcases zbl_of hf with ⟨lr13, le14, hf⟩ | ⟨lr13, le14, hf⟩
  · cases hf
    exact tX10_find_L116 hok d N p0 p1  N v5 v6 k0 0 s _ le14 (fun w1 s1 hh => by cases hh; exact k1 _ _ rfl) (fun _ _ _ _ hh => by cases hh)
  · obtain ⟨y15, y16, y17, s18⟩ := lr13
    refine tX10_find_L116 hok d N p0 p1  N v5 v6 k0 0 s _ le14 (fun w1 s1 hh => by cases hh) (fun _ _ _ _ hh => ?_)
    cases hh
    refine z_iload dX10_find_168 rfl ?_
    refine z_if_eq 176 dX10_find_170 (by decide) (fun c170 => ?_) (fun c170 => ?_)
    · have hf := zifp hf c170
      refine z_iinc (ls' := [_, _, _, _, _, _, _, _, _]) (y16 + 1) dX10_find_176 rfl rfl (by decide) rfl ?_
      refine z_goto 78 dX10_find_179 (by decide) ?_
      refine z_mask (ls' := [_, _, _, _, _, _, _, _, _]) [true, true, false, true, false, true, true, false, false] rfl ?_
      exact hrec y15 (y16 + 1) s18 hf
    · have hf := zifn hf c170
      refine z_iload dX10_find_173 rfl ?_
      cases hf
      exact z_iret rfl dX10_find_175 (Nat.zero_le _) (Nat.zero_le _) (k1 _ _ rfl)
noncomputable def fX10_find_L78S (N : Nat) (p0 : Int64) (p1 : Int64) (rec : Int32 → Int32 → zS → Option ((Int32 × zS) ⊕ (zS))) (v5 : Int32) (v6 : Int32) (s : zS) : Option ((Int32 × zS) ⊕ (zS)) := if zga 7 (zlen 36) = true then if (s.2.1 36 (7 : Int32).toNatClampNeg) ≤ v6 then some (.inr (s)) else if zga (150 + v6) (zlen 41) = true then if (s.2.1 41 (150 + v6).toNatClampNeg) = v5 then fX10_find_J111 N p0 p1 rec v5 v6 1 s else fX10_find_J111 N p0 p1 rec v5 v6 0 s else none else none
noncomputable def fX10_find_L78 (N : Nat) (p0 : Int64) (p1 : Int64) (n : Nat) : Int32 → Int32 → zS → Option ((Int32 × zS) ⊕ (zS)) := Nat.rec (motive := fun _ => Int32 → Int32 → zS → Option ((Int32 × zS) ⊕ (zS))) (fun _ _ _ => none) (fun _ rec => fX10_find_L78S N p0 p1 rec) n
set_option maxHeartbeats 400000 in
set_option maxRecDepth 100000 in
theorem tX10_find_L78 {g : zGl} (hok : zGok g) (d : Nat)  (N : Nat) (p0 : Int64) (p1 : Int64)  {mc ms n0 : Nat} {Q : zO → List zE → Prop} (n : Nat) : ∀ (v5 : Int32) (v6 : Int32) (s : zS) (r : (Int32 × zS) ⊕ (zS)) (hf : fX10_find_L78 N p0 p1 n v5 v6 s = some r) (k1 : ∀ w s', r = .inl (w, s') → Q (.inl (some (.int w))) (zHp s')) (k2 : ∀  (s' : zS), r = .inr (s') → zW g mX10_find d mc ms n0 Q 0 0 (zHp s') [some (.ref 33), some (.long p0), none, some (.long p1), none, none, none, none, none] [] 182), zW g mX10_find d mc ms n0 Q 0 0 (zHp s) [some (.ref 33), some (.long p0), none, some (.long p1), none, some (.int v5), some (.int v6), none, none] [] 78 := by
  induction n with
  | zero => intro v5 v6 s r hf; cases hf
  | succ n ih =>
    intro v5 v6 s r hf k1 k2
    have hrec : ∀ (v5 : Int32) (v6 : Int32) (s : zS) (r1 : (Int32 × zS) ⊕ (zS)), fX10_find_L78 N p0 p1 n v5 v6 s = some r1 → r1 = r → zW g mX10_find d mc ms n0 Q 0 0 (zHp s) [some (.ref 33), some (.long p0), none, some (.long p1), none, some (.int v5), some (.int v6), none, none] [] 78 := fun v5 v6 s r1 h e => ih v5 v6 s r1 h (by subst e; exact k1) (by subst e; exact k2)
    have hrec : ∀ (v5 : Int32) (v6 : Int32) (s : zS), fX10_find_L78 N p0 p1 n v5 v6 s = some r → zW g mX10_find d mc ms n0 Q 0 0 (zHp s) [some (.ref 33), some (.long p0), none, some (.long p1), none, some (.int v5), some (.int v6), none, none] [] 78 := fun v5 v6 s h => hrec v5 v6 s r h rfl
    have hf : fX10_find_L78S N p0 p1 (fX10_find_L78 N p0 p1 n) v5 v6 s = some r := hf
    unfold fX10_find_L78S at hf
    refine z_iload dX10_find_78 rfl ?_
    refine z_aload_n dX10_find_80 rfl ?_
    refine z_getf dX10_find_81 fX10_16 (at_Model s) rfl ?_
    refine z_bipush 7 dX10_find_84 (by decide +kernel) ?_
    obtain ⟨hi8, hf⟩ := zifs hf
    refine z_iald dX10_find_86 (at_arr s 36 (by decide)) (zga_in hi8) ?_
    refine z_icmp_ge 182 dX10_find_87 (by decide) (fun c87 => ?_) (fun c87 => ?_)
    · have hf := zifp hf c87
      cases hf
      refine z_mask (ls' := [_, _, _, _, _, _, _, _, _]) [true, true, false, true, false, false, false, false, false] rfl ?_
      exact k2  _ rfl
    · have hf := zifn hf c87
      refine z_aload_n dX10_find_90 rfl ?_
      refine z_getf dX10_find_91 fX10_31 (at_Model s) rfl ?_
      refine z_sipush 150 dX10_find_94 (by decide +kernel) ?_
      refine z_iload dX10_find_97 rfl ?_
      refine z_iadd dX10_find_99 ?_
      obtain ⟨hi9, hf⟩ := zifs hf
      refine z_iald dX10_find_100 (at_arr s 41 (by decide)) (zga_in hi9) ?_
      refine z_iload dX10_find_101 rfl ?_
      refine z_icmp_ne 110 dX10_find_103 (by decide) (fun c103 => ?_) (fun c103 => ?_)
      · have hf := zifn hf c103
        refine z_iconst 0 dX10_find_110 (by decide +kernel) ?_
        refine z_mask (ls' := [_, _, _, _, _, _, _, _, _]) [true, true, false, true, false, true, true, false, false] rfl ?_
        exact tX10_find_J111 hok d N p0 p1  _ r k1 k2 hrec v5 v6 0 s hf
      · have hf := zifp hf c103
        refine z_iconst 1 dX10_find_106 (by decide +kernel) ?_
        refine z_goto 111 dX10_find_107 (by decide) ?_
        refine z_mask (ls' := [_, _, _, _, _, _, _, _, _]) [true, true, false, true, false, true, true, false, false] rfl ?_
        exact tX10_find_J111 hok d N p0 p1  _ r k1 k2 hrec v5 v6 1 s hf
noncomputable def fX10_find (N : Nat) (p0 : Int64) (p1 : Int64) (s : zS) : Option (Int32 × zS) := zbl (fX10_find_L11 N p0 p1 N 0 0 (zsc s 3300 0)) (fun x => some x) (fun lq3 => match lq3 with | (y6, s7) => zbl (fX10_find_L78 N p0 p1 N y6 0 s7) (fun x => some x) (fun s22 => some ((-1), s22)))
set_option maxHeartbeats 400000 in
set_option maxRecDepth 100000 in
theorem tX10_find {g : zGl} (hok : zGok g) (d : Nat)  (N : Nat) (p0 : Int64) (p1 : Int64)  {s s' : zS} {w : Int32} (hf : fX10_find N p0 p1 s = some (w, s')) : zMet g mX10_find d 0 0 [.ref 33, .long p0, .long p1] (zHp s) (zret (some (.int w)) (zHp s')) := by
  refine zMet.ofW (by decide +kernel) (Nat.le_of_ble_eq_true rfl) ?_
  show zW g mX10_find d 0 0 51 _ 0 0 (zHp s) [some (.ref 33), some (.long p0), none, some (.long p1), none, none, none, none, none] [] 0
  unfold fX10_find at hf
  refine z_aload_n dX10_find_0 rfl ?_
  refine z_iconst 0 dX10_find_1 (by decide +kernel) ?_
  refine z_putf dX10_find_2 fX10_62 wX10_0 (at_Model s) (Nat.le_of_ble_eq_true rfl) (fun _ => rfl) (fun _ => rfl) (st_Model_0 s 0) ?_
  refine z_iconst 0 dX10_find_5 (by decide +kernel) ?_
  refine z_istore (ls' := [_, _, _, _, _, _, _, _, _]) dX10_find_6 (by decide) rfl ?_
  refine z_iconst 0 dX10_find_8 (by decide +kernel) ?_
  refine z_istore (ls' := [_, _, _, _, _, _, _, _, _]) dX10_find_9 (by decide) rfl ?_
  refine z_mask (ls' := [_, _, _, _, _, _, _, _, _]) [true, true, false, true, false, true, true, false, false] rfl ?_
  rcases zbl_of hf with ⟨lr4, le5, hf⟩ | ⟨lr4, le5, hf⟩
  · cases hf
    exact tX10_find_L11 hok d N p0 p1  N 0 0 (zsc s 3300 0) _ le5 (fun w1 s1 hh => by cases hh; exact ⟨rfl, rfl⟩) (fun _ _ hh => by cases hh)
  · obtain ⟨y6, s7⟩ := lr4
    refine tX10_find_L11 hok d N p0 p1  N 0 0 (zsc s 3300 0) _ le5 (fun w1 s1 hh => by cases hh) (fun _ _ hh => ?_)
    cases hh
    refine z_iconst 0 dX10_find_75 (by decide +kernel) ?_
    refine z_istore (ls' := [_, _, _, _, _, _, _, _, _]) dX10_find_76 (by decide) rfl ?_
    refine z_mask (ls' := [_, _, _, _, _, _, _, _, _]) [true, true, false, true, false, true, true, false, false] rfl ?_
    rcases zbl_of hf with ⟨lr20, le21, hf⟩ | ⟨lr20, le21, hf⟩
    · cases hf
      exact tX10_find_L78 hok d N p0 p1  N y6 0 s7 _ le21 (fun w1 s1 hh => by cases hh; exact ⟨rfl, rfl⟩) (fun  _ hh => by cases hh)
    · obtain ⟨s22, rfl⟩ : ∃ z, z = lr20 := ⟨_, rfl⟩
      refine tX10_find_L78 hok d N p0 p1  N y6 0 s7 _ le21 (fun w1 s1 hh => by cases hh) (fun  _ hh => ?_)
      cases hh
      refine z_iconst (-1) dX10_find_182 (by decide +kernel) ?_
      cases hf
      exact z_iret rfl dX10_find_183 (Nat.zero_le _) (Nat.zero_le _) ⟨rfl, rfl⟩

noncomputable def fX10_say (N : Nat) (p0 : Int32) (s : zS) : Option (Unit × zS) := if zga (s.1 3329) (zlen 44) = true then some ((), (zsc (zsr s 44 (s.1 3329) p0) 3329 ((s.1 3329) + 1))) else none
set_option maxHeartbeats 400000 in
set_option maxRecDepth 100000 in
theorem tX10_say {g : zGl} (hok : zGok g) (d : Nat)  (N : Nat) (p0 : Int32)  {s s' : zS} {w : Unit} (hf : fX10_say N p0 s = some (w, s')) : zMet g mX10_say d 0 0 [.ref 33, .int p0] (zHp s) (zret none (zHp s')) := by
  refine zMet.ofW (by decide +kernel) (Nat.le_of_ble_eq_true rfl) ?_
  show zW g mX10_say d 0 0 51 _ 0 0 (zHp s) [some (.ref 33), some (.int p0)] [] 0
  unfold fX10_say at hf
  refine z_aload_n dX10_say_0 rfl ?_
  refine z_getf dX10_say_1 fX10_44 (at_Model s) rfl ?_
  refine z_aload_n dX10_say_4 rfl ?_
  refine z_getf dX10_say_5 fX10_249 (at_Model s) rfl ?_
  refine z_iload_n dX10_say_8 rfl ?_
  obtain ⟨hi1, hf⟩ := zifs hf
  refine z_iastore dX10_say_9 (at_arr s 44 (by decide)) (zga_in hi1) (st_arr s 44 (by decide) (s.1 3329) p0) ?_
  refine z_aload_n dX10_say_10 rfl ?_
  refine z_dup dX10_say_11 rfl ?_
  refine z_getf dX10_say_12 fX10_249 (at_Model (zsr s 44 (s.1 3329) p0)) rfl ?_
  refine z_iconst 1 dX10_say_15 (by decide +kernel) ?_
  refine z_iadd dX10_say_16 ?_
  refine z_putf dX10_say_17 fX10_249 wX10_29 (at_Model (zsr s 44 (s.1 3329) p0)) (Nat.le_of_ble_eq_true rfl) (fun _ => rfl) (fun _ => rfl) (st_Model_29 (zsr s 44 (s.1 3329) p0) ((s.1 3329) + 1)) ?_
  cases hf
  exact z_vret rfl dX10_say_20 (Nat.zero_le _) (Nat.zero_le _) ⟨rfl, rfl⟩

noncomputable def fX10_sayNumber_L2S (N : Nat) (p0 : Int64) (rec : Int64 → zS → Option ((Unit × zS) ⊕ (Int64 × zS))) (v3 : Int64) (s : zS) : Option ((Unit × zS) ⊕ (Int64 × zS)) := if ¬ v3 = 0 then if (lg_cmp (p0 / v3) 9) ≤ 0 then some (.inr (v3, s)) else rec (10 * v3) s else none
noncomputable def fX10_sayNumber_L2 (N : Nat) (p0 : Int64) (n : Nat) : Int64 → zS → Option ((Unit × zS) ⊕ (Int64 × zS)) := Nat.rec (motive := fun _ => Int64 → zS → Option ((Unit × zS) ⊕ (Int64 × zS))) (fun _ _ => none) (fun _ rec => fX10_sayNumber_L2S N p0 rec) n
set_option maxHeartbeats 400000 in
set_option maxRecDepth 100000 in
theorem tX10_sayNumber_L2 {g : zGl} (hok : zGok g) (d : Nat)  (N : Nat) (p0 : Int64)  {mc ms n0 : Nat} {Q : zO → List zE → Prop} (n : Nat) : ∀ (v3 : Int64) (s : zS) (r : (Unit × zS) ⊕ (Int64 × zS)) (hf : fX10_sayNumber_L2 N p0 n v3 s = some r) (k1 : ∀ w s', r = .inl (w, s') → Q (.inl none) (zHp s')) (k2 : ∀ (y3 : Int64) (s' : zS), r = .inr (y3, s') → zW g mX10_sayNumber d mc ms n0 Q 0 0 (zHp s') [some (.ref 33), some (.long p0), none, some (.long y3), none] [] 21), zW g mX10_sayNumber d mc ms n0 Q 0 0 (zHp s) [some (.ref 33), some (.long p0), none, some (.long v3), none] [] 2 := by
  induction n with
  | zero => intro v3 s r hf; cases hf
  | succ n ih =>
    intro v3 s r hf k1 k2
    have hrec : ∀ (v3 : Int64) (s : zS) (r1 : (Unit × zS) ⊕ (Int64 × zS)), fX10_sayNumber_L2 N p0 n v3 s = some r1 → r1 = r → zW g mX10_sayNumber d mc ms n0 Q 0 0 (zHp s) [some (.ref 33), some (.long p0), none, some (.long v3), none] [] 2 := fun v3 s r1 h e => ih v3 s r1 h (by subst e; exact k1) (by subst e; exact k2)
    have hrec : ∀ (v3 : Int64) (s : zS), fX10_sayNumber_L2 N p0 n v3 s = some r → zW g mX10_sayNumber d mc ms n0 Q 0 0 (zHp s) [some (.ref 33), some (.long p0), none, some (.long v3), none] [] 2 := fun v3 s h => hrec v3 s r h rfl
    have hf : fX10_sayNumber_L2S N p0 (fX10_sayNumber_L2 N p0 n) v3 s = some r := hf
    unfold fX10_sayNumber_L2S at hf
    refine z_lload_n dX10_sayNumber_2 rfl ?_
    refine z_lload_n dX10_sayNumber_3 rfl ?_
    obtain ⟨nz1, hf⟩ := zifs hf
    refine z_ldiv dX10_sayNumber_4 nz1 ?_
    refine z_ldc2 dX10_sayNumber_5 lX10_252 ?_
    refine z_lcmp dX10_sayNumber_8 ?_
    refine z_if_le 21 dX10_sayNumber_9 (by decide) (fun c9 => ?_) (fun c9 => ?_)
    · have hf := zifp hf c9
      cases hf
      refine z_mask (ls' := [_, _, _, _, _]) [true, true, false, true, false] rfl ?_
      exact k2 _ _ rfl
    · have hf := zifn hf c9
      refine z_ldc2 dX10_sayNumber_12 lX10_254 ?_
      refine z_lload_n dX10_sayNumber_15 rfl ?_
      refine z_lmul dX10_sayNumber_16 ?_
      refine z_lstore_n (ls' := [_, _, _, _, _]) dX10_sayNumber_17 (by decide) rfl ?_
      refine z_goto 2 dX10_sayNumber_18 (by decide) ?_
      refine z_mask (ls' := [_, _, _, _, _]) [true, true, false, true, false] rfl ?_
      exact hrec (10 * v3) s hf
noncomputable def fX10_sayNumber_L21S (N : Nat) (p0 : Int64) (rec : Int64 → zS → Option ((Unit × zS) ⊕ (zS))) (v3 : Int64) (s : zS) : Option ((Unit × zS) ⊕ (zS)) := if (lg_cmp v3 0) ≤ 0 then some (.inr (s)) else if ¬ v3 = 0 then zbn (fX10_say N (48 + (((p0 / v3) - (p0 / v3) / 10 * 10).toInt32)) s) (fun x9 s10 => rec (v3 / 10) s10) else none
noncomputable def fX10_sayNumber_L21 (N : Nat) (p0 : Int64) (n : Nat) : Int64 → zS → Option ((Unit × zS) ⊕ (zS)) := Nat.rec (motive := fun _ => Int64 → zS → Option ((Unit × zS) ⊕ (zS))) (fun _ _ => none) (fun _ rec => fX10_sayNumber_L21S N p0 rec) n
set_option maxHeartbeats 400000 in
set_option maxRecDepth 100000 in
theorem tX10_sayNumber_L21 {g : zGl} (hok : zGok g) (d : Nat) (hd : 1 ≤ d) (N : Nat) (p0 : Int64)  {mc ms n0 : Nat} {Q : zO → List zE → Prop} (n : Nat) : ∀ (v3 : Int64) (s : zS) (r : (Unit × zS) ⊕ (zS)) (hf : fX10_sayNumber_L21 N p0 n v3 s = some r) (k1 : ∀ w s', r = .inl (w, s') → Q (.inl none) (zHp s')) (k2 : ∀  (s' : zS), r = .inr (s') → zW g mX10_sayNumber d mc ms n0 Q 0 0 (zHp s') [some (.ref 33), some (.long p0), none, none, none] [] 51), zW g mX10_sayNumber d mc ms n0 Q 0 0 (zHp s) [some (.ref 33), some (.long p0), none, some (.long v3), none] [] 21 := by
  induction n with
  | zero => intro v3 s r hf; cases hf
  | succ n ih =>
    intro v3 s r hf k1 k2
    have hrec : ∀ (v3 : Int64) (s : zS) (r1 : (Unit × zS) ⊕ (zS)), fX10_sayNumber_L21 N p0 n v3 s = some r1 → r1 = r → zW g mX10_sayNumber d mc ms n0 Q 0 0 (zHp s) [some (.ref 33), some (.long p0), none, some (.long v3), none] [] 21 := fun v3 s r1 h e => ih v3 s r1 h (by subst e; exact k1) (by subst e; exact k2)
    have hrec : ∀ (v3 : Int64) (s : zS), fX10_sayNumber_L21 N p0 n v3 s = some r → zW g mX10_sayNumber d mc ms n0 Q 0 0 (zHp s) [some (.ref 33), some (.long p0), none, some (.long v3), none] [] 21 := fun v3 s h => hrec v3 s r h rfl
    have hf : fX10_sayNumber_L21S N p0 (fX10_sayNumber_L21 N p0 n) v3 s = some r := hf
    unfold fX10_sayNumber_L21S at hf
    refine z_lload_n dX10_sayNumber_21 rfl ?_
    refine z_lconst 0 dX10_sayNumber_22 (by decide +kernel) ?_
    refine z_lcmp dX10_sayNumber_23 ?_
    refine z_if_le 51 dX10_sayNumber_24 (by decide) (fun c24 => ?_) (fun c24 => ?_)
    · have hf := zifp hf c24
      cases hf
      refine z_mask (ls' := [_, _, _, _, _]) [true, true, false, false, false] rfl ?_
      exact k2  _ rfl
    · have hf := zifn hf c24
      refine z_aload_n dX10_sayNumber_27 rfl ?_
      refine z_bipush 48 dX10_sayNumber_28 (by decide +kernel) ?_
      refine z_lload_n dX10_sayNumber_30 rfl ?_
      refine z_lload_n dX10_sayNumber_31 rfl ?_
      obtain ⟨nz7, hf⟩ := zifs hf
      refine z_ldiv dX10_sayNumber_32 nz7 ?_
      refine z_ldc2 dX10_sayNumber_33 lX10_254 ?_
      refine z_lrem dX10_sayNumber_36 (by decide) ?_
      refine z_l2i dX10_sayNumber_37 ?_
      refine z_iadd dX10_sayNumber_38 ?_
      obtain ⟨x9, s10, q11, hf⟩ := zbn_of hf
      refine z_cV (as := [_]) hok dX10_sayNumber_39 kX10_256 (tX10_say hok (d - 1) N (48 + (((p0 / v3) - (p0 / v3) / 10 * 10).toInt32))  q11) rfl (at_Model s) rfl rfl (by omega) (Nat.le_of_ble_eq_true rfl) (Nat.zero_le _) (Nat.zero_le _) rfl ?_
      refine z_lload_n dX10_sayNumber_42 rfl ?_
      refine z_ldc2 dX10_sayNumber_43 lX10_254 ?_
      refine z_ldiv dX10_sayNumber_46 (by decide) ?_
      refine z_lstore_n (ls' := [_, _, _, _, _]) dX10_sayNumber_47 (by decide) rfl ?_
      refine z_goto 21 dX10_sayNumber_48 (by decide) ?_
      refine z_mask (ls' := [_, _, _, _, _]) [true, true, false, true, false] rfl ?_
      exact hrec (v3 / 10) s10 hf
noncomputable def fX10_sayNumber (N : Nat) (p0 : Int64) (s : zS) : Option (Unit × zS) := zbl (fX10_sayNumber_L2 N p0 N 1 s) (fun x => some x) (fun lq2 => match lq2 with | (y5, s6) => zbl (fX10_sayNumber_L21 N p0 N y5 s6) (fun x => some x) (fun s16 => some ((), s16)))
set_option maxHeartbeats 400000 in
set_option maxRecDepth 100000 in
theorem tX10_sayNumber {g : zGl} (hok : zGok g) (d : Nat) (hd : 1 ≤ d) (N : Nat) (p0 : Int64)  {s s' : zS} {w : Unit} (hf : fX10_sayNumber N p0 s = some (w, s')) : zMet g mX10_sayNumber d 0 0 [.ref 33, .long p0] (zHp s) (zret none (zHp s')) := by
  refine zMet.ofW (by decide +kernel) (Nat.le_of_ble_eq_true rfl) ?_
  show zW g mX10_sayNumber d 0 0 51 _ 0 0 (zHp s) [some (.ref 33), some (.long p0), none, none, none] [] 0
  unfold fX10_sayNumber at hf
  refine z_lconst 1 dX10_sayNumber_0 (by decide +kernel) ?_
  refine z_lstore_n (ls' := [_, _, _, _, _]) dX10_sayNumber_1 (by decide) rfl ?_
  refine z_mask (ls' := [_, _, _, _, _]) [true, true, false, true, false] rfl ?_
  rcases zbl_of hf with ⟨lr3, le4, hf⟩ | ⟨lr3, le4, hf⟩
  · cases hf
    exact tX10_sayNumber_L2 hok d N p0  N 1 s _ le4 (fun w1 s1 hh => by cases hh; exact ⟨rfl, rfl⟩) (fun _ _ hh => by cases hh)
  · obtain ⟨y5, s6⟩ := lr3
    refine tX10_sayNumber_L2 hok d N p0  N 1 s _ le4 (fun w1 s1 hh => by cases hh) (fun _ _ hh => ?_)
    cases hh
    refine z_mask (ls' := [_, _, _, _, _]) [true, true, false, true, false] rfl ?_
    rcases zbl_of hf with ⟨lr14, le15, hf⟩ | ⟨lr14, le15, hf⟩
    · cases hf
      exact tX10_sayNumber_L21 hok d (by omega) N p0  N y5 s6 _ le15 (fun w1 s1 hh => by cases hh; exact ⟨rfl, rfl⟩) (fun  _ hh => by cases hh)
    · obtain ⟨s16, rfl⟩ : ∃ z, z = lr14 := ⟨_, rfl⟩
      refine tX10_sayNumber_L21 hok d (by omega) N p0  N y5 s6 _ le15 (fun w1 s1 hh => by cases hh) (fun  _ hh => ?_)
      cases hh
      cases hf
      exact z_vret rfl dX10_sayNumber_51 (Nat.zero_le _) (Nat.zero_le _) ⟨rfl, rfl⟩

noncomputable def fX10_sayName_L2S (N : Nat) (p0 : Int32) (rec : Int32 → zS → Option ((Unit × zS) ⊕ (zS))) (v2 : Int32) (s : zS) : Option ((Unit × zS) ⊕ (zS)) := if zga (150 + p0) (zlen 41) = true then if (s.2.1 41 (150 + p0).toNatClampNeg) ≤ v2 then some (.inr (s)) else if zga ((2400 + (16 * p0)) + v2) (zlen 40) = true then zbn (fX10_say N (s.2.1 40 ((2400 + (16 * p0)) + v2).toNatClampNeg) s) (fun x3 s4 => rec (v2 + 1) s4) else none else none
noncomputable def fX10_sayName_L2 (N : Nat) (p0 : Int32) (n : Nat) : Int32 → zS → Option ((Unit × zS) ⊕ (zS)) := Nat.rec (motive := fun _ => Int32 → zS → Option ((Unit × zS) ⊕ (zS))) (fun _ _ => none) (fun _ rec => fX10_sayName_L2S N p0 rec) n
set_option maxHeartbeats 400000 in
set_option maxRecDepth 100000 in
theorem tX10_sayName_L2 {g : zGl} (hok : zGok g) (d : Nat) (hd : 1 ≤ d) (N : Nat) (p0 : Int32)  {mc ms n0 : Nat} {Q : zO → List zE → Prop} (n : Nat) : ∀ (v2 : Int32) (s : zS) (r : (Unit × zS) ⊕ (zS)) (hf : fX10_sayName_L2 N p0 n v2 s = some r) (k1 : ∀ w s', r = .inl (w, s') → Q (.inl none) (zHp s')) (k2 : ∀  (s' : zS), r = .inr (s') → zW g mX10_sayName d mc ms n0 Q 0 0 (zHp s') [some (.ref 33), some (.int p0), none] [] 41), zW g mX10_sayName d mc ms n0 Q 0 0 (zHp s) [some (.ref 33), some (.int p0), some (.int v2)] [] 2 := by
  induction n with
  | zero => intro v2 s r hf; cases hf
  | succ n ih =>
    intro v2 s r hf k1 k2
    have hrec : ∀ (v2 : Int32) (s : zS) (r1 : (Unit × zS) ⊕ (zS)), fX10_sayName_L2 N p0 n v2 s = some r1 → r1 = r → zW g mX10_sayName d mc ms n0 Q 0 0 (zHp s) [some (.ref 33), some (.int p0), some (.int v2)] [] 2 := fun v2 s r1 h e => ih v2 s r1 h (by subst e; exact k1) (by subst e; exact k2)
    have hrec : ∀ (v2 : Int32) (s : zS), fX10_sayName_L2 N p0 n v2 s = some r → zW g mX10_sayName d mc ms n0 Q 0 0 (zHp s) [some (.ref 33), some (.int p0), some (.int v2)] [] 2 := fun v2 s h => hrec v2 s r h rfl
    have hf : fX10_sayName_L2S N p0 (fX10_sayName_L2 N p0 n) v2 s = some r := hf
    unfold fX10_sayName_L2S at hf
    refine z_iload_n dX10_sayName_2 rfl ?_
    refine z_aload_n dX10_sayName_3 rfl ?_
    refine z_getf dX10_sayName_4 fX10_31 (at_Model s) rfl ?_
    refine z_sipush 150 dX10_sayName_7 (by decide +kernel) ?_
    refine z_iload_n dX10_sayName_10 rfl ?_
    refine z_iadd dX10_sayName_11 ?_
    obtain ⟨hi1, hf⟩ := zifs hf
    refine z_iald dX10_sayName_12 (at_arr s 41 (by decide)) (zga_in hi1) ?_
    refine z_icmp_ge 41 dX10_sayName_13 (by decide) (fun c13 => ?_) (fun c13 => ?_)
    · have hf := zifp hf c13
      cases hf
      refine z_mask (ls' := [_, _, _]) [true, true, false] rfl ?_
      exact k2  _ rfl
    · have hf := zifn hf c13
      refine z_aload_n dX10_sayName_16 rfl ?_
      refine z_aload_n dX10_sayName_17 rfl ?_
      refine z_getf dX10_sayName_18 fX10_28 (at_Model s) rfl ?_
      refine z_sipush 2400 dX10_sayName_21 (by decide +kernel) ?_
      refine z_bipush 16 dX10_sayName_24 (by decide +kernel) ?_
      refine z_iload_n dX10_sayName_26 rfl ?_
      refine z_imul dX10_sayName_27 ?_
      refine z_iadd dX10_sayName_28 ?_
      refine z_iload_n dX10_sayName_29 rfl ?_
      refine z_iadd dX10_sayName_30 ?_
      obtain ⟨hi2, hf⟩ := zifs hf
      refine z_iald dX10_sayName_31 (at_arr s 40 (by decide)) (zga_in hi2) ?_
      obtain ⟨x3, s4, q5, hf⟩ := zbn_of hf
      refine z_cV (as := [_]) hok dX10_sayName_32 kX10_256 (tX10_say hok (d - 1) N (s.2.1 40 ((2400 + (16 * p0)) + v2).toNatClampNeg)  q5) rfl (at_Model s) rfl rfl (by omega) (Nat.le_of_ble_eq_true rfl) (Nat.zero_le _) (Nat.zero_le _) rfl ?_
      refine z_iinc (ls' := [_, _, _]) (v2 + 1) dX10_sayName_35 rfl rfl (by decide) rfl ?_
      refine z_goto 2 dX10_sayName_38 (by decide) ?_
      refine z_mask (ls' := [_, _, _]) [true, true, true] rfl ?_
      exact hrec (v2 + 1) s4 hf
noncomputable def fX10_sayName (N : Nat) (p0 : Int32) (s : zS) : Option (Unit × zS) := zbl (fX10_sayName_L2 N p0 N 0 s) (fun x => some x) (fun s9 => some ((), s9))
set_option maxHeartbeats 400000 in
set_option maxRecDepth 100000 in
theorem tX10_sayName {g : zGl} (hok : zGok g) (d : Nat) (hd : 1 ≤ d) (N : Nat) (p0 : Int32)  {s s' : zS} {w : Unit} (hf : fX10_sayName N p0 s = some (w, s')) : zMet g mX10_sayName d 0 0 [.ref 33, .int p0] (zHp s) (zret none (zHp s')) := by
  refine zMet.ofW (by decide +kernel) (Nat.le_of_ble_eq_true rfl) ?_
  show zW g mX10_sayName d 0 0 51 _ 0 0 (zHp s) [some (.ref 33), some (.int p0), none] [] 0
  unfold fX10_sayName at hf
  refine z_iconst 0 dX10_sayName_0 (by decide +kernel) ?_
  refine z_istore_n (ls' := [_, _, _]) dX10_sayName_1 (by decide) rfl ?_
  refine z_mask (ls' := [_, _, _]) [true, true, true] rfl ?_
  rcases zbl_of hf with ⟨lr7, le8, hf⟩ | ⟨lr7, le8, hf⟩
  · cases hf
    exact tX10_sayName_L2 hok d (by omega) N p0  N 0 s _ le8 (fun w1 s1 hh => by cases hh; exact ⟨rfl, rfl⟩) (fun  _ hh => by cases hh)
  · obtain ⟨s9, rfl⟩ : ∃ z, z = lr7 := ⟨_, rfl⟩
    refine tX10_sayName_L2 hok d (by omega) N p0  N 0 s _ le8 (fun w1 s1 hh => by cases hh) (fun  _ hh => ?_)
    cases hh
    cases hf
    exact z_vret rfl dX10_sayName_41 (Nat.zero_le _) (Nat.zero_le _) ⟨rfl, rfl⟩

noncomputable def fX10_sayRegister (N : Nat) (p0 : Int32) (s : zS) : Option (Unit × zS) := zbn (fX10_say N 120 s) (fun x1 s2 => zbn (fX10_sayNumber N p0.toInt64 s2) (fun x4 s5 => some ((), s5)))
set_option maxHeartbeats 400000 in
set_option maxRecDepth 100000 in
theorem tX10_sayRegister {g : zGl} (hok : zGok g) (d : Nat) (hd : 2 ≤ d) (N : Nat) (p0 : Int32)  {s s' : zS} {w : Unit} (hf : fX10_sayRegister N p0 s = some (w, s')) : zMet g mX10_sayRegister d 0 0 [.ref 33, .int p0] (zHp s) (zret none (zHp s')) := by
  refine zMet.ofW (by decide +kernel) (Nat.le_of_ble_eq_true rfl) ?_
  show zW g mX10_sayRegister d 0 0 51 _ 0 0 (zHp s) [some (.ref 33), some (.int p0)] [] 0
  unfold fX10_sayRegister at hf
  refine z_aload_n dX10_sayRegister_0 rfl ?_
  refine z_bipush 120 dX10_sayRegister_1 (by decide +kernel) ?_
  obtain ⟨x1, s2, q3, hf⟩ := zbn_of hf
  refine z_cV (as := [_]) hok dX10_sayRegister_3 kX10_256 (tX10_say hok (d - 1) N 120  q3) rfl (at_Model s) rfl rfl (by omega) (Nat.le_of_ble_eq_true rfl) (Nat.zero_le _) (Nat.zero_le _) rfl ?_
  refine z_aload_n dX10_sayRegister_6 rfl ?_
  refine z_iload_n dX10_sayRegister_7 rfl ?_
  refine z_i2l dX10_sayRegister_8 ?_
  obtain ⟨x4, s5, q6, hf⟩ := zbn_of hf
  refine z_cV (as := [_]) hok dX10_sayRegister_9 kX10_259 (tX10_sayNumber hok (d - 1) (by omega) N p0.toInt64  q6) rfl (at_Model s2) rfl rfl (by omega) (Nat.le_of_ble_eq_true rfl) (Nat.zero_le _) (Nat.zero_le _) rfl ?_
  cases hf
  exact z_vret rfl dX10_sayRegister_12 (Nat.zero_le _) (Nat.zero_le _) ⟨rfl, rfl⟩

noncomputable def fX10_sayString_J84 (N : Nat) (p0 : Int32) (rec : Int32 → zS → Option ((Unit × zS) ⊕ (zS))) (v2 : Int32) (v3 : Int32) (s : zS) : Option ((Unit × zS) ⊕ (zS)) := if v3 = 10 then zbn (fX10_say N 110 s) (fun x19 s20 => rec (v2 + 1) s20) else if v3 = 9 then zbn (fX10_say N 116 s) (fun x16 s17 => rec (v2 + 1) s17) else if v3 = 0 then zbn (fX10_say N 48 s) (fun x13 s14 => rec (v2 + 1) s14) else zbn (fX10_say N v3 s) (fun x10 s11 => rec (v2 + 1) s11)
set_option maxHeartbeats 400000 in
set_option maxRecDepth 100000 in
theorem tX10_sayString_J84 {g : zGl} (hok : zGok g) (d : Nat) (hd : 1 ≤ d) (N : Nat) (p0 : Int32)  {mc ms n0 : Nat} {Q : zO → List zE → Prop} (rec : Int32 → zS → Option ((Unit × zS) ⊕ (zS))) (r : (Unit × zS) ⊕ (zS)) (k1 : ∀ w s', r = .inl (w, s') → Q (.inl none) (zHp s')) (k2 : ∀  (s' : zS), r = .inr (s') → zW g mX10_sayString d mc ms n0 Q 0 0 (zHp s') [some (.ref 33), some (.int p0), none, none] [] 126) (hrec : ∀ (v2 : Int32) (s : zS), rec v2 s = some r → zW g mX10_sayString d mc ms n0 Q 0 0 (zHp s) [some (.ref 33), some (.int p0), some (.int v2), none] [] 8) (v2 : Int32) (v3 : Int32) (s : zS) (hf : fX10_sayString_J84 N p0 rec v2 v3 s = some r) : zW g mX10_sayString d mc ms n0 Q 0 0 (zHp s) [some (.ref 33), some (.int p0), some (.int v2), some (.int v3)] [] 84 := by
  unfold fX10_sayString_J84 at hf
  refine z_aload_n dX10_sayString_84 rfl ?_
  refine z_iload_n dX10_sayString_85 rfl ?_
  refine z_bipush 10 dX10_sayString_86 (by decide +kernel) ?_
  refine z_icmp_ne 96 dX10_sayString_88 (by decide) (fun c88 => ?_) (fun c88 => ?_)
  · have hf := zifn hf c88
    refine z_iload_n dX10_sayString_96 rfl ?_
    refine z_bipush 9 dX10_sayString_97 (by decide +kernel) ?_
    refine z_icmp_ne 107 dX10_sayString_99 (by decide) (fun c99 => ?_) (fun c99 => ?_)
    · have hf := zifn hf c99
      refine z_iload_n dX10_sayString_107 rfl ?_
      refine z_if_ne 116 dX10_sayString_108 (by decide) (fun c108 => ?_) (fun c108 => ?_)
      · have hf := zifn hf c108
        refine z_iload_n dX10_sayString_116 rfl ?_
        obtain ⟨x10, s11, q12, hf⟩ := zbn_of hf
        refine z_cV (as := [_]) hok dX10_sayString_117 kX10_256 (tX10_say hok (d - 1) N v3  q12) rfl (at_Model s) rfl rfl (by omega) (Nat.le_of_ble_eq_true rfl) (Nat.zero_le _) (Nat.zero_le _) rfl ?_
        refine z_iinc (ls' := [_, _, _, _]) (v2 + 1) dX10_sayString_120 rfl rfl (by decide) rfl ?_
        refine z_goto 8 dX10_sayString_123 (by decide) ?_
        refine z_mask (ls' := [_, _, _, _]) [true, true, true, false] rfl ?_
        exact hrec (v2 + 1) s11 hf
      · have hf := zifp hf c108
        refine z_bipush 48 dX10_sayString_111 (by decide +kernel) ?_
        refine z_goto 117 dX10_sayString_113 (by decide) ?_
        obtain ⟨x13, s14, q15, hf⟩ := zbn_of hf
        refine z_cV (as := [_]) hok dX10_sayString_117 kX10_256 (tX10_say hok (d - 1) N 48  q15) rfl (at_Model s) rfl rfl (by omega) (Nat.le_of_ble_eq_true rfl) (Nat.zero_le _) (Nat.zero_le _) rfl ?_
        refine z_iinc (ls' := [_, _, _, _]) (v2 + 1) dX10_sayString_120 rfl rfl (by decide) rfl ?_
        refine z_goto 8 dX10_sayString_123 (by decide) ?_
        refine z_mask (ls' := [_, _, _, _]) [true, true, true, false] rfl ?_
        exact hrec (v2 + 1) s14 hf
    · have hf := zifp hf c99
      refine z_bipush 116 dX10_sayString_102 (by decide +kernel) ?_
      refine z_goto 117 dX10_sayString_104 (by decide) ?_
      obtain ⟨x16, s17, q18, hf⟩ := zbn_of hf
      refine z_cV (as := [_]) hok dX10_sayString_117 kX10_256 (tX10_say hok (d - 1) N 116  q18) rfl (at_Model s) rfl rfl (by omega) (Nat.le_of_ble_eq_true rfl) (Nat.zero_le _) (Nat.zero_le _) rfl ?_
      refine z_iinc (ls' := [_, _, _, _]) (v2 + 1) dX10_sayString_120 rfl rfl (by decide) rfl ?_
      refine z_goto 8 dX10_sayString_123 (by decide) ?_
      refine z_mask (ls' := [_, _, _, _]) [true, true, true, false] rfl ?_
      exact hrec (v2 + 1) s17 hf
  · have hf := zifp hf c88
    refine z_bipush 110 dX10_sayString_91 (by decide +kernel) ?_
    refine z_goto 117 dX10_sayString_93 (by decide) ?_
    obtain ⟨x19, s20, q21, hf⟩ := zbn_of hf
    refine z_cV (as := [_]) hok dX10_sayString_117 kX10_256 (tX10_say hok (d - 1) N 110  q21) rfl (at_Model s) rfl rfl (by omega) (Nat.le_of_ble_eq_true rfl) (Nat.zero_le _) (Nat.zero_le _) rfl ?_
    refine z_iinc (ls' := [_, _, _, _]) (v2 + 1) dX10_sayString_120 rfl rfl (by decide) rfl ?_
    refine z_goto 8 dX10_sayString_123 (by decide) ?_
    refine z_mask (ls' := [_, _, _, _]) [true, true, true, false] rfl ?_
    exact hrec (v2 + 1) s20 hf
noncomputable def fX10_sayString_J78 (N : Nat) (p0 : Int32) (rec : Int32 → zS → Option ((Unit × zS) ⊕ (zS))) (v2 : Int32) (v3 : Int32) (s : zS) : Option ((Unit × zS) ⊕ (zS)) := zbn (fX10_say N 92 s) (fun x7 s8 => fX10_sayString_J84 N p0 rec v2 v3 s8)
set_option maxHeartbeats 400000 in
set_option maxRecDepth 100000 in
theorem tX10_sayString_J78 {g : zGl} (hok : zGok g) (d : Nat) (hd : 1 ≤ d) (N : Nat) (p0 : Int32)  {mc ms n0 : Nat} {Q : zO → List zE → Prop} (rec : Int32 → zS → Option ((Unit × zS) ⊕ (zS))) (r : (Unit × zS) ⊕ (zS)) (k1 : ∀ w s', r = .inl (w, s') → Q (.inl none) (zHp s')) (k2 : ∀  (s' : zS), r = .inr (s') → zW g mX10_sayString d mc ms n0 Q 0 0 (zHp s') [some (.ref 33), some (.int p0), none, none] [] 126) (hrec : ∀ (v2 : Int32) (s : zS), rec v2 s = some r → zW g mX10_sayString d mc ms n0 Q 0 0 (zHp s) [some (.ref 33), some (.int p0), some (.int v2), none] [] 8) (v2 : Int32) (v3 : Int32) (s : zS) (hf : fX10_sayString_J78 N p0 rec v2 v3 s = some r) : zW g mX10_sayString d mc ms n0 Q 0 0 (zHp s) [some (.ref 33), some (.int p0), some (.int v2), some (.int v3)] [] 78 := by
  unfold fX10_sayString_J78 at hf
  refine z_aload_n dX10_sayString_78 rfl ?_
  refine z_bipush 92 dX10_sayString_79 (by decide +kernel) ?_
  obtain ⟨x7, s8, q9, hf⟩ := zbn_of hf
  refine z_cV (as := [_]) hok dX10_sayString_81 kX10_256 (tX10_say hok (d - 1) N 92  q9) rfl (at_Model s) rfl rfl (by omega) (Nat.le_of_ble_eq_true rfl) (Nat.zero_le _) (Nat.zero_le _) rfl ?_
  refine z_mask (ls' := [_, _, _, _]) [true, true, true, true] rfl ?_
  exact tX10_sayString_J84 hok d (by omega) N p0  _ r k1 k2 hrec v2 v3 s8 hf
noncomputable def fX10_sayString_L8S (N : Nat) (p0 : Int32) (rec : Int32 → zS → Option ((Unit × zS) ⊕ (zS))) (v2 : Int32) (s : zS) : Option ((Unit × zS) ⊕ (zS)) := if zga ((5600 + (7 * p0)) + 6) (zlen 38) = true then if (s.2.1 38 ((5600 + (7 * p0)) + 6).toNatClampNeg) ≤ v2 then some (.inr (s)) else if zga (800 + p0) (zlen 49) = true then if zga ((3000 + (s.2.1 49 (800 + p0).toNatClampNeg)) + v2) (zlen 42) = true then if (s.2.1 42 ((3000 + (s.2.1 49 (800 + p0).toNatClampNeg)) + v2).toNatClampNeg) = 10 then fX10_sayString_J78 N p0 rec v2 (s.2.1 42 ((3000 + (s.2.1 49 (800 + p0).toNatClampNeg)) + v2).toNatClampNeg) s else if (s.2.1 42 ((3000 + (s.2.1 49 (800 + p0).toNatClampNeg)) + v2).toNatClampNeg) = 9 then fX10_sayString_J78 N p0 rec v2 (s.2.1 42 ((3000 + (s.2.1 49 (800 + p0).toNatClampNeg)) + v2).toNatClampNeg) s else if (s.2.1 42 ((3000 + (s.2.1 49 (800 + p0).toNatClampNeg)) + v2).toNatClampNeg) = 0 then fX10_sayString_J78 N p0 rec v2 (s.2.1 42 ((3000 + (s.2.1 49 (800 + p0).toNatClampNeg)) + v2).toNatClampNeg) s else if (s.2.1 42 ((3000 + (s.2.1 49 (800 + p0).toNatClampNeg)) + v2).toNatClampNeg) = 92 then fX10_sayString_J78 N p0 rec v2 (s.2.1 42 ((3000 + (s.2.1 49 (800 + p0).toNatClampNeg)) + v2).toNatClampNeg) s else if (s.2.1 42 ((3000 + (s.2.1 49 (800 + p0).toNatClampNeg)) + v2).toNatClampNeg) = 34 then fX10_sayString_J78 N p0 rec v2 (s.2.1 42 ((3000 + (s.2.1 49 (800 + p0).toNatClampNeg)) + v2).toNatClampNeg) s else fX10_sayString_J84 N p0 rec v2 (s.2.1 42 ((3000 + (s.2.1 49 (800 + p0).toNatClampNeg)) + v2).toNatClampNeg) s else none else none else none
noncomputable def fX10_sayString_L8 (N : Nat) (p0 : Int32) (n : Nat) : Int32 → zS → Option ((Unit × zS) ⊕ (zS)) := Nat.rec (motive := fun _ => Int32 → zS → Option ((Unit × zS) ⊕ (zS))) (fun _ _ => none) (fun _ rec => fX10_sayString_L8S N p0 rec) n
set_option maxHeartbeats 400000 in
set_option maxRecDepth 100000 in
theorem tX10_sayString_L8 {g : zGl} (hok : zGok g) (d : Nat) (hd : 1 ≤ d) (N : Nat) (p0 : Int32)  {mc ms n0 : Nat} {Q : zO → List zE → Prop} (n : Nat) : ∀ (v2 : Int32) (s : zS) (r : (Unit × zS) ⊕ (zS)) (hf : fX10_sayString_L8 N p0 n v2 s = some r) (k1 : ∀ w s', r = .inl (w, s') → Q (.inl none) (zHp s')) (k2 : ∀  (s' : zS), r = .inr (s') → zW g mX10_sayString d mc ms n0 Q 0 0 (zHp s') [some (.ref 33), some (.int p0), none, none] [] 126), zW g mX10_sayString d mc ms n0 Q 0 0 (zHp s) [some (.ref 33), some (.int p0), some (.int v2), none] [] 8 := by
  induction n with
  | zero => intro v2 s r hf; cases hf
  | succ n ih =>
    intro v2 s r hf k1 k2
    have hrec : ∀ (v2 : Int32) (s : zS) (r1 : (Unit × zS) ⊕ (zS)), fX10_sayString_L8 N p0 n v2 s = some r1 → r1 = r → zW g mX10_sayString d mc ms n0 Q 0 0 (zHp s) [some (.ref 33), some (.int p0), some (.int v2), none] [] 8 := fun v2 s r1 h e => ih v2 s r1 h (by subst e; exact k1) (by subst e; exact k2)
    have hrec : ∀ (v2 : Int32) (s : zS), fX10_sayString_L8 N p0 n v2 s = some r → zW g mX10_sayString d mc ms n0 Q 0 0 (zHp s) [some (.ref 33), some (.int p0), some (.int v2), none] [] 8 := fun v2 s h => hrec v2 s r h rfl
    have hf : fX10_sayString_L8S N p0 (fX10_sayString_L8 N p0 n) v2 s = some r := hf
    unfold fX10_sayString_L8S at hf
    refine z_iload_n dX10_sayString_8 rfl ?_
    refine z_aload_n dX10_sayString_9 rfl ?_
    refine z_getf dX10_sayString_10 fX10_22 (at_Model s) rfl ?_
    refine z_sipush 5600 dX10_sayString_13 (by decide +kernel) ?_
    refine z_bipush 7 dX10_sayString_16 (by decide +kernel) ?_
    refine z_iload_n dX10_sayString_18 rfl ?_
    refine z_imul dX10_sayString_19 ?_
    refine z_iadd dX10_sayString_20 ?_
    refine z_bipush 6 dX10_sayString_21 (by decide +kernel) ?_
    refine z_iadd dX10_sayString_23 ?_
    obtain ⟨hi4, hf⟩ := zifs hf
    refine z_iald dX10_sayString_24 (at_arr s 38 (by decide)) (zga_in hi4) ?_
    refine z_icmp_ge 126 dX10_sayString_25 (by decide) (fun c25 => ?_) (fun c25 => ?_)
    · have hf := zifp hf c25
      cases hf
      refine z_mask (ls' := [_, _, _, _]) [true, true, false, false] rfl ?_
      exact k2  _ rfl
    · have hf := zifn hf c25
      refine z_aload_n dX10_sayString_28 rfl ?_
      refine z_getf dX10_sayString_29 fX10_34 (at_Model s) rfl ?_
      refine z_sipush 3000 dX10_sayString_32 (by decide +kernel) ?_
      refine z_aload_n dX10_sayString_35 rfl ?_
      refine z_getf dX10_sayString_36 fX10_59 (at_Model s) rfl ?_
      refine z_sipush 800 dX10_sayString_39 (by decide +kernel) ?_
      refine z_iload_n dX10_sayString_42 rfl ?_
      refine z_iadd dX10_sayString_43 ?_
      obtain ⟨hi5, hf⟩ := zifs hf
      refine z_iald dX10_sayString_44 (at_arr s 49 (by decide)) (zga_in hi5) ?_
      refine z_iadd dX10_sayString_45 ?_
      refine z_iload_n dX10_sayString_46 rfl ?_
      refine z_iadd dX10_sayString_47 ?_
      obtain ⟨hi6, hf⟩ := zifs hf
      refine z_iald dX10_sayString_48 (at_arr s 42 (by decide)) (zga_in hi6) ?_
      refine z_istore_n (ls' := [_, _, _, _]) dX10_sayString_49 (by decide) rfl ?_
      refine z_iload_n dX10_sayString_50 rfl ?_
      refine z_bipush 10 dX10_sayString_51 (by decide +kernel) ?_
      refine z_icmp_eq 78 dX10_sayString_53 (by decide) (fun c53 => ?_) (fun c53 => ?_)
      · have hf := zifp hf c53
        refine z_mask (ls' := [_, _, _, _]) [true, true, true, true] rfl ?_
        exact tX10_sayString_J78 hok d (by omega) N p0  _ r k1 k2 hrec v2 (s.2.1 42 ((3000 + (s.2.1 49 (800 + p0).toNatClampNeg)) + v2).toNatClampNeg) s hf
      · have hf := zifn hf c53
        refine z_iload_n dX10_sayString_56 rfl ?_
        refine z_bipush 9 dX10_sayString_57 (by decide +kernel) ?_
        refine z_icmp_eq 78 dX10_sayString_59 (by decide) (fun c59 => ?_) (fun c59 => ?_)
        · have hf := zifp hf c59
          refine z_mask (ls' := [_, _, _, _]) [true, true, true, true] rfl ?_
          exact tX10_sayString_J78 hok d (by omega) N p0  _ r k1 k2 hrec v2 (s.2.1 42 ((3000 + (s.2.1 49 (800 + p0).toNatClampNeg)) + v2).toNatClampNeg) s hf
        · have hf := zifn hf c59
          refine z_iload_n dX10_sayString_62 rfl ?_
          refine z_if_eq 78 dX10_sayString_63 (by decide) (fun c63 => ?_) (fun c63 => ?_)
          · have hf := zifp hf c63
            refine z_mask (ls' := [_, _, _, _]) [true, true, true, true] rfl ?_
            exact tX10_sayString_J78 hok d (by omega) N p0  _ r k1 k2 hrec v2 (s.2.1 42 ((3000 + (s.2.1 49 (800 + p0).toNatClampNeg)) + v2).toNatClampNeg) s hf
          · have hf := zifn hf c63
            refine z_iload_n dX10_sayString_66 rfl ?_
            refine z_bipush 92 dX10_sayString_67 (by decide +kernel) ?_
            refine z_icmp_eq 78 dX10_sayString_69 (by decide) (fun c69 => ?_) (fun c69 => ?_)
            · have hf := zifp hf c69
              refine z_mask (ls' := [_, _, _, _]) [true, true, true, true] rfl ?_
              exact tX10_sayString_J78 hok d (by omega) N p0  _ r k1 k2 hrec v2 (s.2.1 42 ((3000 + (s.2.1 49 (800 + p0).toNatClampNeg)) + v2).toNatClampNeg) s hf
            · have hf := zifn hf c69
              refine z_iload_n dX10_sayString_72 rfl ?_
              refine z_bipush 34 dX10_sayString_73 (by decide +kernel) ?_
              refine z_icmp_ne 84 dX10_sayString_75 (by decide) (fun c75 => ?_) (fun c75 => ?_)
              · have hf := zifn hf c75
                refine z_mask (ls' := [_, _, _, _]) [true, true, true, true] rfl ?_
                exact tX10_sayString_J84 hok d (by omega) N p0  _ r k1 k2 hrec v2 (s.2.1 42 ((3000 + (s.2.1 49 (800 + p0).toNatClampNeg)) + v2).toNatClampNeg) s hf
              · have hf := zifp hf c75
                refine z_mask (ls' := [_, _, _, _]) [true, true, true, true] rfl ?_
                exact tX10_sayString_J78 hok d (by omega) N p0  _ r k1 k2 hrec v2 (s.2.1 42 ((3000 + (s.2.1 49 (800 + p0).toNatClampNeg)) + v2).toNatClampNeg) s hf
noncomputable def fX10_sayString (N : Nat) (p0 : Int32) (s : zS) : Option (Unit × zS) := zbn (fX10_say N 34 s) (fun x1 s2 => zbl (fX10_sayString_L8 N p0 N 0 s2) (fun x => some x) (fun s25 => zbn (fX10_say N 34 s25) (fun x26 s27 => some ((), s27))))
set_option maxHeartbeats 400000 in
set_option maxRecDepth 100000 in
theorem tX10_sayString {g : zGl} (hok : zGok g) (d : Nat) (hd : 1 ≤ d) (N : Nat) (p0 : Int32)  {s s' : zS} {w : Unit} (hf : fX10_sayString N p0 s = some (w, s')) : zMet g mX10_sayString d 0 0 [.ref 33, .int p0] (zHp s) (zret none (zHp s')) := by
  refine zMet.ofW (by decide +kernel) (Nat.le_of_ble_eq_true rfl) ?_
  show zW g mX10_sayString d 0 0 51 _ 0 0 (zHp s) [some (.ref 33), some (.int p0), none, none] [] 0
  unfold fX10_sayString at hf
  refine z_aload_n dX10_sayString_0 rfl ?_
  refine z_bipush 34 dX10_sayString_1 (by decide +kernel) ?_
  obtain ⟨x1, s2, q3, hf⟩ := zbn_of hf
  refine z_cV (as := [_]) hok dX10_sayString_3 kX10_256 (tX10_say hok (d - 1) N 34  q3) rfl (at_Model s) rfl rfl (by omega) (Nat.le_of_ble_eq_true rfl) (Nat.zero_le _) (Nat.zero_le _) rfl ?_
  refine z_iconst 0 dX10_sayString_6 (by decide +kernel) ?_
  refine z_istore_n (ls' := [_, _, _, _]) dX10_sayString_7 (by decide) rfl ?_
  refine z_mask (ls' := [_, _, _, _]) [true, true, true, false] rfl ?_
  rcases zbl_of hf with ⟨lr23, le24, hf⟩ | ⟨lr23, le24, hf⟩
  · cases hf
    exact tX10_sayString_L8 hok d (by omega) N p0  N 0 s2 _ le24 (fun w1 s1 hh => by cases hh; exact ⟨rfl, rfl⟩) (fun  _ hh => by cases hh)
  · obtain ⟨s25, rfl⟩ : ∃ z, z = lr23 := ⟨_, rfl⟩
    refine tX10_sayString_L8 hok d (by omega) N p0  N 0 s2 _ le24 (fun w1 s1 hh => by cases hh) (fun  _ hh => ?_)
    cases hh
    refine z_aload_n dX10_sayString_126 rfl ?_
    refine z_bipush 34 dX10_sayString_127 (by decide +kernel) ?_
    obtain ⟨x26, s27, q28, hf⟩ := zbn_of hf
    refine z_cV (as := [_]) hok dX10_sayString_129 kX10_256 (tX10_say hok (d - 1) N 34  q28) rfl (at_Model s25) rfl rfl (by omega) (Nat.le_of_ble_eq_true rfl) (Nat.zero_le _) (Nat.zero_le _) rfl ?_
    cases hf
    exact z_vret rfl dX10_sayString_132 (Nat.zero_le _) (Nat.zero_le _) ⟨rfl, rfl⟩

