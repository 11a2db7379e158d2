noncomputable def fX7_byteOfOut (N : Nat) (p0 : Int32) (s : zS) : Option (Int32 × zS) := if p0 < 0 then some ((-1), s) else if (s.1 3001) ≤ p0 then some ((-1), s) else if (nI (zlen 31)) ≤ p0 then some ((-1), s) else if zga p0 (zlen 31) = true then some (s.2.1 31 p0.toNatClampNeg, s) else none
set_option maxHeartbeats 400000 in
set_option maxRecDepth 100000 in
theorem tX7_byteOfOut {g : zGl} (hok : zGok g) (d : Nat)  (N : Nat) (p0 : Int32)  {s s' : zS} {w : Int32} (hf : fX7_byteOfOut N p0 s = some (w, s')) : zMet g mX7_byteOfOut d 0 0 [.ref 30, .int p0] (zHp s) (zret (some (.int w)) (zHp s')) := by
  refine zMet.ofW (by decide +kernel) (Nat.le_of_ble_eq_true rfl) ?_
  show zW g mX7_byteOfOut d 0 0 51 _ 0 0 (zHp s) [some (.ref 30), some (.int p0)] [] 0
  unfold fX7_byteOfOut at hf
  refine z_iload_n dX7_byteOfOut_0 rfl ?_
  refine z_if_lt 30 dX7_byteOfOut_1 (by decide) (fun c1 => ?_) (fun c1 => ?_)
  · have hf := zifp hf c1
    refine z_iconst (-1) dX7_byteOfOut_30 (by decide +kernel) ?_
    cases hf
    exact z_iret rfl dX7_byteOfOut_31 (Nat.zero_le _) (Nat.zero_le _) ⟨rfl, rfl⟩
  · have hf := zifn hf c1
    refine z_iload_n dX7_byteOfOut_4 rfl ?_
    refine z_aload_n dX7_byteOfOut_5 rfl ?_
    refine z_getf dX7_byteOfOut_6 fX7_30 (at_Teller s) rfl ?_
    refine z_icmp_ge 30 dX7_byteOfOut_9 (by decide) (fun c9 => ?_) (fun c9 => ?_)
    · have hf := zifp hf c9
      refine z_iconst (-1) dX7_byteOfOut_30 (by decide +kernel) ?_
      cases hf
      exact z_iret rfl dX7_byteOfOut_31 (Nat.zero_le _) (Nat.zero_le _) ⟨rfl, rfl⟩
    · have hf := zifn hf c9
      refine z_iload_n dX7_byteOfOut_12 rfl ?_
      refine z_aload_n dX7_byteOfOut_13 rfl ?_
      refine z_getf dX7_byteOfOut_14 fX7_11 (at_Teller s) rfl ?_
      refine z_alen dX7_byteOfOut_17 (at_arr s 31 (by decide)) ?_
      refine z_icmp_ge 30 dX7_byteOfOut_18 (by decide) (fun c18 => ?_) (fun c18 => ?_)
      · have hf := zifp hf c18
        refine z_iconst (-1) dX7_byteOfOut_30 (by decide +kernel) ?_
        cases hf
        exact z_iret rfl dX7_byteOfOut_31 (Nat.zero_le _) (Nat.zero_le _) ⟨rfl, rfl⟩
      · have hf := zifn hf c18
        refine z_aload_n dX7_byteOfOut_21 rfl ?_
        refine z_getf dX7_byteOfOut_22 fX7_11 (at_Teller s) rfl ?_
        refine z_iload_n dX7_byteOfOut_25 rfl ?_
        obtain ⟨hi1, hf⟩ := zifs hf
        refine z_iald dX7_byteOfOut_26 (at_arr s 31 (by decide)) (zga_in hi1) ?_
        refine z_goto 31 dX7_byteOfOut_27 (by decide) ?_
        cases hf
        exact z_iret rfl dX7_byteOfOut_31 (Nat.zero_le _) (Nat.zero_le _) ⟨rfl, rfl⟩

noncomputable def fX7_putByte (N : Nat) (p0 : Int32) (s : zS) : Option (Unit × zS) := if (nI (zlen 31)) ≤ (s.1 3001) then some ((), s) else if zga (s.1 3001) (zlen 31) = true then some ((), (zsc (zsr s 31 (s.1 3001) p0) 3001 ((s.1 3001) + 1))) else none
set_option maxHeartbeats 400000 in
set_option maxRecDepth 100000 in
theorem tX7_putByte {g : zGl} (hok : zGok g) (d : Nat)  (N : Nat) (p0 : Int32)  {s s' : zS} {w : Unit} (hf : fX7_putByte N p0 s = some (w, s')) : zMet g mX7_putByte d 0 0 [.ref 30, .int p0] (zHp s) (zret none (zHp s')) := by
  refine zMet.ofW (by decide +kernel) (Nat.le_of_ble_eq_true rfl) ?_
  show zW g mX7_putByte d 0 0 51 _ 0 0 (zHp s) [some (.ref 30), some (.int p0)] [] 0
  unfold fX7_putByte at hf
  refine z_aload_n dX7_putByte_0 rfl ?_
  refine z_getf dX7_putByte_1 fX7_30 (at_Teller s) rfl ?_
  refine z_aload_n dX7_putByte_4 rfl ?_
  refine z_getf dX7_putByte_5 fX7_11 (at_Teller s) rfl ?_
  refine z_alen dX7_putByte_8 (at_arr s 31 (by decide)) ?_
  refine z_icmp_ge 32 dX7_putByte_9 (by decide) (fun c9 => ?_) (fun c9 => ?_)
  · have hf := zifp hf c9
    cases hf
    exact z_vret rfl dX7_putByte_32 (Nat.zero_le _) (Nat.zero_le _) ⟨rfl, rfl⟩
  · have hf := zifn hf c9
    refine z_aload_n dX7_putByte_12 rfl ?_
    refine z_getf dX7_putByte_13 fX7_11 (at_Teller s) rfl ?_
    refine z_aload_n dX7_putByte_16 rfl ?_
    refine z_getf dX7_putByte_17 fX7_30 (at_Teller s) rfl ?_
    refine z_iload_n dX7_putByte_20 rfl ?_
    obtain ⟨hi1, hf⟩ := zifs hf
    refine z_iastore dX7_putByte_21 (at_arr s 31 (by decide)) (zga_in hi1) (st_arr s 31 (by decide) (s.1 3001) p0) ?_
    refine z_aload_n dX7_putByte_22 rfl ?_
    refine z_dup dX7_putByte_23 rfl ?_
    refine z_getf dX7_putByte_24 fX7_30 (at_Teller (zsr s 31 (s.1 3001) p0)) rfl ?_
    refine z_iconst 1 dX7_putByte_27 (by decide +kernel) ?_
    refine z_iadd dX7_putByte_28 ?_
    refine z_putf dX7_putByte_29 fX7_30 wX7_1 (at_Teller (zsr s 31 (s.1 3001) p0)) (Nat.le_of_ble_eq_true rfl) (fun _ => rfl) (fun _ => rfl) (st_Teller_1 (zsr s 31 (s.1 3001) p0) ((s.1 3001) + 1)) ?_
    cases hf
    exact z_vret rfl dX7_putByte_32 (Nat.zero_le _) (Nat.zero_le _) ⟨rfl, rfl⟩

noncomputable def fX7_putText_L2S (N : Nat) (p0 : Nat) (rec : Int32 → zS → Option ((Unit × zS) ⊕ (zS))) (v2 : Int32) (s : zS) : Option ((Unit × zS) ⊕ (zS)) := if zsk p0 = true then zbn (fJ0_length_8abf5 N p0 s) (fun x1 s2 => if x1 ≤ v2 then some (.inr (s2)) else if zsk p0 = true then zbn (fJ0_charAt_5068e N p0 v2 s2) (fun x5 s6 => zbn (fX7_putByte N x5 s6) (fun x9 s10 => rec (v2 + 1) s10)) else none) else none
noncomputable def fX7_putText_L2 (N : Nat) (p0 : Nat) (n : Nat) : Int32 → zS → Option ((Unit × zS) ⊕ (zS)) := Nat.rec (motive := fun _ => Int32 → zS → Option ((Unit × zS) ⊕ (zS))) (fun _ _ => none) (fun _ rec => fX7_putText_L2S N p0 rec) n
set_option maxHeartbeats 400000 in
set_option maxRecDepth 100000 in
theorem tX7_putText_L2 {g : zGl} (hok : zGok g) (d : Nat) (hd : 4 ≤ d) (N : Nat) (p0 : Nat)  {mc ms n0 : Nat} {Q : zO → List zE → Prop} (n : Nat) : ∀ (v2 : Int32) (s : zS) (r : (Unit × zS) ⊕ (zS)) (hf : fX7_putText_L2 N p0 n v2 s = some r) (k1 : ∀ w s', r = .inl (w, s') → Q (.inl none) (zHp s')) (k2 : ∀  (s' : zS), r = .inr (s') → zW g mX7_putText d mc ms n0 Q 0 0 (zHp s') [some (.ref 30), some (.ref p0), none] [] 25), zW g mX7_putText d mc ms n0 Q 0 0 (zHp s) [some (.ref 30), some (.ref p0), some (.int v2)] [] 2 := by
  induction n with
  | zero => intro v2 s r hf; cases hf
  | succ n ih =>
    intro v2 s r hf k1 k2
    have hrec : ∀ (v2 : Int32) (s : zS) (r1 : (Unit × zS) ⊕ (zS)), fX7_putText_L2 N p0 n v2 s = some r1 → r1 = r → zW g mX7_putText d mc ms n0 Q 0 0 (zHp s) [some (.ref 30), some (.ref p0), some (.int v2)] [] 2 := fun v2 s r1 h e => ih v2 s r1 h (by subst e; exact k1) (by subst e; exact k2)
    have hrec : ∀ (v2 : Int32) (s : zS), fX7_putText_L2 N p0 n v2 s = some r → zW g mX7_putText d mc ms n0 Q 0 0 (zHp s) [some (.ref 30), some (.ref p0), some (.int v2)] [] 2 := fun v2 s h => hrec v2 s r h rfl
    have hf : fX7_putText_L2S N p0 (fX7_putText_L2 N p0 n) v2 s = some r := hf
    unfold fX7_putText_L2S at hf
    refine z_iload_n dX7_putText_2 rfl ?_
    refine z_aload_n dX7_putText_3 rfl ?_
    obtain ⟨hq4, hf⟩ := zifs hf
    obtain ⟨x1, s2, q3, hf⟩ := zbn_of hf
    refine z_callVs (as := []) hok dX7_putText_4 kX7_53 (tJ0_length_8abf5 hok (d - 1) (by omega) N p0  q3) rfl hq4 rfl rfl (by omega) (Nat.le_of_ble_eq_true rfl) (Nat.zero_le _) (Nat.zero_le _) rfl ?_
    refine z_icmp_ge 25 dX7_putText_7 (by decide) (fun c7 => ?_) (fun c7 => ?_)
    · have hf := zifp hf c7
      cases hf
      refine z_mask (ls' := [_, _, _]) [true, true, false] rfl ?_
      exact k2  _ rfl
    · have hf := zifn hf c7
      refine z_aload_n dX7_putText_10 rfl ?_
      refine z_aload_n dX7_putText_11 rfl ?_
      refine z_iload_n dX7_putText_12 rfl ?_
      obtain ⟨hq8, hf⟩ := zifs hf
      obtain ⟨x5, s6, q7, hf⟩ := zbn_of hf
      refine z_callVs (as := [_]) hok dX7_putText_13 kX7_59 (tJ0_charAt_5068e hok (d - 1) (by omega) N p0 v2  q7) rfl hq8 rfl rfl (by omega) (Nat.le_of_ble_eq_true rfl) (Nat.zero_le _) (Nat.zero_le _) rfl ?_
      obtain ⟨x9, s10, q11, hf⟩ := zbn_of hf
      refine z_cV (as := [_]) hok dX7_putText_16 kX7_34 (tX7_putByte hok (d - 1) N x5  q11) rfl (at_Teller s6) rfl rfl (by omega) (Nat.le_of_ble_eq_true rfl) (Nat.zero_le _) (Nat.zero_le _) rfl ?_
      refine z_iinc (ls' := [_, _, _]) (v2 + 1) dX7_putText_19 rfl rfl (by decide) rfl ?_
      refine z_goto 2 dX7_putText_22 (by decide) ?_
      refine z_mask (ls' := [_, _, _]) [true, true, true] rfl ?_
      exact hrec (v2 + 1) s10 hf
noncomputable def fX7_putText (N : Nat) (p0 : Nat) (s : zS) : Option (Unit × zS) := zbl (fX7_putText_L2 N p0 N 0 s) (fun x => some x) (fun s15 => some ((), s15))
set_option maxHeartbeats 400000 in
set_option maxRecDepth 100000 in
theorem tX7_putText {g : zGl} (hok : zGok g) (d : Nat) (hd : 4 ≤ d) (N : Nat) (p0 : Nat)  {s s' : zS} {w : Unit} (hf : fX7_putText N p0 s = some (w, s')) : zMet g mX7_putText d 0 0 [.ref 30, .ref p0] (zHp s) (zret none (zHp s')) := by
  refine zMet.ofW (by decide +kernel) (Nat.le_of_ble_eq_true rfl) ?_
  show zW g mX7_putText d 0 0 51 _ 0 0 (zHp s) [some (.ref 30), some (.ref p0), none] [] 0
  unfold fX7_putText at hf
  refine z_iconst 0 dX7_putText_0 (by decide +kernel) ?_
  refine z_istore_n (ls' := [_, _, _]) dX7_putText_1 (by decide) rfl ?_
  refine z_mask (ls' := [_, _, _]) [true, true, true] rfl ?_
  rcases zbl_of hf with ⟨lr13, le14, hf⟩ | ⟨lr13, le14, hf⟩
  · cases hf
    exact tX7_putText_L2 hok d (by omega) N p0  N 0 s _ le14 (fun w1 s1 hh => by cases hh; exact ⟨rfl, rfl⟩) (fun  _ hh => by cases hh)
  · obtain ⟨s15, rfl⟩ : ∃ z, z = lr13 := ⟨_, rfl⟩
    refine tX7_putText_L2 hok d (by omega) N p0  N 0 s _ le14 (fun w1 s1 hh => by cases hh) (fun  _ hh => ?_)
    cases hh
    cases hf
    exact z_vret rfl dX7_putText_25 (Nat.zero_le _) (Nat.zero_le _) ⟨rfl, rfl⟩

noncomputable def fX7_putName_L28S (N : Nat) (p0 : Nat) (p1 : Int32) (rec : Int32 → Int32 → zS → Option ((Unit × zS) ⊕ (zS))) (v4 : Int32) (v5 : Int32) (s : zS) : Option ((Unit × zS) ⊕ (zS)) := if v5 < 0 then some (.inr (s)) else if v4 ≤ v5 then some (.inr (s)) else if (nI (zlen (p0 + 9))) ≤ v5 then some (.inr (s)) else if zga v5 (zlen (p0 + 9)) = true then zbn (fX7_putByte N (s.2.1 (p0 + 9) v5.toNatClampNeg) s) (fun x8 s9 => rec v4 (v5 + 1) s9) else none
noncomputable def fX7_putName_L28 (N : Nat) (p0 : Nat) (p1 : Int32) (n : Nat) : Int32 → Int32 → zS → Option ((Unit × zS) ⊕ (zS)) := Nat.rec (motive := fun _ => Int32 → Int32 → zS → Option ((Unit × zS) ⊕ (zS))) (fun _ _ _ => none) (fun _ rec => fX7_putName_L28S N p0 p1 rec) n
set_option maxHeartbeats 400000 in
set_option maxRecDepth 100000 in
theorem tX7_putName_L28 {g : zGl} (hok : zGok g) (d : Nat) (hd : 1 ≤ d) (N : Nat) (p0 : Nat) (p1 : Int32) (hp0 : zBk p0) {mc ms n0 : Nat} {Q : zO → List zE → Prop} (n : Nat) : ∀ (v4 : Int32) (v5 : Int32) (s : zS) (r : (Unit × zS) ⊕ (zS)) (hf : fX7_putName_L28 N p0 p1 n v4 v5 s = some r) (k1 : ∀ w s', r = .inl (w, s') → Q (.inl none) (zHp s')) (k2 : ∀  (s' : zS), r = .inr (s') → zW g mX7_putName d mc ms n0 Q 0 0 (zHp s') [some (.ref 30), some (.ref p0), some (.int p1), none, none, none] [] 67), zW g mX7_putName d mc ms n0 Q 0 0 (zHp s) [some (.ref 30), some (.ref p0), some (.int p1), none, some (.int v4), some (.int v5)] [] 28 := by
  induction n with
  | zero => intro v4 v5 s r hf; cases hf
  | succ n ih =>
    intro v4 v5 s r hf k1 k2
    have hrec : ∀ (v4 : Int32) (v5 : Int32) (s : zS) (r1 : (Unit × zS) ⊕ (zS)), fX7_putName_L28 N p0 p1 n v4 v5 s = some r1 → r1 = r → zW g mX7_putName d mc ms n0 Q 0 0 (zHp s) [some (.ref 30), some (.ref p0), some (.int p1), none, some (.int v4), some (.int v5)] [] 28 := fun v4 v5 s r1 h e => ih v4 v5 s r1 h (by subst e; exact k1) (by subst e; exact k2)
    have hrec : ∀ (v4 : Int32) (v5 : Int32) (s : zS), fX7_putName_L28 N p0 p1 n v4 v5 s = some r → zW g mX7_putName d mc ms n0 Q 0 0 (zHp s) [some (.ref 30), some (.ref p0), some (.int p1), none, some (.int v4), some (.int v5)] [] 28 := fun v4 v5 s h => hrec v4 v5 s r h rfl
    have hf : fX7_putName_L28S N p0 p1 (fX7_putName_L28 N p0 p1 n) v4 v5 s = some r := hf
    unfold fX7_putName_L28S at hf
    refine z_iload dX7_putName_28 rfl ?_
    refine z_if_lt 67 dX7_putName_30 (by decide) (fun c30 => ?_) (fun c30 => ?_)
    · have hf := zifp hf c30
      cases hf
      refine z_mask (ls' := [_, _, _, _, _, _]) [true, true, true, false, false, false] rfl ?_
      exact k2  _ rfl
    · have hf := zifn hf c30
      refine z_iload dX7_putName_33 rfl ?_
      refine z_iload dX7_putName_35 rfl ?_
      refine z_icmp_ge 67 dX7_putName_37 (by decide) (fun c37 => ?_) (fun c37 => ?_)
      · have hf := zifp hf c37
        cases hf
        refine z_mask (ls' := [_, _, _, _, _, _]) [true, true, true, false, false, false] rfl ?_
        exact k2  _ rfl
      · have hf := zifn hf c37
        refine z_iload dX7_putName_40 rfl ?_
        refine z_aload_n dX7_putName_42 rfl ?_
        refine z_getN hok dX7_putName_43 fX7_66 (at_Book s p0 hp0) rfl ?_
        refine z_alen dX7_putName_46 (at_arr s (p0 + 9) (zBk_t p0 hp0).2.2.2.2) ?_
        refine z_icmp_ge 67 dX7_putName_47 (by decide) (fun c47 => ?_) (fun c47 => ?_)
        · have hf := zifp hf c47
          cases hf
          refine z_mask (ls' := [_, _, _, _, _, _]) [true, true, true, false, false, false] rfl ?_
          exact k2  _ rfl
        · have hf := zifn hf c47
          refine z_aload_n dX7_putName_50 rfl ?_
          refine z_aload_n dX7_putName_51 rfl ?_
          refine z_getN hok dX7_putName_52 fX7_66 (at_Book s p0 hp0) rfl ?_
          refine z_iload dX7_putName_55 rfl ?_
          obtain ⟨hi7, hf⟩ := zifs hf
          refine z_iald dX7_putName_57 (at_arr s (p0 + 9) (zBk_t p0 hp0).2.2.2.2) (zga_in hi7) ?_
          obtain ⟨x8, s9, q10, hf⟩ := zbn_of hf
          refine z_cV (as := [_]) hok dX7_putName_58 kX7_34 (tX7_putByte hok (d - 1) N (s.2.1 (p0 + 9) v5.toNatClampNeg)  q10) rfl (at_Teller s) rfl rfl (by omega) (Nat.le_of_ble_eq_true rfl) (Nat.zero_le _) (Nat.zero_le _) rfl ?_
          refine z_iinc (ls' := [_, _, _, _, _, _]) (v5 + 1) dX7_putName_61 rfl rfl (by decide) rfl ?_
          refine z_goto 28 dX7_putName_64 (by decide) ?_
          refine z_mask (ls' := [_, _, _, _, _, _]) [true, true, true, false, true, true] rfl ?_
          exact hrec v4 (v5 + 1) s9 hf
noncomputable def fX7_putName (N : Nat) (p0 : Nat) (p1 : Int32) (s : zS) : Option (Unit × zS) := zbn (fX6_cell N (p0 + 7) p1 0 0 s) (fun x1 s2 => zbn (fX6_cell N (p0 + 7) p1 1 0 s2) (fun x4 s5 => zbl (fX7_putName_L28 N p0 p1 N (x1 + x4) x1 s5) (fun x => some x) (fun s14 => some ((), s14))))
set_option maxHeartbeats 400000 in
set_option maxRecDepth 100000 in
theorem tX7_putName {g : zGl} (hok : zGok g) (d : Nat) (hd : 1 ≤ d) (N : Nat) (p0 : Nat) (p1 : Int32) (hp0 : zBk p0) {s s' : zS} {w : Unit} (hf : fX7_putName N p0 p1 s = some (w, s')) : zMet g mX7_putName d 0 0 [.ref 30, .ref p0, .int p1] (zHp s) (zret none (zHp s')) := by
  refine zMet.ofW (by decide +kernel) (Nat.le_of_ble_eq_true rfl) ?_
  show zW g mX7_putName d 0 0 51 _ 0 0 (zHp s) [some (.ref 30), some (.ref p0), some (.int p1), none, none, none] [] 0
  unfold fX7_putName at hf
  refine z_aload_n dX7_putName_0 rfl ?_
  refine z_getN hok dX7_putName_1 fX7_63 (at_Book s p0 hp0) rfl ?_
  refine z_iload_n dX7_putName_4 rfl ?_
  refine z_iconst 0 dX7_putName_5 (by decide +kernel) ?_
  refine z_iconst 0 dX7_putName_6 (by decide +kernel) ?_
  obtain ⟨x1, s2, q3, hf⟩ := zbn_of hf
  refine z_cV (as := [_, _, _]) hok dX7_putName_7 kX7_24 (tX6_cell hok (d - 1) N (p0 + 7) p1 0 0 (zBk_t p0 hp0).2.2.2.1 q3) rfl (at_Table s (p0 + 7) (zBk_t p0 hp0).2.2.2.1) rfl rfl (by omega) (Nat.le_of_ble_eq_true rfl) (Nat.zero_le _) (Nat.zero_le _) rfl ?_
  refine z_istore_n (ls' := [_, _, _, _, _, _]) dX7_putName_10 (by decide) rfl ?_
  refine z_iload_n dX7_putName_11 rfl ?_
  refine z_aload_n dX7_putName_12 rfl ?_
  refine z_getN hok dX7_putName_13 fX7_63 (at_Book s2 p0 hp0) rfl ?_
  refine z_iload_n dX7_putName_16 rfl ?_
  refine z_iconst 1 dX7_putName_17 (by decide +kernel) ?_
  refine z_iconst 0 dX7_putName_18 (by decide +kernel) ?_
  obtain ⟨x4, s5, q6, hf⟩ := zbn_of hf
  refine z_cV (as := [_, _, _]) hok dX7_putName_19 kX7_24 (tX6_cell hok (d - 1) N (p0 + 7) p1 1 0 (zBk_t p0 hp0).2.2.2.1 q6) rfl (at_Table s2 (p0 + 7) (zBk_t p0 hp0).2.2.2.1) rfl rfl (by omega) (Nat.le_of_ble_eq_true rfl) (Nat.zero_le _) (Nat.zero_le _) rfl ?_
  refine z_iadd dX7_putName_22 ?_
  refine z_istore (ls' := [_, _, _, _, _, _]) dX7_putName_23 (by decide) rfl ?_
  refine z_iload_n dX7_putName_25 rfl ?_
  refine z_istore (ls' := [_, _, _, _, _, _]) dX7_putName_26 (by decide) rfl ?_
  refine z_mask (ls' := [_, _, _, _, _, _]) [true, true, true, false, true, true] rfl ?_
  rcases zbl_of hf with ⟨lr12, le13, hf⟩ | ⟨lr12, le13, hf⟩
  · cases hf
    exact tX7_putName_L28 hok d (by omega) N p0 p1 hp0 N (x1 + x4) x1 s5 _ le13 (fun w1 s1 hh => by cases hh; exact ⟨rfl, rfl⟩) (fun  _ hh => by cases hh)
  · obtain ⟨s14, rfl⟩ : ∃ z, z = lr12 := ⟨_, rfl⟩
    refine tX7_putName_L28 hok d (by omega) N p0 p1 hp0 N (x1 + x4) x1 s5 _ le13 (fun w1 s1 hh => by cases hh) (fun  _ hh => ?_)
    cases hh
    cases hf
    exact z_vret rfl dX7_putName_67 (Nat.zero_le _) (Nat.zero_le _) ⟨rfl, rfl⟩

noncomputable def fX7_putNumber_L13S (N : Nat) (p0 : Int32) (rec : Int64 → Int64 → Int32 → zS → Option ((Unit × zS) ⊕ (Int64 × Int64 × zS))) (v2 : Int64) (v4 : Int64) (v6 : Int32) (s : zS) : Option ((Unit × zS) ⊕ (Int64 × Int64 × zS)) := if 10 ≤ v6 then some (.inr (v2, v4, s)) else if 0 < (lg_cmp (v4 * 10) v2) then some (.inr (v2, v4, s)) else rec v2 (v4 * 10) (v6 + 1) s
noncomputable def fX7_putNumber_L13 (N : Nat) (p0 : Int32) (n : Nat) : Int64 → Int64 → Int32 → zS → Option ((Unit × zS) ⊕ (Int64 × Int64 × zS)) := Nat.rec (motive := fun _ => Int64 → Int64 → Int32 → zS → Option ((Unit × zS) ⊕ (Int64 × Int64 × zS))) (fun _ _ _ _ => none) (fun _ rec => fX7_putNumber_L13S N p0 rec) n
set_option maxHeartbeats 400000 in
set_option maxRecDepth 100000 in
theorem tX7_putNumber_L13 {g : zGl} (hok : zGok g) (d : Nat)  (N : Nat) (p0 : Int32)  {mc ms n0 : Nat} {Q : zO → List zE → Prop} (n : Nat) : ∀ (v2 : Int64) (v4 : Int64) (v6 : Int32) (s : zS) (r : (Unit × zS) ⊕ (Int64 × Int64 × zS)) (hf : fX7_putNumber_L13 N p0 n v2 v4 v6 s = some r) (k1 : ∀ w s', r = .inl (w, s') → Q (.inl none) (zHp s')) (k2 : ∀ (y2 : Int64) (y4 : Int64) (s' : zS), r = .inr (y2, y4, s') → zW g mX7_putNumber d mc ms n0 Q 0 0 (zHp s') [some (.ref 30), some (.int p0), some (.long y2), none, some (.long y4), none, none] [] 45), zW g mX7_putNumber d mc ms n0 Q 0 0 (zHp s) [some (.ref 30), some (.int p0), some (.long v2), none, some (.long v4), none, some (.int v6)] [] 13 := by
  induction n with
  | zero => intro v2 v4 v6 s r hf; cases hf
  | succ n ih =>
    intro v2 v4 v6 s r hf k1 k2
    have hrec : ∀ (v2 : Int64) (v4 : Int64) (v6 : Int32) (s : zS) (r1 : (Unit × zS) ⊕ (Int64 × Int64 × zS)), fX7_putNumber_L13 N p0 n v2 v4 v6 s = some r1 → r1 = r → zW g mX7_putNumber d mc ms n0 Q 0 0 (zHp s) [some (.ref 30), some (.int p0), some (.long v2), none, some (.long v4), none, some (.int v6)] [] 13 := fun v2 v4 v6 s r1 h e => ih v2 v4 v6 s r1 h (by subst e; exact k1) (by subst e; exact k2)
    have hrec : ∀ (v2 : Int64) (v4 : Int64) (v6 : Int32) (s : zS), fX7_putNumber_L13 N p0 n v2 v4 v6 s = some r → zW g mX7_putNumber d mc ms n0 Q 0 0 (zHp s) [some (.ref 30), some (.int p0), some (.long v2), none, some (.long v4), none, some (.int v6)] [] 13 := fun v2 v4 v6 s h => hrec v2 v4 v6 s r h rfl
    have hf : fX7_putNumber_L13S N p0 (fX7_putNumber_L13 N p0 n) v2 v4 v6 s = some r := hf
    unfold fX7_putNumber_L13S at hf
    refine z_iload dX7_putNumber_13 rfl ?_
    refine z_bipush 10 dX7_putNumber_15 (by decide +kernel) ?_
    refine z_icmp_ge 45 dX7_putNumber_17 (by decide) (fun c17 => ?_) (fun c17 => ?_)
    · have hf := zifp hf c17
      cases hf
      refine z_mask (ls' := [_, _, _, _, _, _, _]) [true, true, true, false, true, false, false] rfl ?_
      exact k2 _ _ _ rfl
    · have hf := zifn hf c17
      refine z_lload dX7_putNumber_20 rfl ?_
      refine z_ldc2 dX7_putNumber_22 lX7_71 ?_
      refine z_lmul dX7_putNumber_25 ?_
      refine z_lload_n dX7_putNumber_26 rfl ?_
      refine z_lcmp dX7_putNumber_27 ?_
      refine z_if_gt 45 dX7_putNumber_28 (by decide) (fun c28 => ?_) (fun c28 => ?_)
      · have hf := zifp hf c28
        cases hf
        refine z_mask (ls' := [_, _, _, _, _, _, _]) [true, true, true, false, true, false, false] rfl ?_
        exact k2 _ _ _ rfl
      · have hf := zifn hf c28
        refine z_lload dX7_putNumber_31 rfl ?_
        refine z_ldc2 dX7_putNumber_33 lX7_71 ?_
        refine z_lmul dX7_putNumber_36 ?_
        refine z_lstore (ls' := [_, _, _, _, _, _, _]) dX7_putNumber_37 (by decide) rfl ?_
        refine z_iinc (ls' := [_, _, _, _, _, _, _]) (v6 + 1) dX7_putNumber_39 rfl rfl (by decide) rfl ?_
        refine z_goto 13 dX7_putNumber_42 (by decide) ?_
        refine z_mask (ls' := [_, _, _, _, _, _, _]) [true, true, true, false, true, false, true] rfl ?_
        exact hrec v2 (v4 * 10) (v6 + 1) s hf
noncomputable def fX7_putNumber_L45S (N : Nat) (p0 : Int32) (rec : Int64 → Int64 → zS → Option ((Unit × zS) ⊕ (zS))) (v2 : Int64) (v4 : Int64) (s : zS) : Option ((Unit × zS) ⊕ (zS)) := if (lg_cmp v4 0) ≤ 0 then some (.inr (s)) else if ¬ v4 = 0 then zbn (fX7_putByte N (48 + (((v2 / v4) - (v2 / v4) / 10 * 10).toInt32)) s) (fun x9 s10 => rec v2 (v4 / 10) s10) else none
noncomputable def fX7_putNumber_L45 (N : Nat) (p0 : Int32) (n : Nat) : Int64 → Int64 → zS → Option ((Unit × zS) ⊕ (zS)) := Nat.rec (motive := fun _ => Int64 → Int64 → zS → Option ((Unit × zS) ⊕ (zS))) (fun _ _ _ => none) (fun _ rec => fX7_putNumber_L45S N p0 rec) n
set_option maxHeartbeats 400000 in
set_option maxRecDepth 100000 in
theorem tX7_putNumber_L45 {g : zGl} (hok : zGok g) (d : Nat) (hd : 1 ≤ d) (N : Nat) (p0 : Int32)  {mc ms n0 : Nat} {Q : zO → List zE → Prop} (n : Nat) : ∀ (v2 : Int64) (v4 : Int64) (s : zS) (r : (Unit × zS) ⊕ (zS)) (hf : fX7_putNumber_L45 N p0 n v2 v4 s = some r) (k1 : ∀ w s', r = .inl (w, s') → Q (.inl none) (zHp s')) (k2 : ∀  (s' : zS), r = .inr (s') → zW g mX7_putNumber d mc ms n0 Q 0 0 (zHp s') [some (.ref 30), some (.int p0), none, none, none, none, none] [] 79), zW g mX7_putNumber d mc ms n0 Q 0 0 (zHp s) [some (.ref 30), some (.int p0), some (.long v2), none, some (.long v4), none, none] [] 45 := by
  induction n with
  | zero => intro v2 v4 s r hf; cases hf
  | succ n ih =>
    intro v2 v4 s r hf k1 k2
    have hrec : ∀ (v2 : Int64) (v4 : Int64) (s : zS) (r1 : (Unit × zS) ⊕ (zS)), fX7_putNumber_L45 N p0 n v2 v4 s = some r1 → r1 = r → zW g mX7_putNumber d mc ms n0 Q 0 0 (zHp s) [some (.ref 30), some (.int p0), some (.long v2), none, some (.long v4), none, none] [] 45 := fun v2 v4 s r1 h e => ih v2 v4 s r1 h (by subst e; exact k1) (by subst e; exact k2)
    have hrec : ∀ (v2 : Int64) (v4 : Int64) (s : zS), fX7_putNumber_L45 N p0 n v2 v4 s = some r → zW g mX7_putNumber d mc ms n0 Q 0 0 (zHp s) [some (.ref 30), some (.int p0), some (.long v2), none, some (.long v4), none, none] [] 45 := fun v2 v4 s h => hrec v2 v4 s r h rfl
    have hf : fX7_putNumber_L45S N p0 (fX7_putNumber_L45 N p0 n) v2 v4 s = some r := hf
    unfold fX7_putNumber_L45S at hf
    refine z_lload dX7_putNumber_45 rfl ?_
    refine z_lconst 0 dX7_putNumber_47 (by decide +kernel) ?_
    refine z_lcmp dX7_putNumber_48 ?_
    refine z_if_le 79 dX7_putNumber_49 (by decide) (fun c49 => ?_) (fun c49 => ?_)
    · have hf := zifp hf c49
      cases hf
      refine z_mask (ls' := [_, _, _, _, _, _, _]) [true, true, false, false, false, false, false] rfl ?_
      exact k2  _ rfl
    · have hf := zifn hf c49
      refine z_aload_n dX7_putNumber_52 rfl ?_
      refine z_bipush 48 dX7_putNumber_53 (by decide +kernel) ?_
      refine z_lload_n dX7_putNumber_55 rfl ?_
      refine z_lload dX7_putNumber_56 rfl ?_
      obtain ⟨nz7, hf⟩ := zifs hf
      refine z_ldiv dX7_putNumber_58 nz7 ?_
      refine z_ldc2 dX7_putNumber_59 lX7_71 ?_
      refine z_lrem dX7_putNumber_62 (by decide) ?_
      refine z_l2i dX7_putNumber_63 ?_
      refine z_iadd dX7_putNumber_64 ?_
      obtain ⟨x9, s10, q11, hf⟩ := zbn_of hf
      refine z_cV (as := [_]) hok dX7_putNumber_65 kX7_34 (tX7_putByte hok (d - 1) N (48 + (((v2 / v4) - (v2 / v4) / 10 * 10).toInt32))  q11) rfl (at_Teller s) rfl rfl (by omega) (Nat.le_of_ble_eq_true rfl) (Nat.zero_le _) (Nat.zero_le _) rfl ?_
      refine z_lload dX7_putNumber_68 rfl ?_
      refine z_ldc2 dX7_putNumber_70 lX7_71 ?_
      refine z_ldiv dX7_putNumber_73 (by decide) ?_
      refine z_lstore (ls' := [_, _, _, _, _, _, _]) dX7_putNumber_74 (by decide) rfl ?_
      refine z_goto 45 dX7_putNumber_76 (by decide) ?_
      refine z_mask (ls' := [_, _, _, _, _, _, _]) [true, true, true, false, true, false, false] rfl ?_
      exact hrec v2 (v4 / 10) s10 hf
noncomputable def fX7_putNumber (N : Nat) (p0 : Int32) (s : zS) : Option (Unit × zS) := zbl (fX7_putNumber_L13 N p0 N (p0.toInt64 &&& 4294967295) 1 1 s) (fun x => some x) (fun lq1 => match lq1 with | (y4, y5, s6) => zbl (fX7_putNumber_L45 N p0 N y4 y5 s6) (fun x => some x) (fun s16 => some ((), s16)))
set_option maxHeartbeats 400000 in
set_option maxRecDepth 100000 in
theorem tX7_putNumber {g : zGl} (hok : zGok g) (d : Nat) (hd : 1 ≤ d) (N : Nat) (p0 : Int32)  {s s' : zS} {w : Unit} (hf : fX7_putNumber N p0 s = some (w, s')) : zMet g mX7_putNumber d 0 0 [.ref 30, .int p0] (zHp s) (zret none (zHp s')) := by
  refine zMet.ofW (by decide +kernel) (Nat.le_of_ble_eq_true rfl) ?_
  show zW g mX7_putNumber d 0 0 51 _ 0 0 (zHp s) [some (.ref 30), some (.int p0), none, none, none, none, none] [] 0
  unfold fX7_putNumber at hf
  refine z_iload_n dX7_putNumber_0 rfl ?_
  refine z_i2l dX7_putNumber_1 ?_
  refine z_ldc2 dX7_putNumber_2 lX7_69 ?_
  refine z_land dX7_putNumber_5 ?_
  refine z_lstore_n (ls' := [_, _, _, _, _, _, _]) dX7_putNumber_6 (by decide) rfl ?_
  refine z_lconst 1 dX7_putNumber_7 (by decide +kernel) ?_
  refine z_lstore (ls' := [_, _, _, _, _, _, _]) dX7_putNumber_8 (by decide) rfl ?_
  refine z_iconst 1 dX7_putNumber_10 (by decide +kernel) ?_
  refine z_istore (ls' := [_, _, _, _, _, _, _]) dX7_putNumber_11 (by decide) rfl ?_
  refine z_mask (ls' := [_, _, _, _, _, _, _]) [true, true, true, false, true, false, true] rfl ?_
  rcases zbl_of hf with ⟨lr2, le3, hf⟩ | ⟨lr2, le3, hf⟩
  · cases hf
    exact tX7_putNumber_L13 hok d N p0  N (p0.toInt64 &&& 4294967295) 1 1 s _ le3 (fun w1 s1 hh => by cases hh; exact ⟨rfl, rfl⟩) (fun _ _ _ hh => by cases hh)
  · obtain ⟨y4, y5, s6⟩ := lr2
    refine tX7_putNumber_L13 hok d N p0  N (p0.toInt64 &&& 4294967295) 1 1 s _ le3 (fun w1 s1 hh => by cases hh) (fun _ _ _ hh => ?_)
    cases hh
    refine z_mask (ls' := [_, _, _, _, _, _, _]) [true, true, true, false, true, false, false] rfl ?_
    rcases zbl_of hf with ⟨lr14, le15, hf⟩ | ⟨lr14, le15, hf⟩
    · cases hf
      exact tX7_putNumber_L45 hok d (by omega) N p0  N y4 y5 s6 _ le15 (fun w1 s1 hh => by cases hh; exact ⟨rfl, rfl⟩) (fun  _ hh => by cases hh)
    · obtain ⟨s16, rfl⟩ : ∃ z, z = lr14 := ⟨_, rfl⟩
      refine tX7_putNumber_L45 hok d (by omega) N p0  N y4 y5 s6 _ le15 (fun w1 s1 hh => by cases hh) (fun  _ hh => ?_)
      cases hh
      cases hf
      exact z_vret rfl dX7_putNumber_79 (Nat.zero_le _) (Nat.zero_le _) ⟨rfl, rfl⟩

noncomputable def fX7_putRegister (N : Nat) (p0 : Nat) (p1 : Int32) (s : zS) : Option (Unit × zS) := zbn (fX7_putByte N 120 s) (fun x1 s2 => zbn (fX6_cell N (p0 + 3) p1 1 0 s2) (fun x4 s5 => zbn (fX7_putNumber N x4 s5) (fun x7 s8 => some ((), s8))))
set_option maxHeartbeats 400000 in
set_option maxRecDepth 100000 in
theorem tX7_putRegister {g : zGl} (hok : zGok g) (d : Nat) (hd : 2 ≤ d) (N : Nat) (p0 : Nat) (p1 : Int32) (hp0 : zBk p0) {s s' : zS} {w : Unit} (hf : fX7_putRegister N p0 p1 s = some (w, s')) : zMet g mX7_putRegister d 0 0 [.ref 30, .ref p0, .int p1] (zHp s) (zret none (zHp s')) := by
  refine zMet.ofW (by decide +kernel) (Nat.le_of_ble_eq_true rfl) ?_
  show zW g mX7_putRegister d 0 0 51 _ 0 0 (zHp s) [some (.ref 30), some (.ref p0), some (.int p1)] [] 0
  unfold fX7_putRegister at hf
  refine z_aload_n dX7_putRegister_0 rfl ?_
  refine z_bipush 120 dX7_putRegister_1 (by decide +kernel) ?_
  obtain ⟨x1, s2, q3, hf⟩ := zbn_of hf
  refine z_cV (as := [_]) hok dX7_putRegister_3 kX7_34 (tX7_putByte hok (d - 1) N 120  q3) rfl (at_Teller s) rfl rfl (by omega) (Nat.le_of_ble_eq_true rfl) (Nat.zero_le _) (Nat.zero_le _) rfl ?_
  refine z_aload_n dX7_putRegister_6 rfl ?_
  refine z_aload_n dX7_putRegister_7 rfl ?_
  refine z_getN hok dX7_putRegister_8 fX7_73 (at_Book s2 p0 hp0) rfl ?_
  refine z_iload_n dX7_putRegister_11 rfl ?_
  refine z_iconst 1 dX7_putRegister_12 (by decide +kernel) ?_
  refine z_iconst 0 dX7_putRegister_13 (by decide +kernel) ?_
  obtain ⟨x4, s5, q6, hf⟩ := zbn_of hf
  refine z_cV (as := [_, _, _]) hok dX7_putRegister_14 kX7_24 (tX6_cell hok (d - 1) N (p0 + 3) p1 1 0 (zBk_t p0 hp0).2.1 q6) rfl (at_Table s2 (p0 + 3) (zBk_t p0 hp0).2.1) rfl rfl (by omega) (Nat.le_of_ble_eq_true rfl) (Nat.zero_le _) (Nat.zero_le _) rfl ?_
  obtain ⟨x7, s8, q9, hf⟩ := zbn_of hf
  refine z_cV (as := [_]) hok dX7_putRegister_17 kX7_85 (tX7_putNumber hok (d - 1) (by omega) N x4  q9) rfl (at_Teller s5) rfl rfl (by omega) (Nat.le_of_ble_eq_true rfl) (Nat.zero_le _) (Nat.zero_le _) rfl ?_
  cases hf
  exact z_vret rfl dX7_putRegister_20 (Nat.zero_le _) (Nat.zero_le _) ⟨rfl, rfl⟩

noncomputable def fX7_putStringByte (N : Nat) (p0 : Int32) (s : zS) : Option (Unit × zS) := if p0 = 0 then zbn (fX7_putText N 1004 s) (fun x1 s2 => some ((), s2)) else if p0 = 9 then zbn (fX7_putText N 1003 s) (fun x4 s5 => some ((), s5)) else if p0 = 10 then zbn (fX7_putText N 1002 s) (fun x7 s8 => some ((), s8)) else if p0 = 34 then zbn (fX7_putText N 1006 s) (fun x10 s11 => some ((), s11)) else if p0 = 92 then zbn (fX7_putText N 1005 s) (fun x13 s14 => some ((), s14)) else zbn (fX7_putByte N p0 s) (fun x16 s17 => some ((), s17))
set_option maxHeartbeats 400000 in
set_option maxRecDepth 100000 in
theorem tX7_putStringByte {g : zGl} (hok : zGok g) (d : Nat) (hd : 5 ≤ d) (N : Nat) (p0 : Int32)  {s s' : zS} {w : Unit} (hf : fX7_putStringByte N p0 s = some (w, s')) : zMet g mX7_putStringByte d 0 0 [.ref 30, .int p0] (zHp s) (zret none (zHp s')) := by
  refine zMet.ofW (by decide +kernel) (Nat.le_of_ble_eq_true rfl) ?_
  show zW g mX7_putStringByte d 0 0 51 _ 0 0 (zHp s) [some (.ref 30), some (.int p0)] [] 0
  unfold fX7_putStringByte at hf
  refine z_iload_n dX7_putStringByte_0 rfl ?_
  refine z_look [(0, 70), (9, 61), (10, 52), (34, 88), (92, 79)] 97 dX7_putStringByte_1 (by decide +kernel) (by decide +kernel) (by decide +kernel) ?_
  refine z_selc (fun c1_0 => ?_) (fun c1_0 => ?_)
  · have hf := zifp hf c1_0
    refine z_aload_n dX7_putStringByte_70 rfl ?_
    refine z_ldcS 4 hok dX7_putStringByte_71 rfl ?_
    obtain ⟨x1, s2, q3, hf⟩ := zbn_of hf
    refine z_cV (as := [_]) hok dX7_putStringByte_73 kX7_46 (tX7_putText hok (d - 1) (by omega) N 1004  q3) rfl (at_Teller s) rfl rfl (by omega) (Nat.le_of_ble_eq_true rfl) (Nat.zero_le _) (Nat.zero_le _) rfl ?_
    refine z_goto 102 dX7_putStringByte_76 (by decide) ?_
    cases hf
    exact z_vret rfl dX7_putStringByte_102 (Nat.zero_le _) (Nat.zero_le _) ⟨rfl, rfl⟩
  · have hf := zifn hf c1_0
    refine z_selc (fun c1_1 => ?_) (fun c1_1 => ?_)
    · have hf := zifp hf c1_1
      refine z_aload_n dX7_putStringByte_61 rfl ?_
      refine z_ldcS 3 hok dX7_putStringByte_62 rfl ?_
      obtain ⟨x4, s5, q6, hf⟩ := zbn_of hf
      refine z_cV (as := [_]) hok dX7_putStringByte_64 kX7_46 (tX7_putText hok (d - 1) (by omega) N 1003  q6) rfl (at_Teller s) rfl rfl (by omega) (Nat.le_of_ble_eq_true rfl) (Nat.zero_le _) (Nat.zero_le _) rfl ?_
      refine z_goto 102 dX7_putStringByte_67 (by decide) ?_
      cases hf
      exact z_vret rfl dX7_putStringByte_102 (Nat.zero_le _) (Nat.zero_le _) ⟨rfl, rfl⟩
    · have hf := zifn hf c1_1
      refine z_selc (fun c1_2 => ?_) (fun c1_2 => ?_)
      · have hf := zifp hf c1_2
        refine z_aload_n dX7_putStringByte_52 rfl ?_
        refine z_ldcS 2 hok dX7_putStringByte_53 rfl ?_
        obtain ⟨x7, s8, q9, hf⟩ := zbn_of hf
        refine z_cV (as := [_]) hok dX7_putStringByte_55 kX7_46 (tX7_putText hok (d - 1) (by omega) N 1002  q9) rfl (at_Teller s) rfl rfl (by omega) (Nat.le_of_ble_eq_true rfl) (Nat.zero_le _) (Nat.zero_le _) rfl ?_
        refine z_goto 102 dX7_putStringByte_58 (by decide) ?_
        cases hf
        exact z_vret rfl dX7_putStringByte_102 (Nat.zero_le _) (Nat.zero_le _) ⟨rfl, rfl⟩
      · have hf := zifn hf c1_2
        refine z_selc (fun c1_3 => ?_) (fun c1_3 => ?_)
        · have hf := zifp hf c1_3
          refine z_aload_n dX7_putStringByte_88 rfl ?_
          refine z_ldcS 6 hok dX7_putStringByte_89 rfl ?_
          obtain ⟨x10, s11, q12, hf⟩ := zbn_of hf
          refine z_cV (as := [_]) hok dX7_putStringByte_91 kX7_46 (tX7_putText hok (d - 1) (by omega) N 1006  q12) rfl (at_Teller s) rfl rfl (by omega) (Nat.le_of_ble_eq_true rfl) (Nat.zero_le _) (Nat.zero_le _) rfl ?_
          refine z_goto 102 dX7_putStringByte_94 (by decide) ?_
          cases hf
          exact z_vret rfl dX7_putStringByte_102 (Nat.zero_le _) (Nat.zero_le _) ⟨rfl, rfl⟩
        · have hf := zifn hf c1_3
          refine z_selc (fun c1_4 => ?_) (fun c1_4 => ?_)
          · have hf := zifp hf c1_4
            refine z_aload_n dX7_putStringByte_79 rfl ?_
            refine z_ldcS 5 hok dX7_putStringByte_80 rfl ?_
            obtain ⟨x13, s14, q15, hf⟩ := zbn_of hf
            refine z_cV (as := [_]) hok dX7_putStringByte_82 kX7_46 (tX7_putText hok (d - 1) (by omega) N 1005  q15) rfl (at_Teller s) rfl rfl (by omega) (Nat.le_of_ble_eq_true rfl) (Nat.zero_le _) (Nat.zero_le _) rfl ?_
            refine z_goto 102 dX7_putStringByte_85 (by decide) ?_
            cases hf
            exact z_vret rfl dX7_putStringByte_102 (Nat.zero_le _) (Nat.zero_le _) ⟨rfl, rfl⟩
          · have hf := zifn hf c1_4
            refine z_seln ?_
            refine z_aload_n dX7_putStringByte_97 rfl ?_
            refine z_iload_n dX7_putStringByte_98 rfl ?_
            obtain ⟨x16, s17, q18, hf⟩ := zbn_of hf
            refine z_cV (as := [_]) hok dX7_putStringByte_99 kX7_34 (tX7_putByte hok (d - 1) N p0  q18) rfl (at_Teller s) rfl rfl (by omega) (Nat.le_of_ble_eq_true rfl) (Nat.zero_le _) (Nat.zero_le _) rfl ?_
            cases hf
            exact z_vret rfl dX7_putStringByte_102 (Nat.zero_le _) (Nat.zero_le _) ⟨rfl, rfl⟩

noncomputable def fX7_putString_L21S (N : Nat) (p0 : Nat) (p1 : Int32) (rec : Int32 → Int32 → zS → Option ((Unit × zS) ⊕ (zS))) (v3 : Int32) (v4 : Int32) (s : zS) : Option ((Unit × zS) ⊕ (zS)) := if v3 ≤ v4 then some (.inr (s)) else zbn (fX0_byteOfString N p0 p1 v4 s) (fun x7 s8 => zbn (fX7_putStringByte N x7 s8) (fun x10 s11 => rec v3 (v4 + 1) s11))
noncomputable def fX7_putString_L21 (N : Nat) (p0 : Nat) (p1 : Int32) (n : Nat) : Int32 → Int32 → zS → Option ((Unit × zS) ⊕ (zS)) := Nat.rec (motive := fun _ => Int32 → Int32 → zS → Option ((Unit × zS) ⊕ (zS))) (fun _ _ _ => none) (fun _ rec => fX7_putString_L21S N p0 p1 rec) n
set_option maxHeartbeats 400000 in
set_option maxRecDepth 100000 in
theorem tX7_putString_L21 {g : zGl} (hok : zGok g) (d : Nat) (hd : 6 ≤ d) (N : Nat) (p0 : Nat) (p1 : Int32) (hp0 : zBk p0) {mc ms n0 : Nat} {Q : zO → List zE → Prop} (n : Nat) : ∀ (v3 : Int32) (v4 : Int32) (s : zS) (r : (Unit × zS) ⊕ (zS)) (hf : fX7_putString_L21 N p0 p1 n v3 v4 s = some r) (k1 : ∀ w s', r = .inl (w, s') → Q (.inl none) (zHp s')) (k2 : ∀  (s' : zS), r = .inr (s') → zW g mX7_putString d mc ms n0 Q 0 0 (zHp s') [some (.ref 30), some (.ref p0), some (.int p1), none, none] [] 44), zW g mX7_putString d mc ms n0 Q 0 0 (zHp s) [some (.ref 30), some (.ref p0), some (.int p1), some (.int v3), some (.int v4)] [] 21 := by
  induction n with
  | zero => intro v3 v4 s r hf; cases hf
  | succ n ih =>
    intro v3 v4 s r hf k1 k2
    have hrec : ∀ (v3 : Int32) (v4 : Int32) (s : zS) (r1 : (Unit × zS) ⊕ (zS)), fX7_putString_L21 N p0 p1 n v3 v4 s = some r1 → r1 = r → zW g mX7_putString d mc ms n0 Q 0 0 (zHp s) [some (.ref 30), some (.ref p0), some (.int p1), some (.int v3), some (.int v4)] [] 21 := fun v3 v4 s r1 h e => ih v3 v4 s r1 h (by subst e; exact k1) (by subst e; exact k2)
    have hrec : ∀ (v3 : Int32) (v4 : Int32) (s : zS), fX7_putString_L21 N p0 p1 n v3 v4 s = some r → zW g mX7_putString d mc ms n0 Q 0 0 (zHp s) [some (.ref 30), some (.ref p0), some (.int p1), some (.int v3), some (.int v4)] [] 21 := fun v3 v4 s h => hrec v3 v4 s r h rfl
    have hf : fX7_putString_L21S N p0 p1 (fX7_putString_L21 N p0 p1 n) v3 v4 s = some r := hf
    unfold fX7_putString_L21S at hf
    refine z_iload dX7_putString_21 rfl ?_
    refine z_iload_n dX7_putString_23 rfl ?_
    refine z_icmp_ge 44 dX7_putString_24 (by decide) (fun c24 => ?_) (fun c24 => ?_)
    · have hf := zifp hf c24
      cases hf
      refine z_mask (ls' := [_, _, _, _, _]) [true, true, true, false, false] rfl ?_
      exact k2  _ rfl
    · have hf := zifn hf c24
      refine z_aload_n dX7_putString_27 rfl ?_
      refine z_aload_n dX7_putString_28 rfl ?_
      refine z_iload_n dX7_putString_29 rfl ?_
      refine z_iload dX7_putString_30 rfl ?_
      obtain ⟨x7, s8, q9, hf⟩ := zbn_of hf
      refine z_cV (as := [_, _]) hok dX7_putString_32 kX7_88 (tX0_byteOfString hok (d - 1) (by omega) N p0 p1 v4 hp0 q9) rfl (at_Book s p0 hp0) rfl rfl (by omega) (Nat.le_of_ble_eq_true rfl) (Nat.zero_le _) (Nat.zero_le _) rfl ?_
      obtain ⟨x10, s11, q12, hf⟩ := zbn_of hf
      refine z_cV (as := [_]) hok dX7_putString_35 kX7_92 (tX7_putStringByte hok (d - 1) (by omega) N x7  q12) rfl (at_Teller s8) rfl rfl (by omega) (Nat.le_of_ble_eq_true rfl) (Nat.zero_le _) (Nat.zero_le _) rfl ?_
      refine z_iinc (ls' := [_, _, _, _, _]) (v4 + 1) dX7_putString_38 rfl rfl (by decide) rfl ?_
      refine z_goto 21 dX7_putString_41 (by decide) ?_
      refine z_mask (ls' := [_, _, _, _, _]) [true, true, true, true, true] rfl ?_
      exact hrec v3 (v4 + 1) s11 hf
noncomputable def fX7_putString (N : Nat) (p0 : Nat) (p1 : Int32) (s : zS) : Option (Unit × zS) := zbn (fX7_putByte N 34 s) (fun x1 s2 => zbn (fX6_cell N (p0 + 3) p1 6 0 s2) (fun x4 s5 => zbl (fX7_putString_L21 N p0 p1 N x4 0 s5) (fun x => some x) (fun s16 => zbn (fX7_putByte N 34 s16) (fun x17 s18 => some ((), s18)))))
set_option maxHeartbeats 400000 in
set_option maxRecDepth 100000 in
theorem tX7_putString {g : zGl} (hok : zGok g) (d : Nat) (hd : 6 ≤ d) (N : Nat) (p0 : Nat) (p1 : Int32) (hp0 : zBk p0) {s s' : zS} {w : Unit} (hf : fX7_putString N p0 p1 s = some (w, s')) : zMet g mX7_putString d 0 0 [.ref 30, .ref p0, .int p1] (zHp s) (zret none (zHp s')) := by
  refine zMet.ofW (by decide +kernel) (Nat.le_of_ble_eq_true rfl) ?_
  show zW g mX7_putString d 0 0 51 _ 0 0 (zHp s) [some (.ref 30), some (.ref p0), some (.int p1), none, none] [] 0
  unfold fX7_putString at hf
  refine z_aload_n dX7_putString_0 rfl ?_
  refine z_bipush 34 dX7_putString_1 (by decide +kernel) ?_
  obtain ⟨x1, s2, q3, hf⟩ := zbn_of hf
  refine z_cV (as := [_]) hok dX7_putString_3 kX7_34 (tX7_putByte hok (d - 1) N 34  q3) rfl (at_Teller s) rfl rfl (by omega) (Nat.le_of_ble_eq_true rfl) (Nat.zero_le _) (Nat.zero_le _) rfl ?_
  refine z_aload_n dX7_putString_6 rfl ?_
  refine z_getN hok dX7_putString_7 fX7_73 (at_Book s2 p0 hp0) rfl ?_
  refine z_iload_n dX7_putString_10 rfl ?_
  refine z_bipush 6 dX7_putString_11 (by decide +kernel) ?_
  refine z_iconst 0 dX7_putString_13 (by decide +kernel) ?_
  obtain ⟨x4, s5, q6, hf⟩ := zbn_of hf
  refine z_cV (as := [_, _, _]) hok dX7_putString_14 kX7_24 (tX6_cell hok (d - 1) N (p0 + 3) p1 6 0 (zBk_t p0 hp0).2.1 q6) rfl (at_Table s2 (p0 + 3) (zBk_t p0 hp0).2.1) rfl rfl (by omega) (Nat.le_of_ble_eq_true rfl) (Nat.zero_le _) (Nat.zero_le _) rfl ?_
  refine z_istore_n (ls' := [_, _, _, _, _]) dX7_putString_17 (by decide) rfl ?_
  refine z_iconst 0 dX7_putString_18 (by decide +kernel) ?_
  refine z_istore (ls' := [_, _, _, _, _]) dX7_putString_19 (by decide) rfl ?_
  refine z_mask (ls' := [_, _, _, _, _]) [true, true, true, true, true] rfl ?_
  rcases zbl_of hf with ⟨lr14, le15, hf⟩ | ⟨lr14, le15, hf⟩
  · cases hf
    exact tX7_putString_L21 hok d (by omega) N p0 p1 hp0 N x4 0 s5 _ le15 (fun w1 s1 hh => by cases hh; exact ⟨rfl, rfl⟩) (fun  _ hh => by cases hh)
  · obtain ⟨s16, rfl⟩ : ∃ z, z = lr14 := ⟨_, rfl⟩
    refine tX7_putString_L21 hok d (by omega) N p0 p1 hp0 N x4 0 s5 _ le15 (fun w1 s1 hh => by cases hh) (fun  _ hh => ?_)
    cases hh
    refine z_aload_n dX7_putString_44 rfl ?_
    refine z_bipush 34 dX7_putString_45 (by decide +kernel) ?_
    obtain ⟨x17, s18, q19, hf⟩ := zbn_of hf
    refine z_cV (as := [_]) hok dX7_putString_47 kX7_34 (tX7_putByte hok (d - 1) N 34  q19) rfl (at_Teller s16) rfl rfl (by omega) (Nat.le_of_ble_eq_true rfl) (Nat.zero_le _) (Nat.zero_le _) rfl ?_
    cases hf
    exact z_vret rfl dX7_putString_50 (Nat.zero_le _) (Nat.zero_le _) ⟨rfl, rfl⟩

noncomputable def fX7_beginOf (N : Nat) (p0 : Int32) (s : zS) : Option (Int32 × zS) := if p0 < 0 then some ((-1), s) else if (s.1 3004) ≤ p0 then some ((-1), s) else if (nI (zlen 32)) ≤ p0 then some ((-1), s) else if zga p0 (zlen 32) = true then some (s.2.1 32 p0.toNatClampNeg, s) else none
set_option maxHeartbeats 400000 in
set_option maxRecDepth 100000 in
theorem tX7_beginOf {g : zGl} (hok : zGok g) (d : Nat)  (N : Nat) (p0 : Int32)  {s s' : zS} {w : Int32} (hf : fX7_beginOf N p0 s = some (w, s')) : zMet g mX7_beginOf d 0 0 [.ref 30, .int p0] (zHp s) (zret (some (.int w)) (zHp s')) := by
  refine zMet.ofW (by decide +kernel) (Nat.le_of_ble_eq_true rfl) ?_
  show zW g mX7_beginOf d 0 0 51 _ 0 0 (zHp s) [some (.ref 30), some (.int p0)] [] 0
  unfold fX7_beginOf at hf
  refine z_iload_n dX7_beginOf_0 rfl ?_
  refine z_if_lt 30 dX7_beginOf_1 (by decide) (fun c1 => ?_) (fun c1 => ?_)
  · have hf := zifp hf c1
    refine z_iconst (-1) dX7_beginOf_30 (by decide +kernel) ?_
    cases hf
    exact z_iret rfl dX7_beginOf_31 (Nat.zero_le _) (Nat.zero_le _) ⟨rfl, rfl⟩
  · have hf := zifn hf c1
    refine z_iload_n dX7_beginOf_4 rfl ?_
    refine z_aload_n dX7_beginOf_5 rfl ?_
    refine z_getf dX7_beginOf_6 fX7_113 (at_Teller s) rfl ?_
    refine z_icmp_ge 30 dX7_beginOf_9 (by decide) (fun c9 => ?_) (fun c9 => ?_)
    · have hf := zifp hf c9
      refine z_iconst (-1) dX7_beginOf_30 (by decide +kernel) ?_
      cases hf
      exact z_iret rfl dX7_beginOf_31 (Nat.zero_le _) (Nat.zero_le _) ⟨rfl, rfl⟩
    · have hf := zifn hf c9
      refine z_iload_n dX7_beginOf_12 rfl ?_
      refine z_aload_n dX7_beginOf_13 rfl ?_
      refine z_getf dX7_beginOf_14 fX7_15 (at_Teller s) rfl ?_
      refine z_alen dX7_beginOf_17 (at_arr s 32 (by decide)) ?_
      refine z_icmp_ge 30 dX7_beginOf_18 (by decide) (fun c18 => ?_) (fun c18 => ?_)
      · have hf := zifp hf c18
        refine z_iconst (-1) dX7_beginOf_30 (by decide +kernel) ?_
        cases hf
        exact z_iret rfl dX7_beginOf_31 (Nat.zero_le _) (Nat.zero_le _) ⟨rfl, rfl⟩
      · have hf := zifn hf c18
        refine z_aload_n dX7_beginOf_21 rfl ?_
        refine z_getf dX7_beginOf_22 fX7_15 (at_Teller s) rfl ?_
        refine z_iload_n dX7_beginOf_25 rfl ?_
        obtain ⟨hi1, hf⟩ := zifs hf
        refine z_iald dX7_beginOf_26 (at_arr s 32 (by decide)) (zga_in hi1) ?_
        refine z_goto 31 dX7_beginOf_27 (by decide) ?_
        cases hf
        exact z_iret rfl dX7_beginOf_31 (Nat.zero_le _) (Nat.zero_le _) ⟨rfl, rfl⟩

noncomputable def fX7_sortAt (N : Nat) (p0 : Nat) (p1 : Int32) (s : zS) : Option (Int32 × zS) := zbn (fX6_cell N (p0 + 5) ((s.1 3003) + p1) 0 0 s) (fun x1 s2 => some (x1, s2))
set_option maxHeartbeats 400000 in
set_option maxRecDepth 100000 in
theorem tX7_sortAt {g : zGl} (hok : zGok g) (d : Nat) (hd : 1 ≤ d) (N : Nat) (p0 : Nat) (p1 : Int32) (hp0 : zBk p0) {s s' : zS} {w : Int32} (hf : fX7_sortAt N p0 p1 s = some (w, s')) : zMet g mX7_sortAt d 0 0 [.ref 30, .ref p0, .int p1] (zHp s) (zret (some (.int w)) (zHp s')) := by
  refine zMet.ofW (by decide +kernel) (Nat.le_of_ble_eq_true rfl) ?_
  show zW g mX7_sortAt d 0 0 51 _ 0 0 (zHp s) [some (.ref 30), some (.ref p0), some (.int p1)] [] 0
  unfold fX7_sortAt at hf
  refine z_aload_n dX7_sortAt_0 rfl ?_
  refine z_getN hok dX7_sortAt_1 fX7_147 (at_Book s p0 hp0) rfl ?_
  refine z_aload_n dX7_sortAt_4 rfl ?_
  refine z_getf dX7_sortAt_5 fX7_105 (at_Teller s) rfl ?_
  refine z_iload_n dX7_sortAt_8 rfl ?_
  refine z_iadd dX7_sortAt_9 ?_
  refine z_iconst 0 dX7_sortAt_10 (by decide +kernel) ?_
  refine z_iconst 0 dX7_sortAt_11 (by decide +kernel) ?_
  obtain ⟨x1, s2, q3, hf⟩ := zbn_of hf
  refine z_cV (as := [_, _, _]) hok dX7_sortAt_12 kX7_24 (tX6_cell hok (d - 1) N (p0 + 5) ((s.1 3003) + p1) 0 0 (zBk_t p0 hp0).2.2.1 q3) rfl (at_Table s (p0 + 5) (zBk_t p0 hp0).2.2.1) rfl rfl (by omega) (Nat.le_of_ble_eq_true rfl) (Nat.zero_le _) (Nat.zero_le _) rfl ?_
  cases hf
  exact z_iret rfl dX7_sortAt_15 (Nat.zero_le _) (Nat.zero_le _) ⟨rfl, rfl⟩

noncomputable def fX7_findBegins_L2S (N : Nat) (p0 : Nat) (rec : Int32 → zS → Option ((Unit × zS) ⊕ (zS))) (v2 : Int32) (s : zS) : Option ((Unit × zS) ⊕ (zS)) := if (s.1 3004) ≤ v2 then some (.inr (s)) else if (nI (zlen 32)) ≤ v2 then some (.inr (s)) else zbn (fX7_sortAt N p0 v2 s) (fun x1 s2 => zbn (fX1_isTwoSided N x1 s2) (fun x4 s5 => if x4 = 0 then zbn (fX1_isAhead N x1 s5) (fun x7 s8 => if x7 = 0 then if zga v2 (zlen 32) = true then rec (v2 + 1) (zsr s8 32 v2 v2) else none else zbn (fX7_beginOf N (v2 - 1) s8) (fun x11 s12 => if zga v2 (zlen 32) = true then rec (v2 + 1) (zsr s12 32 v2 x11) else none)) else zbn (fX7_beginOf N (v2 - 1) s5) (fun x15 s16 => zbn (fX7_beginOf N (x15 - 1) s16) (fun x18 s19 => if zga v2 (zlen 32) = true then rec (v2 + 1) (zsr s19 32 v2 x18) else none))))
noncomputable def fX7_findBegins_L2 (N : Nat) (p0 : Nat) (n : Nat) : Int32 → zS → Option ((Unit × zS) ⊕ (zS)) := Nat.rec (motive := fun _ => Int32 → zS → Option ((Unit × zS) ⊕ (zS))) (fun _ _ => none) (fun _ rec => fX7_findBegins_L2S N p0 rec) n
set_option maxHeartbeats 400000 in
set_option maxRecDepth 100000 in
theorem tX7_findBegins_L2 {g : zGl} (hok : zGok g) (d : Nat) (hd : 2 ≤ d) (N : Nat) (p0 : Nat) (hp0 : zBk p0) {mc ms n0 : Nat} {Q : zO → List zE → Prop} (n : Nat) : ∀ (v2 : Int32) (s : zS) (r : (Unit × zS) ⊕ (zS)) (hf : fX7_findBegins_L2 N p0 n v2 s = some r) (k1 : ∀ w s', r = .inl (w, s') → Q (.inl none) (zHp s')) (k2 : ∀  (s' : zS), r = .inr (s') → zW g mX7_findBegins d mc ms n0 Q 0 0 (zHp s') [some (.ref 30), some (.ref p0), none, none] [] 85), zW g mX7_findBegins d mc ms n0 Q 0 0 (zHp s) [some (.ref 30), some (.ref p0), some (.int v2), none] [] 2 := by
  induction n with
  | zero => intro v2 s r hf; cases hf
  | succ n ih =>
    intro v2 s r hf k1 k2
    have hrec : ∀ (v2 : Int32) (s : zS) (r1 : (Unit × zS) ⊕ (zS)), fX7_findBegins_L2 N p0 n v2 s = some r1 → r1 = r → zW g mX7_findBegins d mc ms n0 Q 0 0 (zHp s) [some (.ref 30), some (.ref p0), some (.int v2), none] [] 2 := fun v2 s r1 h e => ih v2 s r1 h (by subst e; exact k1) (by subst e; exact k2)
    have hrec : ∀ (v2 : Int32) (s : zS), fX7_findBegins_L2 N p0 n v2 s = some r → zW g mX7_findBegins d mc ms n0 Q 0 0 (zHp s) [some (.ref 30), some (.ref p0), some (.int v2), none] [] 2 := fun v2 s h => hrec v2 s r h rfl
    have hf : fX7_findBegins_L2S N p0 (fX7_findBegins_L2 N p0 n) v2 s = some r := hf
    unfold fX7_findBegins_L2S at hf
    refine z_iload_n dX7_findBegins_2 rfl ?_
    refine z_aload_n dX7_findBegins_3 rfl ?_
    refine z_getf dX7_findBegins_4 fX7_113 (at_Teller s) rfl ?_
    refine z_icmp_ge 85 dX7_findBegins_7 (by decide) (fun c7 => ?_) (fun c7 => ?_)
    · have hf := zifp hf c7
      cases hf
      refine z_mask (ls' := [_, _, _, _]) [true, true, false, false] rfl ?_
      exact k2  _ rfl
    · have hf := zifn hf c7
      refine z_iload_n dX7_findBegins_10 rfl ?_
      refine z_aload_n dX7_findBegins_11 rfl ?_
      refine z_getf dX7_findBegins_12 fX7_15 (at_Teller s) rfl ?_
      refine z_alen dX7_findBegins_15 (at_arr s 32 (by decide)) ?_
      refine z_icmp_ge 85 dX7_findBegins_16 (by decide) (fun c16 => ?_) (fun c16 => ?_)
      · have hf := zifp hf c16
        cases hf
        refine z_mask (ls' := [_, _, _, _]) [true, true, false, false] rfl ?_
        exact k2  _ rfl
      · have hf := zifn hf c16
        refine z_aload_n dX7_findBegins_19 rfl ?_
        refine z_aload_n dX7_findBegins_20 rfl ?_
        refine z_iload_n dX7_findBegins_21 rfl ?_
        obtain ⟨x1, s2, q3, hf⟩ := zbn_of hf
        refine z_cV (as := [_, _]) hok dX7_findBegins_22 kX7_132 (tX7_sortAt hok (d - 1) (by omega) N p0 v2 hp0 q3) rfl (at_Teller s) rfl rfl (by omega) (Nat.le_of_ble_eq_true rfl) (Nat.zero_le _) (Nat.zero_le _) rfl ?_
        refine z_istore_n (ls' := [_, _, _, _]) dX7_findBegins_25 (by decide) rfl ?_
        refine z_iload_n dX7_findBegins_26 rfl ?_
        obtain ⟨x4, s5, q6, hf⟩ := zbn_of hf
        refine z_cS (as := [_]) hok dX7_findBegins_27 kX7_136 (tX1_isTwoSided hok (d - 1) N x1  q6) rfl rfl (by omega) (Nat.le_of_ble_eq_true rfl) (Nat.zero_le _) (Nat.zero_le _) rfl ?_
        refine z_if_eq 55 dX7_findBegins_30 (by decide) (fun c30 => ?_) (fun c30 => ?_)
        · have hf := zifp hf c30
          refine z_aload_n dX7_findBegins_55 rfl ?_
          refine z_getf dX7_findBegins_56 fX7_15 (at_Teller s5) rfl ?_
          refine z_iload_n dX7_findBegins_59 rfl ?_
          refine z_iload_n dX7_findBegins_60 rfl ?_
          obtain ⟨x7, s8, q9, hf⟩ := zbn_of hf
          refine z_cS (as := [_]) hok dX7_findBegins_61 kX7_144 (tX1_isAhead hok (d - 1) N x1  q9) rfl rfl (by omega) (Nat.le_of_ble_eq_true rfl) (Nat.zero_le _) (Nat.zero_le _) rfl ?_
          refine z_if_eq 77 dX7_findBegins_64 (by decide) (fun c64 => ?_) (fun c64 => ?_)
          · have hf := zifp hf c64
            refine z_iload_n dX7_findBegins_77 rfl ?_
            obtain ⟨hi10, hf⟩ := zifs hf
            refine z_iastore dX7_findBegins_78 (at_arr s8 32 (by decide)) (zga_in hi10) (st_arr s8 32 (by decide) v2 v2) ?_
            refine z_iinc (ls' := [_, _, _, _]) (v2 + 1) dX7_findBegins_79 rfl rfl (by decide) rfl ?_
            refine z_goto 2 dX7_findBegins_82 (by decide) ?_
            refine z_mask (ls' := [_, _, _, _]) [true, true, true, false] rfl ?_
            exact hrec (v2 + 1) (zsr s8 32 v2 v2) hf
          · have hf := zifn hf c64
            refine z_aload_n dX7_findBegins_67 rfl ?_
            refine z_iload_n dX7_findBegins_68 rfl ?_
            refine z_iconst 1 dX7_findBegins_69 (by decide +kernel) ?_
            refine z_isub dX7_findBegins_70 ?_
            obtain ⟨x11, s12, q13, hf⟩ := zbn_of hf
            refine z_cV (as := [_]) hok dX7_findBegins_71 kX7_140 (tX7_beginOf hok (d - 1) N (v2 - 1)  q13) rfl (at_Teller s8) rfl rfl (by omega) (Nat.le_of_ble_eq_true rfl) (Nat.zero_le _) (Nat.zero_le _) rfl ?_
            refine z_goto 78 dX7_findBegins_74 (by decide) ?_
            obtain ⟨hi14, hf⟩ := zifs hf
            refine z_iastore dX7_findBegins_78 (at_arr s12 32 (by decide)) (zga_in hi14) (st_arr s12 32 (by decide) v2 x11) ?_
            refine z_iinc (ls' := [_, _, _, _]) (v2 + 1) dX7_findBegins_79 rfl rfl (by decide) rfl ?_
            refine z_goto 2 dX7_findBegins_82 (by decide) ?_
            refine z_mask (ls' := [_, _, _, _]) [true, true, true, false] rfl ?_
            exact hrec (v2 + 1) (zsr s12 32 v2 x11) hf
        · have hf := zifn hf c30
          refine z_aload_n dX7_findBegins_33 rfl ?_
          refine z_getf dX7_findBegins_34 fX7_15 (at_Teller s5) rfl ?_
          refine z_iload_n dX7_findBegins_37 rfl ?_
          refine z_aload_n dX7_findBegins_38 rfl ?_
          refine z_aload_n dX7_findBegins_39 rfl ?_
          refine z_iload_n dX7_findBegins_40 rfl ?_
          refine z_iconst 1 dX7_findBegins_41 (by decide +kernel) ?_
          refine z_isub dX7_findBegins_42 ?_
          obtain ⟨x15, s16, q17, hf⟩ := zbn_of hf
          refine z_cV (as := [_]) hok dX7_findBegins_43 kX7_140 (tX7_beginOf hok (d - 1) N (v2 - 1)  q17) rfl (at_Teller s5) rfl rfl (by omega) (Nat.le_of_ble_eq_true rfl) (Nat.zero_le _) (Nat.zero_le _) rfl ?_
          refine z_iconst 1 dX7_findBegins_46 (by decide +kernel) ?_
          refine z_isub dX7_findBegins_47 ?_
          obtain ⟨x18, s19, q20, hf⟩ := zbn_of hf
          refine z_cV (as := [_]) hok dX7_findBegins_48 kX7_140 (tX7_beginOf hok (d - 1) N (x15 - 1)  q20) rfl (at_Teller s16) rfl rfl (by omega) (Nat.le_of_ble_eq_true rfl) (Nat.zero_le _) (Nat.zero_le _) rfl ?_
          obtain ⟨hi21, hf⟩ := zifs hf
          refine z_iastore dX7_findBegins_51 (at_arr s19 32 (by decide)) (zga_in hi21) (st_arr s19 32 (by decide) v2 x18) ?_
          refine z_goto 79 dX7_findBegins_52 (by decide) ?_
          refine z_iinc (ls' := [_, _, _, _]) (v2 + 1) dX7_findBegins_79 rfl rfl (by decide) rfl ?_
          refine z_goto 2 dX7_findBegins_82 (by decide) ?_
          refine z_mask (ls' := [_, _, _, _]) [true, true, true, false] rfl ?_
          exact hrec (v2 + 1) (zsr s19 32 v2 x18) hf
noncomputable def fX7_findBegins (N : Nat) (p0 : Nat) (s : zS) : Option (Unit × zS) := zbl (fX7_findBegins_L2 N p0 N 0 s) (fun x => some x) (fun s25 => some ((), s25))
set_option maxHeartbeats 400000 in
set_option maxRecDepth 100000 in
theorem tX7_findBegins {g : zGl} (hok : zGok g) (d : Nat) (hd : 2 ≤ d) (N : Nat) (p0 : Nat) (hp0 : zBk p0) {s s' : zS} {w : Unit} (hf : fX7_findBegins N p0 s = some (w, s')) : zMet g mX7_findBegins d 0 0 [.ref 30, .ref p0] (zHp s) (zret none (zHp s')) := by
  refine zMet.ofW (by decide +kernel) (Nat.le_of_ble_eq_true rfl) ?_
  show zW g mX7_findBegins d 0 0 51 _ 0 0 (zHp s) [some (.ref 30), some (.ref p0), none, none] [] 0
  unfold fX7_findBegins at hf
  refine z_iconst 0 dX7_findBegins_0 (by decide +kernel) ?_
  refine z_istore_n (ls' := [_, _, _, _]) dX7_findBegins_1 (by decide) rfl ?_
  refine z_mask (ls' := [_, _, _, _]) [true, true, true, false] rfl ?_
  rcases zbl_of hf with ⟨lr23, le24, hf⟩ | ⟨lr23, le24, hf⟩
  · cases hf
    exact tX7_findBegins_L2 hok d (by omega) N p0 hp0 N 0 s _ le24 (fun w1 s1 hh => by cases hh; exact ⟨rfl, rfl⟩) (fun  _ hh => by cases hh)
  · obtain ⟨s25, rfl⟩ : ∃ z, z = lr23 := ⟨_, rfl⟩
    refine tX7_findBegins_L2 hok d (by omega) N p0 hp0 N 0 s _ le24 (fun w1 s1 hh => by cases hh) (fun  _ hh => ?_)
    cases hh
    cases hf
    exact z_vret rfl dX7_findBegins_85 (Nat.zero_le _) (Nat.zero_le _) ⟨rfl, rfl⟩

noncomputable def fX7_putLeaf (N : Nat) (p0 : Nat) (p1 : Int32) (p2 : Int32) (s : zS) : Option (Unit × zS) := if p1 = 1 then zbn (fX7_putName N p0 p2 s) (fun x1 s2 => some ((), s2)) else if p1 = 2 then zbn (fX7_putByte N (48 + (p2 >>> ((1 : Int32) &&& 31))) s) (fun x4 s5 => if (p2 &&& 1) = 0 then zbn (fX7_putByte N 98 s5) (fun x10 s11 => some ((), s11)) else zbn (fX7_putByte N 102 s5) (fun x7 s8 => some ((), s8))) else if p1 = 3 then zbn (fX7_putByte N 46 s) (fun x13 s14 => some ((), s14)) else zbn (fX7_putNumber N p2 s) (fun x16 s17 => some ((), s17))
set_option maxHeartbeats 400000 in
set_option maxRecDepth 100000 in
theorem tX7_putLeaf {g : zGl} (hok : zGok g) (d : Nat) (hd : 2 ≤ d) (N : Nat) (p0 : Nat) (p1 : Int32) (p2 : Int32) (hp0 : zBk p0) {s s' : zS} {w : Unit} (hf : fX7_putLeaf N p0 p1 p2 s = some (w, s')) : zMet g mX7_putLeaf d 0 0 [.ref 30, .ref p0, .int p1, .int p2] (zHp s) (zret none (zHp s')) := by
  refine zMet.ofW (by decide +kernel) (Nat.le_of_ble_eq_true rfl) ?_
  show zW g mX7_putLeaf d 0 0 51 _ 0 0 (zHp s) [some (.ref 30), some (.ref p0), some (.int p1), some (.int p2)] [] 0
  unfold fX7_putLeaf at hf
  refine z_iload_n dX7_putLeaf_0 rfl ?_
  refine z_tab [(1, 28), (2, 37), (3, 67)] 76 dX7_putLeaf_1 (by decide +kernel) (by decide +kernel) (by decide +kernel) (by decide +kernel) ?_
  refine z_selc (fun c1_0 => ?_) (fun c1_0 => ?_)
  · have hf := zifp hf c1_0
    refine z_aload_n dX7_putLeaf_28 rfl ?_
    refine z_aload_n dX7_putLeaf_29 rfl ?_
    refine z_iload_n dX7_putLeaf_30 rfl ?_
    obtain ⟨x1, s2, q3, hf⟩ := zbn_of hf
    refine z_cV (as := [_, _]) hok dX7_putLeaf_31 kX7_38 (tX7_putName hok (d - 1) (by omega) N p0 p2 hp0 q3) rfl (at_Teller s) rfl rfl (by omega) (Nat.le_of_ble_eq_true rfl) (Nat.zero_le _) (Nat.zero_le _) rfl ?_
    refine z_goto 81 dX7_putLeaf_34 (by decide) ?_
    cases hf
    exact z_vret rfl dX7_putLeaf_81 (Nat.zero_le _) (Nat.zero_le _) ⟨rfl, rfl⟩
  · have hf := zifn hf c1_0
    refine z_selc (fun c1_1 => ?_) (fun c1_1 => ?_)
    · have hf := zifp hf c1_1
      refine z_aload_n dX7_putLeaf_37 rfl ?_
      refine z_bipush 48 dX7_putLeaf_38 (by decide +kernel) ?_
      refine z_iload_n dX7_putLeaf_40 rfl ?_
      refine z_iconst 1 dX7_putLeaf_41 (by decide +kernel) ?_
      refine z_ishr dX7_putLeaf_42 ?_
      refine z_iadd dX7_putLeaf_43 ?_
      obtain ⟨x4, s5, q6, hf⟩ := zbn_of hf
      refine z_cV (as := [_]) hok dX7_putLeaf_44 kX7_34 (tX7_putByte hok (d - 1) N (48 + (p2 >>> ((1 : Int32) &&& 31)))  q6) rfl (at_Teller s) rfl rfl (by omega) (Nat.le_of_ble_eq_true rfl) (Nat.zero_le _) (Nat.zero_le _) rfl ?_
      refine z_aload_n dX7_putLeaf_47 rfl ?_
      refine z_iload_n dX7_putLeaf_48 rfl ?_
      refine z_iconst 1 dX7_putLeaf_49 (by decide +kernel) ?_
      refine z_iand dX7_putLeaf_50 ?_
      refine z_if_ne 59 dX7_putLeaf_51 (by decide) (fun c51 => ?_) (fun c51 => ?_)
      · have hf := zifn hf c51
        refine z_bipush 102 dX7_putLeaf_59 (by decide +kernel) ?_
        obtain ⟨x7, s8, q9, hf⟩ := zbn_of hf
        refine z_cV (as := [_]) hok dX7_putLeaf_61 kX7_34 (tX7_putByte hok (d - 1) N 102  q9) rfl (at_Teller s5) rfl rfl (by omega) (Nat.le_of_ble_eq_true rfl) (Nat.zero_le _) (Nat.zero_le _) rfl ?_
        refine z_goto 81 dX7_putLeaf_64 (by decide) ?_
        cases hf
        exact z_vret rfl dX7_putLeaf_81 (Nat.zero_le _) (Nat.zero_le _) ⟨rfl, rfl⟩
      · have hf := zifp hf c51
        refine z_bipush 98 dX7_putLeaf_54 (by decide +kernel) ?_
        refine z_goto 61 dX7_putLeaf_56 (by decide) ?_
        obtain ⟨x10, s11, q12, hf⟩ := zbn_of hf
        refine z_cV (as := [_]) hok dX7_putLeaf_61 kX7_34 (tX7_putByte hok (d - 1) N 98  q12) rfl (at_Teller s5) rfl rfl (by omega) (Nat.le_of_ble_eq_true rfl) (Nat.zero_le _) (Nat.zero_le _) rfl ?_
        refine z_goto 81 dX7_putLeaf_64 (by decide) ?_
        cases hf
        exact z_vret rfl dX7_putLeaf_81 (Nat.zero_le _) (Nat.zero_le _) ⟨rfl, rfl⟩
    · have hf := zifn hf c1_1
      refine z_selc (fun c1_2 => ?_) (fun c1_2 => ?_)
      · have hf := zifp hf c1_2
        refine z_aload_n dX7_putLeaf_67 rfl ?_
        refine z_bipush 46 dX7_putLeaf_68 (by decide +kernel) ?_
        obtain ⟨x13, s14, q15, hf⟩ := zbn_of hf
        refine z_cV (as := [_]) hok dX7_putLeaf_70 kX7_34 (tX7_putByte hok (d - 1) N 46  q15) rfl (at_Teller s) rfl rfl (by omega) (Nat.le_of_ble_eq_true rfl) (Nat.zero_le _) (Nat.zero_le _) rfl ?_
        refine z_goto 81 dX7_putLeaf_73 (by decide) ?_
        cases hf
        exact z_vret rfl dX7_putLeaf_81 (Nat.zero_le _) (Nat.zero_le _) ⟨rfl, rfl⟩
      · have hf := zifn hf c1_2
        refine z_seln ?_
        refine z_aload_n dX7_putLeaf_76 rfl ?_
        refine z_iload_n dX7_putLeaf_77 rfl ?_
        obtain ⟨x16, s17, q18, hf⟩ := zbn_of hf
        refine z_cV (as := [_]) hok dX7_putLeaf_78 kX7_85 (tX7_putNumber hok (d - 1) (by omega) N p2  q18) rfl (at_Teller s) rfl rfl (by omega) (Nat.le_of_ble_eq_true rfl) (Nat.zero_le _) (Nat.zero_le _) rfl ?_
        cases hf
        exact z_vret rfl dX7_putLeaf_81 (Nat.zero_le _) (Nat.zero_le _) ⟨rfl, rfl⟩

