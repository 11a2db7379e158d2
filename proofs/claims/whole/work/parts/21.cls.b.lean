noncomputable def fX8_scanDigits_L13S (N : Nat) (p0 : Int32) (p1 : Int32) (rec : Int32 → Int64 → zS → Option ((Int32 × zS) ⊕ (Int32 × Int64 × zS))) (v3 : Int32) (v4 : Int64) (s : zS) : Option ((Int32 × zS) ⊕ (Int32 × Int64 × zS)) := if (s.1 403) ≤ (s.1 404) then some (.inr (v3, v4, s)) else zbn (fX8_byteAt N (s.1 404) s) (fun x1 s2 => zbn (fX8_digitOf N x1 s2) (fun x4 s5 => if p0 ≤ x4 then some (.inr (v3, v4, s5)) else zbn (fX8_byteAt N (s5.1 404) s5) (fun x7 s8 => zbn (fX8_digitOf N x7 s8) (fun x10 s11 => rec v3 (if 4294967296 < ((v4 * p0.toInt64) + x10.toInt64) then 4294967296 else ((v4 * p0.toInt64) + x10.toInt64)) (zsc s11 404 ((s11.1 404) + 1))))))
noncomputable def fX8_scanDigits_L13 (N : Nat) (p0 : Int32) (p1 : Int32) (n : Nat) : Int32 → Int64 → zS → Option ((Int32 × zS) ⊕ (Int32 × Int64 × zS)) := Nat.rec (motive := fun _ => Int32 → Int64 → zS → Option ((Int32 × zS) ⊕ (Int32 × Int64 × zS))) (fun _ _ _ => none) (fun _ rec => fX8_scanDigits_L13S N p0 p1 rec) n
set_option maxHeartbeats 400000 in
set_option maxRecDepth 100000 in
theorem tX8_scanDigits_L13 {g : zGl} (hok : zGok g) (d : Nat) (hd : 2 ≤ d) (N : Nat) (p0 : Int32) (p1 : Int32)  {mc ms n0 : Nat} {Q : zO → List zE → Prop} (n : Nat) : ∀ (v3 : Int32) (v4 : Int64) (s : zS) (r : (Int32 × zS) ⊕ (Int32 × Int64 × zS)) (hf : fX8_scanDigits_L13 N p0 p1 n v3 v4 s = some r) (k1 : ∀ w s', r = .inl (w, s') → Q (.inl (some (.int w))) (zHp s')) (k2 : ∀ (y3 : Int32) (y4 : Int64) (s' : zS), r = .inr (y3, y4, s') → zW g mX8_scanDigits d mc ms n0 Q 0 0 (zHp s') [some (.ref 4), some (.int p0), some (.int p1), some (.int y3), some (.long y4), none] [] 78), zW g mX8_scanDigits d mc ms n0 Q 0 0 (zHp s) [some (.ref 4), some (.int p0), some (.int p1), some (.int v3), some (.long v4), none] [] 13 := by
  induction n with
  | zero => intro v3 v4 s r hf; cases hf
  | succ n ih =>
    intro v3 v4 s r hf k1 k2
    have hrec : ∀ (v3 : Int32) (v4 : Int64) (s : zS) (r1 : (Int32 × zS) ⊕ (Int32 × Int64 × zS)), fX8_scanDigits_L13 N p0 p1 n v3 v4 s = some r1 → r1 = r → zW g mX8_scanDigits d mc ms n0 Q 0 0 (zHp s) [some (.ref 4), some (.int p0), some (.int p1), some (.int v3), some (.long v4), none] [] 13 := fun v3 v4 s r1 h e => ih v3 v4 s r1 h (by subst e; exact k1) (by subst e; exact k2)
    have hrec : ∀ (v3 : Int32) (v4 : Int64) (s : zS), fX8_scanDigits_L13 N p0 p1 n v3 v4 s = some r → zW g mX8_scanDigits d mc ms n0 Q 0 0 (zHp s) [some (.ref 4), some (.int p0), some (.int p1), some (.int v3), some (.long v4), none] [] 13 := fun v3 v4 s h => hrec v3 v4 s r h rfl
    have hf : fX8_scanDigits_L13S N p0 p1 (fX8_scanDigits_L13 N p0 p1 n) v3 v4 s = some r := hf
    unfold fX8_scanDigits_L13S at hf
    refine z_aload_n dX8_scanDigits_13 rfl ?_
    refine z_getf dX8_scanDigits_14 fX8_31 (at_Words s) rfl ?_
    refine z_aload_n dX8_scanDigits_17 rfl ?_
    refine z_getf dX8_scanDigits_18 fX8_28 (at_Words s) rfl ?_
    refine z_icmp_ge 78 dX8_scanDigits_21 (by decide) (fun c21 => ?_) (fun c21 => ?_)
    · have hf := zifp hf c21
      cases hf
      refine z_mask (ls' := [_, _, _, _, _, _]) [true, true, true, true, true, false] rfl ?_
      exact k2 _ _ _ rfl
    · have hf := zifn hf c21
      refine z_aload_n dX8_scanDigits_24 rfl ?_
      refine z_aload_n dX8_scanDigits_25 rfl ?_
      refine z_getf dX8_scanDigits_26 fX8_31 (at_Words s) rfl ?_
      obtain ⟨x1, s2, q3, hf⟩ := zbn_of hf
      refine z_cV (as := [_]) hok dX8_scanDigits_29 kX8_54 (tX8_byteAt hok (d - 1) N (s.1 404)  q3) rfl (at_Words s) rfl rfl (by omega) (Nat.le_of_ble_eq_true rfl) (Nat.zero_le _) (Nat.zero_le _) rfl ?_
      obtain ⟨x4, s5, q6, hf⟩ := zbn_of hf
      refine z_cS (as := [_]) hok dX8_scanDigits_32 kX8_96 (tX8_digitOf hok (d - 1) (by omega) N x1  q6) rfl rfl (by omega) (Nat.le_of_ble_eq_true rfl) (Nat.zero_le _) (Nat.zero_le _) rfl ?_
      refine z_iload_n dX8_scanDigits_35 rfl ?_
      refine z_icmp_ge 78 dX8_scanDigits_36 (by decide) (fun c36 => ?_) (fun c36 => ?_)
      · have hf := zifp hf c36
        cases hf
        refine z_mask (ls' := [_, _, _, _, _, _]) [true, true, true, true, true, false] rfl ?_
        exact k2 _ _ _ rfl
      · have hf := zifn hf c36
        refine z_lload dX8_scanDigits_39 rfl ?_
        refine z_iload_n dX8_scanDigits_41 rfl ?_
        refine z_i2l dX8_scanDigits_42 ?_
        refine z_lmul dX8_scanDigits_43 ?_
        refine z_aload_n dX8_scanDigits_44 rfl ?_
        refine z_aload_n dX8_scanDigits_45 rfl ?_
        refine z_getf dX8_scanDigits_46 fX8_31 (at_Words s5) rfl ?_
        obtain ⟨x7, s8, q9, hf⟩ := zbn_of hf
        refine z_cV (as := [_]) hok dX8_scanDigits_49 kX8_54 (tX8_byteAt hok (d - 1) N (s5.1 404)  q9) rfl (at_Words s5) rfl rfl (by omega) (Nat.le_of_ble_eq_true rfl) (Nat.zero_le _) (Nat.zero_le _) rfl ?_
        obtain ⟨x10, s11, q12, hf⟩ := zbn_of hf
        refine z_cS (as := [_]) hok dX8_scanDigits_52 kX8_96 (tX8_digitOf hok (d - 1) (by omega) N x7  q12) rfl rfl (by omega) (Nat.le_of_ble_eq_true rfl) (Nat.zero_le _) (Nat.zero_le _) rfl ?_
        refine z_i2l dX8_scanDigits_55 ?_
        refine z_ladd dX8_scanDigits_56 ?_
        refine z_ldc2 dX8_scanDigits_57 lX8_99 ?_
        refine z_mminl dX8_scanDigits_60 kX8_101 (Nat.le_of_ble_eq_true rfl) (Nat.zero_le _) (Nat.zero_le _) ?_
        refine z_lstore (ls' := [_, _, _, _, _, _]) dX8_scanDigits_63 (by decide) rfl ?_
        refine z_aload_n dX8_scanDigits_65 rfl ?_
        refine z_dup dX8_scanDigits_66 rfl ?_
        refine z_getf dX8_scanDigits_67 fX8_31 (at_Words s11) rfl ?_
        refine z_iconst 1 dX8_scanDigits_70 (by decide +kernel) ?_
        refine z_iadd dX8_scanDigits_71 ?_
        refine z_putf dX8_scanDigits_72 fX8_31 wX8_4 (at_Words s11) (Nat.le_of_ble_eq_true rfl) (fun _ => rfl) (fun _ => rfl) (st_Words_4 s11 ((s11.1 404) + 1)) ?_
        refine z_goto 13 dX8_scanDigits_75 (by decide) ?_
        refine z_mask (ls' := [_, _, _, _, _, _]) [true, true, true, true, true, false] rfl ?_
        exact hrec v3 (if 4294967296 < ((v4 * p0.toInt64) + x10.toInt64) then 4294967296 else ((v4 * p0.toInt64) + x10.toInt64)) (zsc s11 404 ((s11.1 404) + 1)) hf
noncomputable def fX8_scanDigits_J78 (N : Nat) (p0 : Int32) (p1 : Int32) (v3 : Int32) (v4 : Int64) (s : zS) : Option (Int32 × zS) := if (s.1 404) = p1 then zbn (fX8_bad N 3 s) (fun x19 s20 => some (x19, s20)) else if (lg_cmp v4 4294967296) = 0 then zbn (fX8_bad N 3 s) (fun x22 s23 => some (x22, s23)) else if ((s.1 404) - v3) = 1 then some (4, (zsc s 405 v4.toInt32)) else some (5, (zsc s 405 v4.toInt32))
set_option maxHeartbeats 400000 in
set_option maxRecDepth 100000 in
theorem tX8_scanDigits_J78 {g : zGl} (hok : zGok g) (d : Nat) (hd : 2 ≤ d) (N : Nat) (p0 : Int32) (p1 : Int32)  {mc ms n0 : Nat} (v3 : Int32) (v4 : Int64) {s s' : zS} {w : Int32} (hf : fX8_scanDigits_J78 N p0 p1 v3 v4 s = some (w, s')) : zW g mX8_scanDigits d mc ms n0 (zret (some (.int w)) (zHp s')) 0 0 (zHp s) [some (.ref 4), some (.int p0), some (.int p1), some (.int v3), some (.long v4), none] [] 78 := by
  unfold fX8_scanDigits_J78 at hf
  refine z_aload_n dX8_scanDigits_78 rfl ?_
  refine z_getf dX8_scanDigits_79 fX8_31 (at_Words s) rfl ?_
  refine z_iload_n dX8_scanDigits_82 rfl ?_
  refine z_icmp_eq 95 dX8_scanDigits_83 (by decide) (fun c83 => ?_) (fun c83 => ?_)
  · have hf := zifp hf c83
    refine z_aload_n dX8_scanDigits_95 rfl ?_
    refine z_iconst 3 dX8_scanDigits_96 (by decide +kernel) ?_
    obtain ⟨x19, s20, q21, hf⟩ := zbn_of hf
    refine z_cV (as := [_]) hok dX8_scanDigits_97 kX8_83 (tX8_bad hok (d - 1) N 3  q21) rfl (at_Words s) rfl rfl (by omega) (Nat.le_of_ble_eq_true rfl) (Nat.zero_le _) (Nat.zero_le _) rfl ?_
    cases hf
    exact z_iret rfl dX8_scanDigits_100 (Nat.zero_le _) (Nat.zero_le _) ⟨rfl, rfl⟩
  · have hf := zifn hf c83
    refine z_lload dX8_scanDigits_86 rfl ?_
    refine z_ldc2 dX8_scanDigits_88 lX8_99 ?_
    refine z_lcmp dX8_scanDigits_91 ?_
    refine z_if_ne 101 dX8_scanDigits_92 (by decide) (fun c92 => ?_) (fun c92 => ?_)
    · have hf := zifn hf c92
      refine z_aload_n dX8_scanDigits_101 rfl ?_
      refine z_lload dX8_scanDigits_102 rfl ?_
      refine z_l2i dX8_scanDigits_104 ?_
      refine z_putf dX8_scanDigits_105 fX8_37 wX8_5 (at_Words s) (Nat.le_of_ble_eq_true rfl) (fun _ => rfl) (fun _ => rfl) (st_Words_5 s v4.toInt32) ?_
      refine z_aload_n dX8_scanDigits_108 rfl ?_
      refine z_getf dX8_scanDigits_109 fX8_31 (at_Words (zsc s 405 v4.toInt32)) rfl ?_
      refine z_iload_n dX8_scanDigits_112 rfl ?_
      refine z_isub dX8_scanDigits_113 ?_
      refine z_iconst 1 dX8_scanDigits_114 (by decide +kernel) ?_
      refine z_icmp_ne 122 dX8_scanDigits_115 (by decide) (fun c115 => ?_) (fun c115 => ?_)
      · have hf := zifn hf c115
        refine z_iconst 5 dX8_scanDigits_122 (by decide +kernel) ?_
        cases hf
        exact z_iret rfl dX8_scanDigits_123 (Nat.zero_le _) (Nat.zero_le _) ⟨rfl, rfl⟩
      · have hf := zifp hf c115
        refine z_iconst 4 dX8_scanDigits_118 (by decide +kernel) ?_
        refine z_goto 123 dX8_scanDigits_119 (by decide) ?_
        cases hf
        exact z_iret rfl dX8_scanDigits_123 (Nat.zero_le _) (Nat.zero_le _) ⟨rfl, rfl⟩
    · have hf := zifp hf c92
      refine z_aload_n dX8_scanDigits_95 rfl ?_
      refine z_iconst 3 dX8_scanDigits_96 (by decide +kernel) ?_
      obtain ⟨x22, s23, q24, hf⟩ := zbn_of hf
      refine z_cV (as := [_]) hok dX8_scanDigits_97 kX8_83 (tX8_bad hok (d - 1) N 3  q24) rfl (at_Words s) rfl rfl (by omega) (Nat.le_of_ble_eq_true rfl) (Nat.zero_le _) (Nat.zero_le _) rfl ?_
      cases hf
      exact z_iret rfl dX8_scanDigits_100 (Nat.zero_le _) (Nat.zero_le _) ⟨rfl, rfl⟩
noncomputable def fX8_scanDigits (N : Nat) (p0 : Int32) (p1 : Int32) (s : zS) : Option (Int32 × zS) := zbl (fX8_scanDigits_L13 N p0 p1 N (s.1 404) 0 (zsc s 404 p1)) (fun x => some x) (fun lq13 => match lq13 with | (y16, y17, s18) => fX8_scanDigits_J78 N p0 p1 y16 y17 s18)
set_option maxHeartbeats 400000 in
set_option maxRecDepth 100000 in
theorem tX8_scanDigits {g : zGl} (hok : zGok g) (d : Nat) (hd : 2 ≤ d) (N : Nat) (p0 : Int32) (p1 : Int32)  {s s' : zS} {w : Int32} (hf : fX8_scanDigits N p0 p1 s = some (w, s')) : zMet g mX8_scanDigits d 0 0 [.ref 4, .int p0, .int p1] (zHp s) (zret (some (.int w)) (zHp s')) := by
  refine zMet.ofW (by decide +kernel) (Nat.le_of_ble_eq_true rfl) ?_
  show zW g mX8_scanDigits d 0 0 51 _ 0 0 (zHp s) [some (.ref 4), some (.int p0), some (.int p1), none, none, none] [] 0
  unfold fX8_scanDigits at hf
  refine z_aload_n dX8_scanDigits_0 rfl ?_
  refine z_getf dX8_scanDigits_1 fX8_31 (at_Words s) rfl ?_
  refine z_istore_n (ls' := [_, _, _, _, _, _]) dX8_scanDigits_4 (by decide) rfl ?_
  refine z_lconst 0 dX8_scanDigits_5 (by decide +kernel) ?_
  refine z_lstore (ls' := [_, _, _, _, _, _]) dX8_scanDigits_6 (by decide) rfl ?_
  refine z_aload_n dX8_scanDigits_8 rfl ?_
  refine z_iload_n dX8_scanDigits_9 rfl ?_
  refine z_putf dX8_scanDigits_10 fX8_31 wX8_4 (at_Words s) (Nat.le_of_ble_eq_true rfl) (fun _ => rfl) (fun _ => rfl) (st_Words_4 s p1) ?_
  refine z_mask (ls' := [_, _, _, _, _, _]) [true, true, true, true, true, false] rfl ?_
  rcases zbl_of hf with ⟨lr14, le15, hf⟩ | ⟨lr14, le15, hf⟩
  · cases hf
    exact tX8_scanDigits_L13 hok d (by omega) N p0 p1  N (s.1 404) 0 (zsc s 404 p1) _ le15 (fun w1 s1 hh => by cases hh; exact ⟨rfl, rfl⟩) (fun _ _ _ hh => by cases hh)
  · obtain ⟨y16, y17, s18⟩ := lr14
    refine tX8_scanDigits_L13 hok d (by omega) N p0 p1  N (s.1 404) 0 (zsc s 404 p1) _ le15 (fun w1 s1 hh => by cases hh) (fun _ _ _ hh => ?_)
    cases hh
    refine z_mask (ls' := [_, _, _, _, _, _]) [true, true, true, true, true, false] rfl ?_
    exact tX8_scanDigits_J78 hok d (by omega) N p0 p1  y16 y17 hf

noncomputable def fX8_isNameByte_J24 (N : Nat) (p0 : Int32)  (s : zS) : Option (Int32 × zS) := zbn (fX8_isDigit N p0 s) (fun x1 s2 => if x1 = 0 then if p0 = 95 then some (1, s2) else if p0 = 46 then some (1, s2) else if p0 = 36 then some (1, s2) else some (0, s2) else some (1, s2))
set_option maxHeartbeats 400000 in
set_option maxRecDepth 100000 in
theorem tX8_isNameByte_J24 {g : zGl} (hok : zGok g) (d : Nat) (hd : 1 ≤ d) (N : Nat) (p0 : Int32)  {mc ms n0 : Nat}  {s s' : zS} {w : Int32} (hf : fX8_isNameByte_J24 N p0  s = some (w, s')) : zW g mX8_isNameByte d mc ms n0 (zret (some (.int w)) (zHp s')) 0 0 (zHp s) [some (.int p0)] [] 24 := by
  unfold fX8_isNameByte_J24 at hf
  refine z_iload_n dX8_isNameByte_24 rfl ?_
  obtain ⟨x1, s2, q3, hf⟩ := zbn_of hf
  refine z_cS (as := [_]) hok dX8_isNameByte_25 kX8_61 (tX8_isDigit hok (d - 1) N p0  q3) rfl rfl (by omega) (Nat.le_of_ble_eq_true rfl) (Nat.zero_le _) (Nat.zero_le _) rfl ?_
  refine z_if_ne 49 dX8_isNameByte_28 (by decide) (fun c28 => ?_) (fun c28 => ?_)
  · have hf := zifn hf c28
    refine z_iconst 1 dX8_isNameByte_49 (by decide +kernel) ?_
    refine z_goto 54 dX8_isNameByte_50 (by decide) ?_
    cases hf
    exact z_zret rfl (by decide) dX8_isNameByte_54 (Nat.zero_le _) (Nat.zero_le _) ⟨rfl, rfl⟩
  · have hf := zifp hf c28
    refine z_iload_n dX8_isNameByte_31 rfl ?_
    refine z_bipush 95 dX8_isNameByte_32 (by decide +kernel) ?_
    refine z_icmp_eq 49 dX8_isNameByte_34 (by decide) (fun c34 => ?_) (fun c34 => ?_)
    · have hf := zifp hf c34
      refine z_iconst 1 dX8_isNameByte_49 (by decide +kernel) ?_
      refine z_goto 54 dX8_isNameByte_50 (by decide) ?_
      cases hf
      exact z_zret rfl (by decide) dX8_isNameByte_54 (Nat.zero_le _) (Nat.zero_le _) ⟨rfl, rfl⟩
    · have hf := zifn hf c34
      refine z_iload_n dX8_isNameByte_37 rfl ?_
      refine z_bipush 46 dX8_isNameByte_38 (by decide +kernel) ?_
      refine z_icmp_eq 49 dX8_isNameByte_40 (by decide) (fun c40 => ?_) (fun c40 => ?_)
      · have hf := zifp hf c40
        refine z_iconst 1 dX8_isNameByte_49 (by decide +kernel) ?_
        refine z_goto 54 dX8_isNameByte_50 (by decide) ?_
        cases hf
        exact z_zret rfl (by decide) dX8_isNameByte_54 (Nat.zero_le _) (Nat.zero_le _) ⟨rfl, rfl⟩
      · have hf := zifn hf c40
        refine z_iload_n dX8_isNameByte_43 rfl ?_
        refine z_bipush 36 dX8_isNameByte_44 (by decide +kernel) ?_
        refine z_icmp_ne 53 dX8_isNameByte_46 (by decide) (fun c46 => ?_) (fun c46 => ?_)
        · have hf := zifn hf c46
          refine z_iconst 0 dX8_isNameByte_53 (by decide +kernel) ?_
          cases hf
          exact z_zret rfl (by decide) dX8_isNameByte_54 (Nat.zero_le _) (Nat.zero_le _) ⟨rfl, rfl⟩
        · have hf := zifp hf c46
          refine z_iconst 1 dX8_isNameByte_49 (by decide +kernel) ?_
          refine z_goto 54 dX8_isNameByte_50 (by decide) ?_
          cases hf
          exact z_zret rfl (by decide) dX8_isNameByte_54 (Nat.zero_le _) (Nat.zero_le _) ⟨rfl, rfl⟩
noncomputable def fX8_isNameByte_J12 (N : Nat) (p0 : Int32)  (s : zS) : Option (Int32 × zS) := if p0 < 65 then fX8_isNameByte_J24 N p0  s else if p0 ≤ 90 then some (1, s) else fX8_isNameByte_J24 N p0  s
set_option maxHeartbeats 400000 in
set_option maxRecDepth 100000 in
theorem tX8_isNameByte_J12 {g : zGl} (hok : zGok g) (d : Nat) (hd : 1 ≤ d) (N : Nat) (p0 : Int32)  {mc ms n0 : Nat}  {s s' : zS} {w : Int32} (hf : fX8_isNameByte_J12 N p0  s = some (w, s')) : zW g mX8_isNameByte d mc ms n0 (zret (some (.int w)) (zHp s')) 0 0 (zHp s) [some (.int p0)] [] 12 := by
  unfold fX8_isNameByte_J12 at hf
  refine z_iload_n dX8_isNameByte_12 rfl ?_
  refine z_bipush 65 dX8_isNameByte_13 (by decide +kernel) ?_
  refine z_icmp_lt 24 dX8_isNameByte_15 (by decide) (fun c15 => ?_) (fun c15 => ?_)
  · have hf := zifp hf c15
    refine z_mask (ls' := [_]) [true] rfl ?_
    exact tX8_isNameByte_J24 hok d (by omega) N p0   hf
  · have hf := zifn hf c15
    refine z_iload_n dX8_isNameByte_18 rfl ?_
    refine z_bipush 90 dX8_isNameByte_19 (by decide +kernel) ?_
    refine z_icmp_le 49 dX8_isNameByte_21 (by decide) (fun c21 => ?_) (fun c21 => ?_)
    · have hf := zifp hf c21
      refine z_iconst 1 dX8_isNameByte_49 (by decide +kernel) ?_
      refine z_goto 54 dX8_isNameByte_50 (by decide) ?_
      cases hf
      exact z_zret rfl (by decide) dX8_isNameByte_54 (Nat.zero_le _) (Nat.zero_le _) ⟨rfl, rfl⟩
    · have hf := zifn hf c21
      refine z_mask (ls' := [_]) [true] rfl ?_
      exact tX8_isNameByte_J24 hok d (by omega) N p0   hf
noncomputable def fX8_isNameByte (N : Nat) (p0 : Int32) (s : zS) : Option (Int32 × zS) := if p0 < 97 then fX8_isNameByte_J12 N p0  s else if p0 ≤ 122 then some (1, s) else fX8_isNameByte_J12 N p0  s
set_option maxHeartbeats 400000 in
set_option maxRecDepth 100000 in
theorem tX8_isNameByte {g : zGl} (hok : zGok g) (d : Nat) (hd : 1 ≤ d) (N : Nat) (p0 : Int32)  {s s' : zS} {w : Int32} (hf : fX8_isNameByte N p0 s = some (w, s')) : zMet g mX8_isNameByte d 0 0 [.int p0] (zHp s) (zret (some (.int w)) (zHp s')) := by
  refine zMet.ofW (by decide +kernel) (Nat.le_of_ble_eq_true rfl) ?_
  show zW g mX8_isNameByte d 0 0 51 _ 0 0 (zHp s) [some (.int p0)] [] 0
  unfold fX8_isNameByte at hf
  refine z_iload_n dX8_isNameByte_0 rfl ?_
  refine z_bipush 97 dX8_isNameByte_1 (by decide +kernel) ?_
  refine z_icmp_lt 12 dX8_isNameByte_3 (by decide) (fun c3 => ?_) (fun c3 => ?_)
  · have hf := zifp hf c3
    refine z_mask (ls' := [_]) [true] rfl ?_
    exact tX8_isNameByte_J12 hok d (by omega) N p0   hf
  · have hf := zifn hf c3
    refine z_iload_n dX8_isNameByte_6 rfl ?_
    refine z_bipush 122 dX8_isNameByte_7 (by decide +kernel) ?_
    refine z_icmp_le 49 dX8_isNameByte_9 (by decide) (fun c9 => ?_) (fun c9 => ?_)
    · have hf := zifp hf c9
      refine z_iconst 1 dX8_isNameByte_49 (by decide +kernel) ?_
      refine z_goto 54 dX8_isNameByte_50 (by decide) ?_
      cases hf
      exact z_zret rfl (by decide) dX8_isNameByte_54 (Nat.zero_le _) (Nat.zero_le _) ⟨rfl, rfl⟩
    · have hf := zifn hf c9
      refine z_mask (ls' := [_]) [true] rfl ?_
      exact tX8_isNameByte_J12 hok d (by omega) N p0   hf

noncomputable def fX8_scanNumber_J98 (N : Nat)  (v1 : Int32) (v2 : Int32) (s : zS) : Option (Int32 × zS) := zbn (fX8_byteAt N ((s.1 404) + 2) s) (fun x7 s8 => zbn (fX8_isNameByte N x7 s8) (fun x10 s11 => if x10 = 0 then zbn (fX8_digitOf N v1 s11) (fun x16 s17 => if v2 = 102 then some (6, (zsc (zsc s17 405 ((2 * x16) + 1)) 404 ((s17.1 404) + 2))) else some (6, (zsc (zsc s17 405 ((2 * x16) + 0)) 404 ((s17.1 404) + 2)))) else zbn (fX8_scanDigits N 10 (s11.1 404) s11) (fun x13 s14 => some (x13, s14))))
set_option maxHeartbeats 400000 in
set_option maxRecDepth 100000 in
theorem tX8_scanNumber_J98 {g : zGl} (hok : zGok g) (d : Nat) (hd : 3 ≤ d) (N : Nat)   {mc ms n0 : Nat} (v1 : Int32) (v2 : Int32) {s s' : zS} {w : Int32} (hf : fX8_scanNumber_J98 N  v1 v2 s = some (w, s')) : zW g mX8_scanNumber d mc ms n0 (zret (some (.int w)) (zHp s')) 0 0 (zHp s) [some (.ref 4), some (.int v1), some (.int v2)] [] 98 := by
  unfold fX8_scanNumber_J98 at hf
  refine z_aload_n dX8_scanNumber_98 rfl ?_
  refine z_aload_n dX8_scanNumber_99 rfl ?_
  refine z_getf dX8_scanNumber_100 fX8_31 (at_Words s) rfl ?_
  refine z_iconst 2 dX8_scanNumber_103 (by decide +kernel) ?_
  refine z_iadd dX8_scanNumber_104 ?_
  obtain ⟨x7, s8, q9, hf⟩ := zbn_of hf
  refine z_cV (as := [_]) hok dX8_scanNumber_105 kX8_54 (tX8_byteAt hok (d - 1) N ((s.1 404) + 2)  q9) rfl (at_Words s) rfl rfl (by omega) (Nat.le_of_ble_eq_true rfl) (Nat.zero_le _) (Nat.zero_le _) rfl ?_
  obtain ⟨x10, s11, q12, hf⟩ := zbn_of hf
  refine z_cS (as := [_]) hok dX8_scanNumber_108 kX8_68 (tX8_isNameByte hok (d - 1) (by omega) N x7  q12) rfl rfl (by omega) (Nat.le_of_ble_eq_true rfl) (Nat.zero_le _) (Nat.zero_le _) rfl ?_
  refine z_if_ne 149 dX8_scanNumber_111 (by decide) (fun c111 => ?_) (fun c111 => ?_)
  · have hf := zifn hf c111
    refine z_aload_n dX8_scanNumber_149 rfl ?_
    refine z_bipush 10 dX8_scanNumber_150 (by decide +kernel) ?_
    refine z_aload_n dX8_scanNumber_152 rfl ?_
    refine z_getf dX8_scanNumber_153 fX8_31 (at_Words s11) rfl ?_
    obtain ⟨x13, s14, q15, hf⟩ := zbn_of hf
    refine z_cV (as := [_, _]) hok dX8_scanNumber_156 kX8_92 (tX8_scanDigits hok (d - 1) (by omega) N 10 (s11.1 404)  q15) rfl (at_Words s11) rfl rfl (by omega) (Nat.le_of_ble_eq_true rfl) (Nat.zero_le _) (Nat.zero_le _) rfl ?_
    cases hf
    exact z_iret rfl dX8_scanNumber_159 (Nat.zero_le _) (Nat.zero_le _) ⟨rfl, rfl⟩
  · have hf := zifp hf c111
    refine z_aload_n dX8_scanNumber_114 rfl ?_
    refine z_iconst 2 dX8_scanNumber_115 (by decide +kernel) ?_
    refine z_iload_n dX8_scanNumber_116 rfl ?_
    obtain ⟨x16, s17, q18, hf⟩ := zbn_of hf
    refine z_cS (as := [_]) hok dX8_scanNumber_117 kX8_96 (tX8_digitOf hok (d - 1) (by omega) N v1  q18) rfl rfl (by omega) (Nat.le_of_ble_eq_true rfl) (Nat.zero_le _) (Nat.zero_le _) rfl ?_
    refine z_imul dX8_scanNumber_120 ?_
    refine z_iload_n dX8_scanNumber_121 rfl ?_
    refine z_bipush 102 dX8_scanNumber_122 (by decide +kernel) ?_
    refine z_icmp_ne 131 dX8_scanNumber_124 (by decide) (fun c124 => ?_) (fun c124 => ?_)
    · have hf := zifn hf c124
      refine z_iconst 0 dX8_scanNumber_131 (by decide +kernel) ?_
      refine z_iadd dX8_scanNumber_132 ?_
      refine z_putf dX8_scanNumber_133 fX8_37 wX8_5 (at_Words s17) (Nat.le_of_ble_eq_true rfl) (fun _ => rfl) (fun _ => rfl) (st_Words_5 s17 ((2 * x16) + 0)) ?_
      refine z_aload_n dX8_scanNumber_136 rfl ?_
      refine z_dup dX8_scanNumber_137 rfl ?_
      refine z_getf dX8_scanNumber_138 fX8_31 (at_Words (zsc s17 405 ((2 * x16) + 0))) rfl ?_
      refine z_iconst 2 dX8_scanNumber_141 (by decide +kernel) ?_
      refine z_iadd dX8_scanNumber_142 ?_
      refine z_putf dX8_scanNumber_143 fX8_31 wX8_4 (at_Words (zsc s17 405 ((2 * x16) + 0))) (Nat.le_of_ble_eq_true rfl) (fun _ => rfl) (fun _ => rfl) (st_Words_4 (zsc s17 405 ((2 * x16) + 0)) ((s17.1 404) + 2)) ?_
      refine z_bipush 6 dX8_scanNumber_146 (by decide +kernel) ?_
      cases hf
      exact z_iret rfl dX8_scanNumber_148 (Nat.zero_le _) (Nat.zero_le _) ⟨rfl, rfl⟩
    · have hf := zifp hf c124
      refine z_iconst 1 dX8_scanNumber_127 (by decide +kernel) ?_
      refine z_goto 132 dX8_scanNumber_128 (by decide) ?_
      refine z_iadd dX8_scanNumber_132 ?_
      refine z_putf dX8_scanNumber_133 fX8_37 wX8_5 (at_Words s17) (Nat.le_of_ble_eq_true rfl) (fun _ => rfl) (fun _ => rfl) (st_Words_5 s17 ((2 * x16) + 1)) ?_
      refine z_aload_n dX8_scanNumber_136 rfl ?_
      refine z_dup dX8_scanNumber_137 rfl ?_
      refine z_getf dX8_scanNumber_138 fX8_31 (at_Words (zsc s17 405 ((2 * x16) + 1))) rfl ?_
      refine z_iconst 2 dX8_scanNumber_141 (by decide +kernel) ?_
      refine z_iadd dX8_scanNumber_142 ?_
      refine z_putf dX8_scanNumber_143 fX8_31 wX8_4 (at_Words (zsc s17 405 ((2 * x16) + 1))) (Nat.le_of_ble_eq_true rfl) (fun _ => rfl) (fun _ => rfl) (st_Words_4 (zsc s17 405 ((2 * x16) + 1)) ((s17.1 404) + 2)) ?_
      refine z_bipush 6 dX8_scanNumber_146 (by decide +kernel) ?_
      cases hf
      exact z_iret rfl dX8_scanNumber_148 (Nat.zero_le _) (Nat.zero_le _) ⟨rfl, rfl⟩
noncomputable def fX8_scanNumber_J86 (N : Nat)  (v1 : Int32) (v2 : Int32) (s : zS) : Option (Int32 × zS) := if v2 = 98 then fX8_scanNumber_J98 N  v1 v2 s else if v2 = 102 then fX8_scanNumber_J98 N  v1 v2 s else zbn (fX8_scanDigits N 10 (s.1 404) s) (fun x19 s20 => some (x19, s20))
set_option maxHeartbeats 400000 in
set_option maxRecDepth 100000 in
theorem tX8_scanNumber_J86 {g : zGl} (hok : zGok g) (d : Nat) (hd : 3 ≤ d) (N : Nat)   {mc ms n0 : Nat} (v1 : Int32) (v2 : Int32) {s s' : zS} {w : Int32} (hf : fX8_scanNumber_J86 N  v1 v2 s = some (w, s')) : zW g mX8_scanNumber d mc ms n0 (zret (some (.int w)) (zHp s')) 0 0 (zHp s) [some (.ref 4), some (.int v1), some (.int v2)] [] 86 := by
  unfold fX8_scanNumber_J86 at hf
  refine z_iload_n dX8_scanNumber_86 rfl ?_
  refine z_bipush 98 dX8_scanNumber_87 (by decide +kernel) ?_
  refine z_icmp_eq 98 dX8_scanNumber_89 (by decide) (fun c89 => ?_) (fun c89 => ?_)
  · have hf := zifp hf c89
    refine z_mask (ls' := [_, _, _]) [true, true, true] rfl ?_
    exact tX8_scanNumber_J98 hok d (by omega) N   v1 v2 hf
  · have hf := zifn hf c89
    refine z_iload_n dX8_scanNumber_92 rfl ?_
    refine z_bipush 102 dX8_scanNumber_93 (by decide +kernel) ?_
    refine z_icmp_ne 149 dX8_scanNumber_95 (by decide) (fun c95 => ?_) (fun c95 => ?_)
    · have hf := zifn hf c95
      refine z_aload_n dX8_scanNumber_149 rfl ?_
      refine z_bipush 10 dX8_scanNumber_150 (by decide +kernel) ?_
      refine z_aload_n dX8_scanNumber_152 rfl ?_
      refine z_getf dX8_scanNumber_153 fX8_31 (at_Words s) rfl ?_
      obtain ⟨x19, s20, q21, hf⟩ := zbn_of hf
      refine z_cV (as := [_, _]) hok dX8_scanNumber_156 kX8_92 (tX8_scanDigits hok (d - 1) (by omega) N 10 (s.1 404)  q21) rfl (at_Words s) rfl rfl (by omega) (Nat.le_of_ble_eq_true rfl) (Nat.zero_le _) (Nat.zero_le _) rfl ?_
      cases hf
      exact z_iret rfl dX8_scanNumber_159 (Nat.zero_le _) (Nat.zero_le _) ⟨rfl, rfl⟩
    · have hf := zifp hf c95
      refine z_mask (ls' := [_, _, _]) [true, true, true] rfl ?_
      exact tX8_scanNumber_J98 hok d (by omega) N   v1 v2 hf
noncomputable def fX8_scanNumber_J45 (N : Nat)  (v1 : Int32) (v2 : Int32) (s : zS) : Option (Int32 × zS) := if v1 = 48 then if v2 = 98 then zbn (fX8_byteAt N ((s.1 404) + 2) s) (fun x22 s23 => zbn (fX8_digitOf N x22 s23) (fun x25 s26 => if 2 ≤ x25 then fX8_scanNumber_J86 N  v1 v2 s26 else zbn (fX8_scanDigits N 2 ((s26.1 404) + 2) s26) (fun x28 s29 => some (x28, s29)))) else fX8_scanNumber_J86 N  v1 v2 s else fX8_scanNumber_J86 N  v1 v2 s
set_option maxHeartbeats 400000 in
set_option maxRecDepth 100000 in
theorem tX8_scanNumber_J45 {g : zGl} (hok : zGok g) (d : Nat) (hd : 3 ≤ d) (N : Nat)   {mc ms n0 : Nat} (v1 : Int32) (v2 : Int32) {s s' : zS} {w : Int32} (hf : fX8_scanNumber_J45 N  v1 v2 s = some (w, s')) : zW g mX8_scanNumber d mc ms n0 (zret (some (.int w)) (zHp s')) 0 0 (zHp s) [some (.ref 4), some (.int v1), some (.int v2)] [] 45 := by
  unfold fX8_scanNumber_J45 at hf
  refine z_iload_n dX8_scanNumber_45 rfl ?_
  refine z_bipush 48 dX8_scanNumber_46 (by decide +kernel) ?_
  refine z_icmp_ne 86 dX8_scanNumber_48 (by decide) (fun c48 => ?_) (fun c48 => ?_)
  · have hf := zifn hf c48
    refine z_mask (ls' := [_, _, _]) [true, true, true] rfl ?_
    exact tX8_scanNumber_J86 hok d (by omega) N   v1 v2 hf
  · have hf := zifp hf c48
    refine z_iload_n dX8_scanNumber_51 rfl ?_
    refine z_bipush 98 dX8_scanNumber_52 (by decide +kernel) ?_
    refine z_icmp_ne 86 dX8_scanNumber_54 (by decide) (fun c54 => ?_) (fun c54 => ?_)
    · have hf := zifn hf c54
      refine z_mask (ls' := [_, _, _]) [true, true, true] rfl ?_
      exact tX8_scanNumber_J86 hok d (by omega) N   v1 v2 hf
    · have hf := zifp hf c54
      refine z_aload_n dX8_scanNumber_57 rfl ?_
      refine z_aload_n dX8_scanNumber_58 rfl ?_
      refine z_getf dX8_scanNumber_59 fX8_31 (at_Words s) rfl ?_
      refine z_iconst 2 dX8_scanNumber_62 (by decide +kernel) ?_
      refine z_iadd dX8_scanNumber_63 ?_
      obtain ⟨x22, s23, q24, hf⟩ := zbn_of hf
      refine z_cV (as := [_]) hok dX8_scanNumber_64 kX8_54 (tX8_byteAt hok (d - 1) N ((s.1 404) + 2)  q24) rfl (at_Words s) rfl rfl (by omega) (Nat.le_of_ble_eq_true rfl) (Nat.zero_le _) (Nat.zero_le _) rfl ?_
      obtain ⟨x25, s26, q27, hf⟩ := zbn_of hf
      refine z_cS (as := [_]) hok dX8_scanNumber_67 kX8_96 (tX8_digitOf hok (d - 1) (by omega) N x22  q27) rfl rfl (by omega) (Nat.le_of_ble_eq_true rfl) (Nat.zero_le _) (Nat.zero_le _) rfl ?_
      refine z_iconst 2 dX8_scanNumber_70 (by decide +kernel) ?_
      refine z_icmp_ge 86 dX8_scanNumber_71 (by decide) (fun c71 => ?_) (fun c71 => ?_)
      · have hf := zifp hf c71
        refine z_mask (ls' := [_, _, _]) [true, true, true] rfl ?_
        exact tX8_scanNumber_J86 hok d (by omega) N   v1 v2 hf
      · have hf := zifn hf c71
        refine z_aload_n dX8_scanNumber_74 rfl ?_
        refine z_iconst 2 dX8_scanNumber_75 (by decide +kernel) ?_
        refine z_aload_n dX8_scanNumber_76 rfl ?_
        refine z_getf dX8_scanNumber_77 fX8_31 (at_Words s26) rfl ?_
        refine z_iconst 2 dX8_scanNumber_80 (by decide +kernel) ?_
        refine z_iadd dX8_scanNumber_81 ?_
        obtain ⟨x28, s29, q30, hf⟩ := zbn_of hf
        refine z_cV (as := [_, _]) hok dX8_scanNumber_82 kX8_92 (tX8_scanDigits hok (d - 1) (by omega) N 2 ((s26.1 404) + 2)  q30) rfl (at_Words s26) rfl rfl (by omega) (Nat.le_of_ble_eq_true rfl) (Nat.zero_le _) (Nat.zero_le _) rfl ?_
        cases hf
        exact z_iret rfl dX8_scanNumber_85 (Nat.zero_le _) (Nat.zero_le _) ⟨rfl, rfl⟩
noncomputable def fX8_scanNumber (N : Nat)  (s : zS) : Option (Int32 × zS) := zbn (fX8_byteAt N (s.1 404) s) (fun x1 s2 => zbn (fX8_byteAt N ((s2.1 404) + 1) s2) (fun x4 s5 => if x1 = 48 then if x4 = 120 then zbn (fX8_scanDigits N 16 ((s5.1 404) + 2) s5) (fun x31 s32 => some (x31, s32)) else fX8_scanNumber_J45 N  x1 x4 s5 else fX8_scanNumber_J45 N  x1 x4 s5))
set_option maxHeartbeats 400000 in
set_option maxRecDepth 100000 in
theorem tX8_scanNumber {g : zGl} (hok : zGok g) (d : Nat) (hd : 3 ≤ d) (N : Nat)   {s s' : zS} {w : Int32} (hf : fX8_scanNumber N  s = some (w, s')) : zMet g mX8_scanNumber d 0 0 [.ref 4] (zHp s) (zret (some (.int w)) (zHp s')) := by
  refine zMet.ofW (by decide +kernel) (Nat.le_of_ble_eq_true rfl) ?_
  show zW g mX8_scanNumber d 0 0 51 _ 0 0 (zHp s) [some (.ref 4), none, none] [] 0
  unfold fX8_scanNumber at hf
  refine z_aload_n dX8_scanNumber_0 rfl ?_
  refine z_aload_n dX8_scanNumber_1 rfl ?_
  refine z_getf dX8_scanNumber_2 fX8_31 (at_Words s) rfl ?_
  obtain ⟨x1, s2, q3, hf⟩ := zbn_of hf
  refine z_cV (as := [_]) hok dX8_scanNumber_5 kX8_54 (tX8_byteAt hok (d - 1) N (s.1 404)  q3) rfl (at_Words s) rfl rfl (by omega) (Nat.le_of_ble_eq_true rfl) (Nat.zero_le _) (Nat.zero_le _) rfl ?_
  refine z_istore_n (ls' := [_, _, _]) dX8_scanNumber_8 (by decide) rfl ?_
  refine z_aload_n dX8_scanNumber_9 rfl ?_
  refine z_aload_n dX8_scanNumber_10 rfl ?_
  refine z_getf dX8_scanNumber_11 fX8_31 (at_Words s2) rfl ?_
  refine z_iconst 1 dX8_scanNumber_14 (by decide +kernel) ?_
  refine z_iadd dX8_scanNumber_15 ?_
  obtain ⟨x4, s5, q6, hf⟩ := zbn_of hf
  refine z_cV (as := [_]) hok dX8_scanNumber_16 kX8_54 (tX8_byteAt hok (d - 1) N ((s2.1 404) + 1)  q6) rfl (at_Words s2) rfl rfl (by omega) (Nat.le_of_ble_eq_true rfl) (Nat.zero_le _) (Nat.zero_le _) rfl ?_
  refine z_istore_n (ls' := [_, _, _]) dX8_scanNumber_19 (by decide) rfl ?_
  refine z_iload_n dX8_scanNumber_20 rfl ?_
  refine z_bipush 48 dX8_scanNumber_21 (by decide +kernel) ?_
  refine z_icmp_ne 45 dX8_scanNumber_23 (by decide) (fun c23 => ?_) (fun c23 => ?_)
  · have hf := zifn hf c23
    refine z_mask (ls' := [_, _, _]) [true, true, true] rfl ?_
    exact tX8_scanNumber_J45 hok d (by omega) N   x1 x4 hf
  · have hf := zifp hf c23
    refine z_iload_n dX8_scanNumber_26 rfl ?_
    refine z_bipush 120 dX8_scanNumber_27 (by decide +kernel) ?_
    refine z_icmp_ne 45 dX8_scanNumber_29 (by decide) (fun c29 => ?_) (fun c29 => ?_)
    · have hf := zifn hf c29
      refine z_mask (ls' := [_, _, _]) [true, true, true] rfl ?_
      exact tX8_scanNumber_J45 hok d (by omega) N   x1 x4 hf
    · have hf := zifp hf c29
      refine z_aload_n dX8_scanNumber_32 rfl ?_
      refine z_bipush 16 dX8_scanNumber_33 (by decide +kernel) ?_
      refine z_aload_n dX8_scanNumber_35 rfl ?_
      refine z_getf dX8_scanNumber_36 fX8_31 (at_Words s5) rfl ?_
      refine z_iconst 2 dX8_scanNumber_39 (by decide +kernel) ?_
      refine z_iadd dX8_scanNumber_40 ?_
      obtain ⟨x31, s32, q33, hf⟩ := zbn_of hf
      refine z_cV (as := [_, _]) hok dX8_scanNumber_41 kX8_92 (tX8_scanDigits hok (d - 1) (by omega) N 16 ((s5.1 404) + 2)  q33) rfl (at_Words s5) rfl rfl (by omega) (Nat.le_of_ble_eq_true rfl) (Nat.zero_le _) (Nat.zero_le _) rfl ?_
      cases hf
      exact z_iret rfl dX8_scanNumber_44 (Nat.zero_le _) (Nat.zero_le _) ⟨rfl, rfl⟩

noncomputable def fX5_memberAt_L29S (N : Nat) (p0 : Nat) (p1 : Int32) (p2 : Int32) (rec : Int32 → Int32 → zS → Option ((Int32 × zS) ⊕ (Int32 × zS))) (v3 : Int32) (v4 : Int32) (s : zS) : Option ((Int32 × zS) ⊕ (Int32 × zS)) := if (p1 + p2) ≤ v4 then some (.inr (v3, s)) else if zga v4 (zlen p0) = true then zbn (fX8_isDigit N (s.2.1 p0 v4.toNatClampNeg) s) (fun x2 s3 => if x2 = 0 then some (.inl ((-1), s3)) else if p2 ≤ 1 then if zga v4 (zlen p0) = true then rec (((v3 * 10) + (s3.2.1 p0 v4.toNatClampNeg)) - 48) (v4 + 1) s3 else none else if zga p1 (zlen p0) = true then if (s3.2.1 p0 p1.toNatClampNeg) = 48 then some (.inl ((-1), s3)) else if zga v4 (zlen p0) = true then rec (((v3 * 10) + (s3.2.1 p0 v4.toNatClampNeg)) - 48) (v4 + 1) s3 else none else none) else none
noncomputable def fX5_memberAt_L29 (N : Nat) (p0 : Nat) (p1 : Int32) (p2 : Int32) (n : Nat) : Int32 → Int32 → zS → Option ((Int32 × zS) ⊕ (Int32 × zS)) := Nat.rec (motive := fun _ => Int32 → Int32 → zS → Option ((Int32 × zS) ⊕ (Int32 × zS))) (fun _ _ _ => none) (fun _ rec => fX5_memberAt_L29S N p0 p1 p2 rec) n
set_option maxHeartbeats 400000 in
set_option maxRecDepth 100000 in
theorem tX5_memberAt_L29 {g : zGl} (hok : zGok g) (d : Nat) (hd : 1 ≤ d) (N : Nat) (p0 : Nat) (p1 : Int32) (p2 : Int32) (hp0 : zAr p0) {mc ms n0 : Nat} {Q : zO → List zE → Prop} (n : Nat) : ∀ (v3 : Int32) (v4 : Int32) (s : zS) (r : (Int32 × zS) ⊕ (Int32 × zS)) (hf : fX5_memberAt_L29 N p0 p1 p2 n v3 v4 s = some r) (k1 : ∀ w s', r = .inl (w, s') → Q (.inl (some (.int w))) (zHp s')) (k2 : ∀ (y3 : Int32) (s' : zS), r = .inr (y3, s') → zW g mX5_memberAt d mc ms n0 Q 0 0 (zHp s') [some (.ref p0), some (.int p1), some (.int p2), some (.int y3), none] [] 81), zW g mX5_memberAt d mc ms n0 Q 0 0 (zHp s) [some (.ref p0), some (.int p1), some (.int p2), some (.int v3), some (.int v4)] [] 29 := by
  induction n with
  | zero => intro v3 v4 s r hf; cases hf
  | succ n ih =>
    intro v3 v4 s r hf k1 k2
    have hrec : ∀ (v3 : Int32) (v4 : Int32) (s : zS) (r1 : (Int32 × zS) ⊕ (Int32 × zS)), fX5_memberAt_L29 N p0 p1 p2 n v3 v4 s = some r1 → r1 = r → zW g mX5_memberAt d mc ms n0 Q 0 0 (zHp s) [some (.ref p0), some (.int p1), some (.int p2), some (.int v3), some (.int v4)] [] 29 := fun v3 v4 s r1 h e => ih v3 v4 s r1 h (by subst e; exact k1) (by subst e; exact k2)
    have hrec : ∀ (v3 : Int32) (v4 : Int32) (s : zS), fX5_memberAt_L29 N p0 p1 p2 n v3 v4 s = some r → zW g mX5_memberAt d mc ms n0 Q 0 0 (zHp s) [some (.ref p0), some (.int p1), some (.int p2), some (.int v3), some (.int v4)] [] 29 := fun v3 v4 s h => hrec v3 v4 s r h rfl
    have hf : fX5_memberAt_L29S N p0 p1 p2 (fX5_memberAt_L29 N p0 p1 p2 n) v3 v4 s = some r := hf
    unfold fX5_memberAt_L29S at hf
    refine z_iload dX5_memberAt_29 rfl ?_
    refine z_iload_n dX5_memberAt_31 rfl ?_
    refine z_iload_n dX5_memberAt_32 rfl ?_
    refine z_iadd dX5_memberAt_33 ?_
    refine z_icmp_ge 81 dX5_memberAt_34 (by decide) (fun c34 => ?_) (fun c34 => ?_)
    · have hf := zifp hf c34
      cases hf
      refine z_mask (ls' := [_, _, _, _, _]) [true, true, true, true, false] rfl ?_
      exact k2 _ _ rfl
    · have hf := zifn hf c34
      refine z_aload_n dX5_memberAt_37 rfl ?_
      refine z_iload dX5_memberAt_38 rfl ?_
      obtain ⟨hi1, hf⟩ := zifs hf
      refine z_iald dX5_memberAt_40 (at_arr s p0 hp0) (zga_in hi1) ?_
      obtain ⟨x2, s3, q4, hf⟩ := zbn_of hf
      refine z_cS (as := [_]) hok dX5_memberAt_41 kX5_19 (tX8_isDigit hok (d - 1) N (s.2.1 p0 v4.toNatClampNeg)  q4) rfl rfl (by omega) (Nat.le_of_ble_eq_true rfl) (Nat.zero_le _) (Nat.zero_le _) rfl ?_
      refine z_if_eq 60 dX5_memberAt_44 (by decide) (fun c44 => ?_) (fun c44 => ?_)
      · have hf := zifp hf c44
        refine z_iconst (-1) dX5_memberAt_60 (by decide +kernel) ?_
        cases hf
        exact z_iret rfl dX5_memberAt_61 (Nat.zero_le _) (Nat.zero_le _) (k1 _ _ rfl)
      · have hf := zifn hf c44
        refine z_iload_n dX5_memberAt_47 rfl ?_
        refine z_iconst 1 dX5_memberAt_48 (by decide +kernel) ?_
        refine z_icmp_le 62 dX5_memberAt_49 (by decide) (fun c49 => ?_) (fun c49 => ?_)
        · have hf := zifp hf c49
          refine z_iload_n dX5_memberAt_62 rfl ?_
          refine z_bipush 10 dX5_memberAt_63 (by decide +kernel) ?_
          refine z_imul dX5_memberAt_65 ?_
          refine z_aload_n dX5_memberAt_66 rfl ?_
          refine z_iload dX5_memberAt_67 rfl ?_
          obtain ⟨hi5, hf⟩ := zifs hf
          refine z_iald dX5_memberAt_69 (at_arr s3 p0 hp0) (zga_in hi5) ?_
          refine z_iadd dX5_memberAt_70 ?_
          refine z_bipush 48 dX5_memberAt_71 (by decide +kernel) ?_
          refine z_isub dX5_memberAt_73 ?_
          refine z_istore_n (ls' := [_, _, _, _, _]) dX5_memberAt_74 (by decide) rfl ?_
          refine z_iinc (ls' := [_, _, _, _, _]) (v4 + 1) dX5_memberAt_75 rfl rfl (by decide) rfl ?_
          refine z_goto 29 dX5_memberAt_78 (by decide) ?_
          refine z_mask (ls' := [_, _, _, _, _]) [true, true, true, true, true] rfl ?_
          exact hrec (((v3 * 10) + (s3.2.1 p0 v4.toNatClampNeg)) - 48) (v4 + 1) s3 hf
        · have hf := zifn hf c49
          refine z_aload_n dX5_memberAt_52 rfl ?_
          refine z_iload_n dX5_memberAt_53 rfl ?_
          obtain ⟨hi6, hf⟩ := zifs hf
          refine z_iald dX5_memberAt_54 (at_arr s3 p0 hp0) (zga_in hi6) ?_
          refine z_bipush 48 dX5_memberAt_55 (by decide +kernel) ?_
          refine z_icmp_ne 62 dX5_memberAt_57 (by decide) (fun c57 => ?_) (fun c57 => ?_)
          · have hf := zifn hf c57
            refine z_iload_n dX5_memberAt_62 rfl ?_
            refine z_bipush 10 dX5_memberAt_63 (by decide +kernel) ?_
            refine z_imul dX5_memberAt_65 ?_
            refine z_aload_n dX5_memberAt_66 rfl ?_
            refine z_iload dX5_memberAt_67 rfl ?_
            obtain ⟨hi7, hf⟩ := zifs hf
            refine z_iald dX5_memberAt_69 (at_arr s3 p0 hp0) (zga_in hi7) ?_
            refine z_iadd dX5_memberAt_70 ?_
            refine z_bipush 48 dX5_memberAt_71 (by decide +kernel) ?_
            refine z_isub dX5_memberAt_73 ?_
            refine z_istore_n (ls' := [_, _, _, _, _]) dX5_memberAt_74 (by decide) rfl ?_
            refine z_iinc (ls' := [_, _, _, _, _]) (v4 + 1) dX5_memberAt_75 rfl rfl (by decide) rfl ?_
            refine z_goto 29 dX5_memberAt_78 (by decide) ?_
            refine z_mask (ls' := [_, _, _, _, _]) [true, true, true, true, true] rfl ?_
            exact hrec (((v3 * 10) + (s3.2.1 p0 v4.toNatClampNeg)) - 48) (v4 + 1) s3 hf
          · have hf := zifp hf c57
            refine z_iconst (-1) dX5_memberAt_60 (by decide +kernel) ?_
            cases hf
            exact z_iret rfl dX5_memberAt_61 (Nat.zero_le _) (Nat.zero_le _) (k1 _ _ rfl)
noncomputable def fX5_memberAt (N : Nat) (p0 : Nat) (p1 : Int32) (p2 : Int32) (s : zS) : Option (Int32 × zS) := if p2 < 1 then some ((-1), s) else if 2 < p2 then some ((-1), s) else if p1 < 0 then some ((-1), s) else if (p1 + p2) ≤ (nI (zlen p0)) then zbl (fX5_memberAt_L29 N p0 p1 p2 N 0 p1 s) (fun x => some x) (fun lq8 => match lq8 with | (y11, s12) => some (y11, s12)) else some ((-1), s)
set_option maxHeartbeats 400000 in
set_option maxRecDepth 100000 in
theorem tX5_memberAt {g : zGl} (hok : zGok g) (d : Nat) (hd : 1 ≤ d) (N : Nat) (p0 : Nat) (p1 : Int32) (p2 : Int32) (hp0 : zAr p0) {s s' : zS} {w : Int32} (hf : fX5_memberAt N p0 p1 p2 s = some (w, s')) : zMet g mX5_memberAt d 0 0 [.ref p0, .int p1, .int p2] (zHp s) (zret (some (.int w)) (zHp s')) := by
  refine zMet.ofW (by decide +kernel) (Nat.le_of_ble_eq_true rfl) ?_
  show zW g mX5_memberAt d 0 0 51 _ 0 0 (zHp s) [some (.ref p0), some (.int p1), some (.int p2), none, none] [] 0
  unfold fX5_memberAt at hf
  refine z_iload_n dX5_memberAt_0 rfl ?_
  refine z_iconst 1 dX5_memberAt_1 (by decide +kernel) ?_
  refine z_icmp_lt 22 dX5_memberAt_2 (by decide) (fun c2 => ?_) (fun c2 => ?_)
  · have hf := zifp hf c2
    refine z_iconst (-1) dX5_memberAt_22 (by decide +kernel) ?_
    cases hf
    exact z_iret rfl dX5_memberAt_23 (Nat.zero_le _) (Nat.zero_le _) ⟨rfl, rfl⟩
  · have hf := zifn hf c2
    refine z_iload_n dX5_memberAt_5 rfl ?_
    refine z_iconst 2 dX5_memberAt_6 (by decide +kernel) ?_
    refine z_icmp_gt 22 dX5_memberAt_7 (by decide) (fun c7 => ?_) (fun c7 => ?_)
    · have hf := zifp hf c7
      refine z_iconst (-1) dX5_memberAt_22 (by decide +kernel) ?_
      cases hf
      exact z_iret rfl dX5_memberAt_23 (Nat.zero_le _) (Nat.zero_le _) ⟨rfl, rfl⟩
    · have hf := zifn hf c7
      refine z_iload_n dX5_memberAt_10 rfl ?_
      refine z_if_lt 22 dX5_memberAt_11 (by decide) (fun c11 => ?_) (fun c11 => ?_)
      · have hf := zifp hf c11
        refine z_iconst (-1) dX5_memberAt_22 (by decide +kernel) ?_
        cases hf
        exact z_iret rfl dX5_memberAt_23 (Nat.zero_le _) (Nat.zero_le _) ⟨rfl, rfl⟩
      · have hf := zifn hf c11
        refine z_iload_n dX5_memberAt_14 rfl ?_
        refine z_iload_n dX5_memberAt_15 rfl ?_
        refine z_iadd dX5_memberAt_16 ?_
        refine z_aload_n dX5_memberAt_17 rfl ?_
        refine z_alen dX5_memberAt_18 (at_arr s p0 hp0) ?_
        refine z_icmp_le 24 dX5_memberAt_19 (by decide) (fun c19 => ?_) (fun c19 => ?_)
        · have hf := zifp hf c19
          refine z_iconst 0 dX5_memberAt_24 (by decide +kernel) ?_
          refine z_istore_n (ls' := [_, _, _, _, _]) dX5_memberAt_25 (by decide) rfl ?_
          refine z_iload_n dX5_memberAt_26 rfl ?_
          refine z_istore (ls' := [_, _, _, _, _]) dX5_memberAt_27 (by decide) rfl ?_
          refine z_mask (ls' := [_, _, _, _, _]) [true, true, true, true, true] rfl ?_
          rcases zbl_of hf with ⟨lr9, le10, hf⟩ | ⟨lr9, le10, hf⟩
          · cases hf
            exact tX5_memberAt_L29 hok d (by omega) N p0 p1 p2 hp0 N 0 p1 s _ le10 (fun w1 s1 hh => by cases hh; exact ⟨rfl, rfl⟩) (fun _ _ hh => by cases hh)
          · obtain ⟨y11, s12⟩ := lr9
            refine tX5_memberAt_L29 hok d (by omega) N p0 p1 p2 hp0 N 0 p1 s _ le10 (fun w1 s1 hh => by cases hh) (fun _ _ hh => ?_)
            cases hh
            refine z_iload_n dX5_memberAt_81 rfl ?_
            cases hf
            exact z_iret rfl dX5_memberAt_82 (Nat.zero_le _) (Nat.zero_le _) ⟨rfl, rfl⟩
        · have hf := zifn hf c19
          refine z_iconst (-1) dX5_memberAt_22 (by decide +kernel) ?_
          cases hf
          exact z_iret rfl dX5_memberAt_23 (Nat.zero_le _) (Nat.zero_le _) ⟨rfl, rfl⟩

noncomputable def fX5_ofFamily (N : Nat) (p0 : Int32) (p1 : Int32) (s : zS) : Option (Int32 × zS) := if p1 = (-1) then some ((-1), s) else if p0 = 97 then if 7 < p1 then some ((-1), s) else some (p1 + 10, s) else if p0 = 115 then if 1 < p1 then if 11 < p1 then some ((-1), s) else some (p1 + 16, s) else some (p1 + 8, s) else if p0 = 116 then if 2 < p1 then if 6 < p1 then some ((-1), s) else some (p1 + 25, s) else some (p1 + 5, s) else if p0 = 120 then if 31 < p1 then some ((-1), s) else some (p1, s) else some ((-1), s)
set_option maxHeartbeats 400000 in
set_option maxRecDepth 100000 in
theorem tX5_ofFamily {g : zGl} (hok : zGok g) (d : Nat)  (N : Nat) (p0 : Int32) (p1 : Int32)  {s s' : zS} {w : Int32} (hf : fX5_ofFamily N p0 p1 s = some (w, s')) : zMet g mX5_ofFamily d 0 0 [.int p0, .int p1] (zHp s) (zret (some (.int w)) (zHp s')) := by
  refine zMet.ofW (by decide +kernel) (Nat.le_of_ble_eq_true rfl) ?_
  show zW g mX5_ofFamily d 0 0 51 _ 0 0 (zHp s) [some (.int p0), some (.int p1)] [] 0
  unfold fX5_ofFamily at hf
  refine z_iload_n dX5_ofFamily_0 rfl ?_
  refine z_iconst (-1) dX5_ofFamily_1 (by decide +kernel) ?_
  refine z_icmp_ne 7 dX5_ofFamily_2 (by decide) (fun c2 => ?_) (fun c2 => ?_)
  · have hf := zifn hf c2
    refine z_iload_n dX5_ofFamily_7 rfl ?_
    refine z_look [(97, 117), (115, 90), (116, 64), (120, 52)] 132 dX5_ofFamily_8 (by decide +kernel) (by decide +kernel) (by decide +kernel) ?_
    refine z_selc (fun c8_0 => ?_) (fun c8_0 => ?_)
    · have hf := zifp hf c8_0
      refine z_iload_n dX5_ofFamily_117 rfl ?_
      refine z_bipush 7 dX5_ofFamily_118 (by decide +kernel) ?_
      refine z_icmp_gt 130 dX5_ofFamily_120 (by decide) (fun c120 => ?_) (fun c120 => ?_)
      · have hf := zifp hf c120
        refine z_iconst (-1) dX5_ofFamily_130 (by decide +kernel) ?_
        cases hf
        exact z_iret rfl dX5_ofFamily_131 (Nat.zero_le _) (Nat.zero_le _) ⟨rfl, rfl⟩
      · have hf := zifn hf c120
        refine z_iload_n dX5_ofFamily_123 rfl ?_
        refine z_bipush 10 dX5_ofFamily_124 (by decide +kernel) ?_
        refine z_iadd dX5_ofFamily_126 ?_
        refine z_goto 131 dX5_ofFamily_127 (by decide) ?_
        cases hf
        exact z_iret rfl dX5_ofFamily_131 (Nat.zero_le _) (Nat.zero_le _) ⟨rfl, rfl⟩
    · have hf := zifn hf c8_0
      refine z_selc (fun c8_1 => ?_) (fun c8_1 => ?_)
      · have hf := zifp hf c8_1
        refine z_iload_n dX5_ofFamily_90 rfl ?_
        refine z_iconst 1 dX5_ofFamily_91 (by decide +kernel) ?_
        refine z_icmp_gt 102 dX5_ofFamily_92 (by decide) (fun c92 => ?_) (fun c92 => ?_)
        · have hf := zifp hf c92
          refine z_iload_n dX5_ofFamily_102 rfl ?_
          refine z_bipush 11 dX5_ofFamily_103 (by decide +kernel) ?_
          refine z_icmp_gt 115 dX5_ofFamily_105 (by decide) (fun c105 => ?_) (fun c105 => ?_)
          · have hf := zifp hf c105
            refine z_iconst (-1) dX5_ofFamily_115 (by decide +kernel) ?_
            cases hf
            exact z_iret rfl dX5_ofFamily_116 (Nat.zero_le _) (Nat.zero_le _) ⟨rfl, rfl⟩
          · have hf := zifn hf c105
            refine z_iload_n dX5_ofFamily_108 rfl ?_
            refine z_bipush 16 dX5_ofFamily_109 (by decide +kernel) ?_
            refine z_iadd dX5_ofFamily_111 ?_
            refine z_goto 116 dX5_ofFamily_112 (by decide) ?_
            cases hf
            exact z_iret rfl dX5_ofFamily_116 (Nat.zero_le _) (Nat.zero_le _) ⟨rfl, rfl⟩
        · have hf := zifn hf c92
          refine z_iload_n dX5_ofFamily_95 rfl ?_
          refine z_bipush 8 dX5_ofFamily_96 (by decide +kernel) ?_
          refine z_iadd dX5_ofFamily_98 ?_
          refine z_goto 116 dX5_ofFamily_99 (by decide) ?_
          cases hf
          exact z_iret rfl dX5_ofFamily_116 (Nat.zero_le _) (Nat.zero_le _) ⟨rfl, rfl⟩
      · have hf := zifn hf c8_1
        refine z_selc (fun c8_2 => ?_) (fun c8_2 => ?_)
        · have hf := zifp hf c8_2
          refine z_iload_n dX5_ofFamily_64 rfl ?_
          refine z_iconst 2 dX5_ofFamily_65 (by decide +kernel) ?_
          refine z_icmp_gt 75 dX5_ofFamily_66 (by decide) (fun c66 => ?_) (fun c66 => ?_)
          · have hf := zifp hf c66
            refine z_iload_n dX5_ofFamily_75 rfl ?_
            refine z_bipush 6 dX5_ofFamily_76 (by decide +kernel) ?_
            refine z_icmp_gt 88 dX5_ofFamily_78 (by decide) (fun c78 => ?_) (fun c78 => ?_)
            · have hf := zifp hf c78
              refine z_iconst (-1) dX5_ofFamily_88 (by decide +kernel) ?_
              cases hf
              exact z_iret rfl dX5_ofFamily_89 (Nat.zero_le _) (Nat.zero_le _) ⟨rfl, rfl⟩
            · have hf := zifn hf c78
              refine z_iload_n dX5_ofFamily_81 rfl ?_
              refine z_bipush 25 dX5_ofFamily_82 (by decide +kernel) ?_
              refine z_iadd dX5_ofFamily_84 ?_
              refine z_goto 89 dX5_ofFamily_85 (by decide) ?_
              cases hf
              exact z_iret rfl dX5_ofFamily_89 (Nat.zero_le _) (Nat.zero_le _) ⟨rfl, rfl⟩
          · have hf := zifn hf c66
            refine z_iload_n dX5_ofFamily_69 rfl ?_
            refine z_iconst 5 dX5_ofFamily_70 (by decide +kernel) ?_
            refine z_iadd dX5_ofFamily_71 ?_
            refine z_goto 89 dX5_ofFamily_72 (by decide) ?_
            cases hf
            exact z_iret rfl dX5_ofFamily_89 (Nat.zero_le _) (Nat.zero_le _) ⟨rfl, rfl⟩
        · have hf := zifn hf c8_2
          refine z_selc (fun c8_3 => ?_) (fun c8_3 => ?_)
          · have hf := zifp hf c8_3
            refine z_iload_n dX5_ofFamily_52 rfl ?_
            refine z_bipush 31 dX5_ofFamily_53 (by decide +kernel) ?_
            refine z_icmp_gt 62 dX5_ofFamily_55 (by decide) (fun c55 => ?_) (fun c55 => ?_)
            · have hf := zifp hf c55
              refine z_iconst (-1) dX5_ofFamily_62 (by decide +kernel) ?_
              cases hf
              exact z_iret rfl dX5_ofFamily_63 (Nat.zero_le _) (Nat.zero_le _) ⟨rfl, rfl⟩
            · have hf := zifn hf c55
              refine z_iload_n dX5_ofFamily_58 rfl ?_
              refine z_goto 63 dX5_ofFamily_59 (by decide) ?_
              cases hf
              exact z_iret rfl dX5_ofFamily_63 (Nat.zero_le _) (Nat.zero_le _) ⟨rfl, rfl⟩
          · have hf := zifn hf c8_3
            refine z_seln ?_
            refine z_iconst (-1) dX5_ofFamily_132 (by decide +kernel) ?_
            cases hf
            exact z_iret rfl dX5_ofFamily_133 (Nat.zero_le _) (Nat.zero_le _) ⟨rfl, rfl⟩
  · have hf := zifp hf c2
    refine z_iconst (-1) dX5_ofFamily_5 (by decide +kernel) ?_
    cases hf
    exact z_iret rfl dX5_ofFamily_6 (Nat.zero_le _) (Nat.zero_le _) ⟨rfl, rfl⟩

noncomputable def fX5_numberOf_L29S (N : Nat) (p0 : Nat) (p1 : Int32) (p2 : Int32) (rec : Int32 → Int32 → zS → Option ((Int32 × zS) ⊕ (Int32 × zS))) (v3 : Int32) (v4 : Int32) (s : zS) : Option ((Int32 × zS) ⊕ (Int32 × zS)) := if (p1 + p2) ≤ v4 then some (.inr (v3, s)) else if zga v4 (zlen p0) = true then rec ((v3 <<< ((8 : Int32) &&& 31)) ||| (s.2.1 p0 v4.toNatClampNeg)) (v4 + 1) s else none
noncomputable def fX5_numberOf_L29 (N : Nat) (p0 : Nat) (p1 : Int32) (p2 : Int32) (n : Nat) : Int32 → Int32 → zS → Option ((Int32 × zS) ⊕ (Int32 × zS)) := Nat.rec (motive := fun _ => Int32 → Int32 → zS → Option ((Int32 × zS) ⊕ (Int32 × zS))) (fun _ _ _ => none) (fun _ rec => fX5_numberOf_L29S N p0 p1 p2 rec) n
set_option maxHeartbeats 400000 in
set_option maxRecDepth 100000 in
theorem tX5_numberOf_L29 {g : zGl} (hok : zGok g) (d : Nat)  (N : Nat) (p0 : Nat) (p1 : Int32) (p2 : Int32) (hp0 : zAr p0) {mc ms n0 : Nat} {Q : zO → List zE → Prop} (n : Nat) : ∀ (v3 : Int32) (v4 : Int32) (s : zS) (r : (Int32 × zS) ⊕ (Int32 × zS)) (hf : fX5_numberOf_L29 N p0 p1 p2 n v3 v4 s = some r) (k1 : ∀ w s', r = .inl (w, s') → Q (.inl (some (.int w))) (zHp s')) (k2 : ∀ (y3 : Int32) (s' : zS), r = .inr (y3, s') → zW g mX5_numberOf d mc ms n0 Q 0 0 (zHp s') [some (.ref p0), some (.int p1), some (.int p2), some (.int y3), none] [] 53), zW g mX5_numberOf d mc ms n0 Q 0 0 (zHp s) [some (.ref p0), some (.int p1), some (.int p2), some (.int v3), some (.int v4)] [] 29 := by
  induction n with
  | zero => intro v3 v4 s r hf; cases hf
  | succ n ih =>
    intro v3 v4 s r hf k1 k2
    have hrec : ∀ (v3 : Int32) (v4 : Int32) (s : zS) (r1 : (Int32 × zS) ⊕ (Int32 × zS)), fX5_numberOf_L29 N p0 p1 p2 n v3 v4 s = some r1 → r1 = r → zW g mX5_numberOf d mc ms n0 Q 0 0 (zHp s) [some (.ref p0), some (.int p1), some (.int p2), some (.int v3), some (.int v4)] [] 29 := fun v3 v4 s r1 h e => ih v3 v4 s r1 h (by subst e; exact k1) (by subst e; exact k2)
    have hrec : ∀ (v3 : Int32) (v4 : Int32) (s : zS), fX5_numberOf_L29 N p0 p1 p2 n v3 v4 s = some r → zW g mX5_numberOf d mc ms n0 Q 0 0 (zHp s) [some (.ref p0), some (.int p1), some (.int p2), some (.int v3), some (.int v4)] [] 29 := fun v3 v4 s h => hrec v3 v4 s r h rfl
    have hf : fX5_numberOf_L29S N p0 p1 p2 (fX5_numberOf_L29 N p0 p1 p2 n) v3 v4 s = some r := hf
    unfold fX5_numberOf_L29S at hf
    refine z_iload dX5_numberOf_29 rfl ?_
    refine z_iload_n dX5_numberOf_31 rfl ?_
    refine z_iload_n dX5_numberOf_32 rfl ?_
    refine z_iadd dX5_numberOf_33 ?_
    refine z_icmp_ge 53 dX5_numberOf_34 (by decide) (fun c34 => ?_) (fun c34 => ?_)
    · have hf := zifp hf c34
      cases hf
      refine z_mask (ls' := [_, _, _, _, _]) [true, true, true, true, false] rfl ?_
      exact k2 _ _ rfl
    · have hf := zifn hf c34
      refine z_iload_n dX5_numberOf_37 rfl ?_
      refine z_bipush 8 dX5_numberOf_38 (by decide +kernel) ?_
      refine z_ishl dX5_numberOf_40 ?_
      refine z_aload_n dX5_numberOf_41 rfl ?_
      refine z_iload dX5_numberOf_42 rfl ?_
      obtain ⟨hi1, hf⟩ := zifs hf
      refine z_iald dX5_numberOf_44 (at_arr s p0 hp0) (zga_in hi1) ?_
      refine z_ior dX5_numberOf_45 ?_
      refine z_istore_n (ls' := [_, _, _, _, _]) dX5_numberOf_46 (by decide) rfl ?_
      refine z_iinc (ls' := [_, _, _, _, _]) (v4 + 1) dX5_numberOf_47 rfl rfl (by decide) rfl ?_
      refine z_goto 29 dX5_numberOf_50 (by decide) ?_
      refine z_mask (ls' := [_, _, _, _, _]) [true, true, true, true, true] rfl ?_
      exact hrec ((v3 <<< ((8 : Int32) &&& 31)) ||| (s.2.1 p0 v4.toNatClampNeg)) (v4 + 1) s hf
noncomputable def fX5_numberOf (N : Nat) (p0 : Nat) (p1 : Int32) (p2 : Int32) (s : zS) : Option (Int32 × zS) := if p2 < 2 then some ((-1), s) else if 4 < p2 then some ((-1), s) else if p1 < 0 then some ((-1), s) else if (p1 + p2) ≤ (nI (zlen p0)) then zbl (fX5_numberOf_L29 N p0 p1 p2 N 0 p1 s) (fun x => some x) (fun lq2 => match lq2 with | (y5, s6) => if y5 = 26224 then some (8, s6) else if y5 = 26480 then some (3, s6) else if y5 = 29281 then some (1, s6) else if y5 = 29552 then some (2, s6) else if y5 = 29808 then some (4, s6) else if y5 = 2053468783 then some (0, s6) else if zga p1 (zlen p0) = true then zbn (fX5_memberAt N p0 (p1 + 1) (p2 - 1) s6) (fun x8 s9 => zbn (fX5_ofFamily N (s6.2.1 p0 p1.toNatClampNeg) x8 s9) (fun x11 s12 => some (x11, s12))) else none) else some ((-1), s)
set_option maxHeartbeats 400000 in
set_option maxRecDepth 100000 in
theorem tX5_numberOf {g : zGl} (hok : zGok g) (d : Nat) (hd : 2 ≤ d) (N : Nat) (p0 : Nat) (p1 : Int32) (p2 : Int32) (hp0 : zAr p0) {s s' : zS} {w : Int32} (hf : fX5_numberOf N p0 p1 p2 s = some (w, s')) : zMet g mX5_numberOf d 0 0 [.ref p0, .int p1, .int p2] (zHp s) (zret (some (.int w)) (zHp s')) := by
  refine zMet.ofW (by decide +kernel) (Nat.le_of_ble_eq_true rfl) ?_
  show zW g mX5_numberOf d 0 0 51 _ 0 0 (zHp s) [some (.ref p0), some (.int p1), some (.int p2), none, none] [] 0
  unfold fX5_numberOf at hf
  refine z_iload_n dX5_numberOf_0 rfl ?_
  refine z_iconst 2 dX5_numberOf_1 (by decide +kernel) ?_
  refine z_icmp_lt 22 dX5_numberOf_2 (by decide) (fun c2 => ?_) (fun c2 => ?_)
  · have hf := zifp hf c2
    refine z_iconst (-1) dX5_numberOf_22 (by decide +kernel) ?_
    cases hf
    exact z_iret rfl dX5_numberOf_23 (Nat.zero_le _) (Nat.zero_le _) ⟨rfl, rfl⟩
  · have hf := zifn hf c2
    refine z_iload_n dX5_numberOf_5 rfl ?_
    refine z_iconst 4 dX5_numberOf_6 (by decide +kernel) ?_
    refine z_icmp_gt 22 dX5_numberOf_7 (by decide) (fun c7 => ?_) (fun c7 => ?_)
    · have hf := zifp hf c7
      refine z_iconst (-1) dX5_numberOf_22 (by decide +kernel) ?_
      cases hf
      exact z_iret rfl dX5_numberOf_23 (Nat.zero_le _) (Nat.zero_le _) ⟨rfl, rfl⟩
    · have hf := zifn hf c7
      refine z_iload_n dX5_numberOf_10 rfl ?_
      refine z_if_lt 22 dX5_numberOf_11 (by decide) (fun c11 => ?_) (fun c11 => ?_)
      · have hf := zifp hf c11
        refine z_iconst (-1) dX5_numberOf_22 (by decide +kernel) ?_
        cases hf
        exact z_iret rfl dX5_numberOf_23 (Nat.zero_le _) (Nat.zero_le _) ⟨rfl, rfl⟩
      · have hf := zifn hf c11
        refine z_iload_n dX5_numberOf_14 rfl ?_
        refine z_iload_n dX5_numberOf_15 rfl ?_
        refine z_iadd dX5_numberOf_16 ?_
        refine z_aload_n dX5_numberOf_17 rfl ?_
        refine z_alen dX5_numberOf_18 (at_arr s p0 hp0) ?_
        refine z_icmp_le 24 dX5_numberOf_19 (by decide) (fun c19 => ?_) (fun c19 => ?_)
        · have hf := zifp hf c19
          refine z_iconst 0 dX5_numberOf_24 (by decide +kernel) ?_
          refine z_istore_n (ls' := [_, _, _, _, _]) dX5_numberOf_25 (by decide) rfl ?_
          refine z_iload_n dX5_numberOf_26 rfl ?_
          refine z_istore (ls' := [_, _, _, _, _]) dX5_numberOf_27 (by decide) rfl ?_
          refine z_mask (ls' := [_, _, _, _, _]) [true, true, true, true, true] rfl ?_
          rcases zbl_of hf with ⟨lr3, le4, hf⟩ | ⟨lr3, le4, hf⟩
          · cases hf
            exact tX5_numberOf_L29 hok d N p0 p1 p2 hp0 N 0 p1 s _ le4 (fun w1 s1 hh => by cases hh; exact ⟨rfl, rfl⟩) (fun _ _ hh => by cases hh)
          · obtain ⟨y5, s6⟩ := lr3
            refine tX5_numberOf_L29 hok d N p0 p1 p2 hp0 N 0 p1 s _ le4 (fun w1 s1 hh => by cases hh) (fun _ _ hh => ?_)
            cases hh
            refine z_iload_n dX5_numberOf_53 rfl ?_
            refine z_look [(26224, 122), (26480, 118), (29281, 114), (29552, 116), (29808, 120), (2053468783, 112)] 125 dX5_numberOf_54 (by decide +kernel) (by decide +kernel) (by decide +kernel) ?_
            refine z_selc (fun c54_0 => ?_) (fun c54_0 => ?_)
            · have hf := zifp hf c54_0
              refine z_bipush 8 dX5_numberOf_122 (by decide +kernel) ?_
              cases hf
              exact z_iret rfl dX5_numberOf_124 (Nat.zero_le _) (Nat.zero_le _) ⟨rfl, rfl⟩
            · have hf := zifn hf c54_0
              refine z_selc (fun c54_1 => ?_) (fun c54_1 => ?_)
              · have hf := zifp hf c54_1
                refine z_iconst 3 dX5_numberOf_118 (by decide +kernel) ?_
                cases hf
                exact z_iret rfl dX5_numberOf_119 (Nat.zero_le _) (Nat.zero_le _) ⟨rfl, rfl⟩
              · have hf := zifn hf c54_1
                refine z_selc (fun c54_2 => ?_) (fun c54_2 => ?_)
                · have hf := zifp hf c54_2
                  refine z_iconst 1 dX5_numberOf_114 (by decide +kernel) ?_
                  cases hf
                  exact z_iret rfl dX5_numberOf_115 (Nat.zero_le _) (Nat.zero_le _) ⟨rfl, rfl⟩
                · have hf := zifn hf c54_2
                  refine z_selc (fun c54_3 => ?_) (fun c54_3 => ?_)
                  · have hf := zifp hf c54_3
                    refine z_iconst 2 dX5_numberOf_116 (by decide +kernel) ?_
                    cases hf
                    exact z_iret rfl dX5_numberOf_117 (Nat.zero_le _) (Nat.zero_le _) ⟨rfl, rfl⟩
                  · have hf := zifn hf c54_3
                    refine z_selc (fun c54_4 => ?_) (fun c54_4 => ?_)
                    · have hf := zifp hf c54_4
                      refine z_iconst 4 dX5_numberOf_120 (by decide +kernel) ?_
                      cases hf
                      exact z_iret rfl dX5_numberOf_121 (Nat.zero_le _) (Nat.zero_le _) ⟨rfl, rfl⟩
                    · have hf := zifn hf c54_4
                      refine z_selc (fun c54_5 => ?_) (fun c54_5 => ?_)
                      · have hf := zifp hf c54_5
                        refine z_iconst 0 dX5_numberOf_112 (by decide +kernel) ?_
                        cases hf
                        exact z_iret rfl dX5_numberOf_113 (Nat.zero_le _) (Nat.zero_le _) ⟨rfl, rfl⟩
                      · have hf := zifn hf c54_5
                        refine z_seln ?_
                        refine z_aload_n dX5_numberOf_125 rfl ?_
                        refine z_iload_n dX5_numberOf_126 rfl ?_
                        obtain ⟨hi7, hf⟩ := zifs hf
                        refine z_iald dX5_numberOf_127 (at_arr s6 p0 hp0) (zga_in hi7) ?_
                        refine z_aload_n dX5_numberOf_128 rfl ?_
                        refine z_iload_n dX5_numberOf_129 rfl ?_
                        refine z_iconst 1 dX5_numberOf_130 (by decide +kernel) ?_
                        refine z_iadd dX5_numberOf_131 ?_
                        refine z_iload_n dX5_numberOf_132 rfl ?_
                        refine z_iconst 1 dX5_numberOf_133 (by decide +kernel) ?_
                        refine z_isub dX5_numberOf_134 ?_
                        obtain ⟨x8, s9, q10, hf⟩ := zbn_of hf
                        refine z_cS (as := [_, _, _]) hok dX5_numberOf_135 kX5_9 (tX5_memberAt hok (d - 1) (by omega) N p0 (p1 + 1) (p2 - 1) hp0 q10) rfl rfl (by omega) (Nat.le_of_ble_eq_true rfl) (Nat.zero_le _) (Nat.zero_le _) rfl ?_
                        obtain ⟨x11, s12, q13, hf⟩ := zbn_of hf
                        refine z_cS (as := [_, _]) hok dX5_numberOf_138 kX5_15 (tX5_ofFamily hok (d - 1) N (s6.2.1 p0 p1.toNatClampNeg) x8  q13) rfl rfl (by omega) (Nat.le_of_ble_eq_true rfl) (Nat.zero_le _) (Nat.zero_le _) rfl ?_
                        cases hf
                        exact z_iret rfl dX5_numberOf_141 (Nat.zero_le _) (Nat.zero_le _) ⟨rfl, rfl⟩
        · have hf := zifn hf c19
          refine z_iconst (-1) dX5_numberOf_22 (by decide +kernel) ?_
          cases hf
          exact z_iret rfl dX5_numberOf_23 (Nat.zero_le _) (Nat.zero_le _) ⟨rfl, rfl⟩

noncomputable def fX8_scanName_L5S (N : Nat)  (rec : Int32 → zS → Option ((Int32 × zS) ⊕ (Int32 × zS))) (v1 : Int32) (s : zS) : Option ((Int32 × zS) ⊕ (Int32 × zS)) := if (s.1 403) ≤ (s.1 404) then some (.inr (v1, s)) else zbn (fX8_byteAt N (s.1 404) s) (fun x1 s2 => zbn (fX8_isNameByte N x1 s2) (fun x4 s5 => if x4 = 0 then some (.inr (v1, s5)) else rec v1 (zsc s5 404 ((s5.1 404) + 1))))
noncomputable def fX8_scanName_L5 (N : Nat)  (n : Nat) : Int32 → zS → Option ((Int32 × zS) ⊕ (Int32 × zS)) := Nat.rec (motive := fun _ => Int32 → zS → Option ((Int32 × zS) ⊕ (Int32 × zS))) (fun _ _ => none) (fun _ rec => fX8_scanName_L5S N  rec) n
set_option maxHeartbeats 400000 in
set_option maxRecDepth 100000 in
theorem tX8_scanName_L5 {g : zGl} (hok : zGok g) (d : Nat) (hd : 2 ≤ d) (N : Nat)   {mc ms n0 : Nat} {Q : zO → List zE → Prop} (n : Nat) : ∀ (v1 : Int32) (s : zS) (r : (Int32 × zS) ⊕ (Int32 × zS)) (hf : fX8_scanName_L5 N  n v1 s = some r) (k1 : ∀ w s', r = .inl (w, s') → Q (.inl (some (.int w))) (zHp s')) (k2 : ∀ (y1 : Int32) (s' : zS), r = .inr (y1, s') → zW g mX8_scanName d mc ms n0 Q 0 0 (zHp s') [some (.ref 4), some (.int y1)] [] 43), zW g mX8_scanName d mc ms n0 Q 0 0 (zHp s) [some (.ref 4), some (.int v1)] [] 5 := by
  induction n with
  | zero => intro v1 s r hf; cases hf
  | succ n ih =>
    intro v1 s r hf k1 k2
    have hrec : ∀ (v1 : Int32) (s : zS) (r1 : (Int32 × zS) ⊕ (Int32 × zS)), fX8_scanName_L5 N  n v1 s = some r1 → r1 = r → zW g mX8_scanName d mc ms n0 Q 0 0 (zHp s) [some (.ref 4), some (.int v1)] [] 5 := fun v1 s r1 h e => ih v1 s r1 h (by subst e; exact k1) (by subst e; exact k2)
    have hrec : ∀ (v1 : Int32) (s : zS), fX8_scanName_L5 N  n v1 s = some r → zW g mX8_scanName d mc ms n0 Q 0 0 (zHp s) [some (.ref 4), some (.int v1)] [] 5 := fun v1 s h => hrec v1 s r h rfl
    have hf : fX8_scanName_L5S N  (fX8_scanName_L5 N  n) v1 s = some r := hf
    unfold fX8_scanName_L5S at hf
    refine z_aload_n dX8_scanName_5 rfl ?_
    refine z_getf dX8_scanName_6 fX8_31 (at_Words s) rfl ?_
    refine z_aload_n dX8_scanName_9 rfl ?_
    refine z_getf dX8_scanName_10 fX8_28 (at_Words s) rfl ?_
    refine z_icmp_ge 43 dX8_scanName_13 (by decide) (fun c13 => ?_) (fun c13 => ?_)
    · have hf := zifp hf c13
      cases hf
      refine z_mask (ls' := [_, _]) [true, true] rfl ?_
      exact k2 _ _ rfl
    · have hf := zifn hf c13
      refine z_aload_n dX8_scanName_16 rfl ?_
      refine z_aload_n dX8_scanName_17 rfl ?_
      refine z_getf dX8_scanName_18 fX8_31 (at_Words s) rfl ?_
      obtain ⟨x1, s2, q3, hf⟩ := zbn_of hf
      refine z_cV (as := [_]) hok dX8_scanName_21 kX8_54 (tX8_byteAt hok (d - 1) N (s.1 404)  q3) rfl (at_Words s) rfl rfl (by omega) (Nat.le_of_ble_eq_true rfl) (Nat.zero_le _) (Nat.zero_le _) rfl ?_
      obtain ⟨x4, s5, q6, hf⟩ := zbn_of hf
      refine z_cS (as := [_]) hok dX8_scanName_24 kX8_68 (tX8_isNameByte hok (d - 1) (by omega) N x1  q6) rfl rfl (by omega) (Nat.le_of_ble_eq_true rfl) (Nat.zero_le _) (Nat.zero_le _) rfl ?_
      refine z_if_eq 43 dX8_scanName_27 (by decide) (fun c27 => ?_) (fun c27 => ?_)
      · have hf := zifp hf c27
        cases hf
        refine z_mask (ls' := [_, _]) [true, true] rfl ?_
        exact k2 _ _ rfl
      · have hf := zifn hf c27
        refine z_aload_n dX8_scanName_30 rfl ?_
        refine z_dup dX8_scanName_31 rfl ?_
        refine z_getf dX8_scanName_32 fX8_31 (at_Words s5) rfl ?_
        refine z_iconst 1 dX8_scanName_35 (by decide +kernel) ?_
        refine z_iadd dX8_scanName_36 ?_
        refine z_putf dX8_scanName_37 fX8_31 wX8_4 (at_Words s5) (Nat.le_of_ble_eq_true rfl) (fun _ => rfl) (fun _ => rfl) (st_Words_4 s5 ((s5.1 404) + 1)) ?_
        refine z_goto 5 dX8_scanName_40 (by decide) ?_
        refine z_mask (ls' := [_, _]) [true, true] rfl ?_
        exact hrec v1 (zsc s5 404 ((s5.1 404) + 1)) hf
noncomputable def fX8_scanName_J43 (N : Nat)  (v1 : Int32) (s : zS) : Option (Int32 × zS) := if ((s.1 404) - v1) ≤ 16 then if ((s.1 404) - v1) = 1 then zbn (fX8_byteAt N v1 (zsc s 405 ((s.1 404) - v1))) (fun x15 s16 => if x15 = 46 then some (3, (zsc s16 405 0)) else zbn (fX5_numberOf N 5 v1 (s16.1 405) s16) (fun x18 s19 => if x18 = (-1) then some (1, s19) else some (2, s19))) else zbn (fX5_numberOf N 5 v1 ((s.1 404) - v1) (zsc s 405 ((s.1 404) - v1))) (fun x12 s13 => if x12 = (-1) then some (1, s13) else some (2, s13)) else zbn (fX8_bad N 2 (zsc s 405 ((s.1 404) - v1))) (fun x21 s22 => some (x21, s22))
set_option maxHeartbeats 400000 in
set_option maxRecDepth 100000 in
theorem tX8_scanName_J43 {g : zGl} (hok : zGok g) (d : Nat) (hd : 3 ≤ d) (N : Nat)   {mc ms n0 : Nat} (v1 : Int32) {s s' : zS} {w : Int32} (hf : fX8_scanName_J43 N  v1 s = some (w, s')) : zW g mX8_scanName d mc ms n0 (zret (some (.int w)) (zHp s')) 0 0 (zHp s) [some (.ref 4), some (.int v1)] [] 43 := by
  unfold fX8_scanName_J43 at hf
  refine z_aload_n dX8_scanName_43 rfl ?_
  refine z_aload_n dX8_scanName_44 rfl ?_
  refine z_getf dX8_scanName_45 fX8_31 (at_Words s) rfl ?_
  refine z_iload_n dX8_scanName_48 rfl ?_
  refine z_isub dX8_scanName_49 ?_
  refine z_putf dX8_scanName_50 fX8_37 wX8_5 (at_Words s) (Nat.le_of_ble_eq_true rfl) (fun _ => rfl) (fun _ => rfl) (st_Words_5 s ((s.1 404) - v1)) ?_
  refine z_aload_n dX8_scanName_53 rfl ?_
  refine z_getf dX8_scanName_54 fX8_37 (at_Words (zsc s 405 ((s.1 404) - v1))) rfl ?_
  refine z_bipush 16 dX8_scanName_57 (by decide +kernel) ?_
  refine z_icmp_le 68 dX8_scanName_59 (by decide) (fun c59 => ?_) (fun c59 => ?_)
  · have hf := zifp hf c59
    refine z_aload_n dX8_scanName_68 rfl ?_
    refine z_getf dX8_scanName_69 fX8_37 (at_Words (zsc s 405 ((s.1 404) - v1))) rfl ?_
    refine z_iconst 1 dX8_scanName_72 (by decide +kernel) ?_
    refine z_icmp_ne 93 dX8_scanName_73 (by decide) (fun c73 => ?_) (fun c73 => ?_)
    · have hf := zifn hf c73
      refine z_aload_n dX8_scanName_93 rfl ?_
      refine z_getf dX8_scanName_94 fX8_9 (at_Words (zsc s 405 ((s.1 404) - v1))) rfl ?_
      refine z_iload_n dX8_scanName_97 rfl ?_
      refine z_aload_n dX8_scanName_98 rfl ?_
      refine z_getf dX8_scanName_99 fX8_37 (at_Words (zsc s 405 ((s.1 404) - v1))) rfl ?_
      obtain ⟨x12, s13, q14, hf⟩ := zbn_of hf
      refine z_cS (as := [_, _, _]) hok dX8_scanName_102 kX8_86 (tX5_numberOf hok (d - 1) (by omega) N 5 v1 ((s.1 404) - v1) (by decide) q14) rfl rfl (by omega) (Nat.le_of_ble_eq_true rfl) (Nat.zero_le _) (Nat.zero_le _) rfl ?_
      refine z_iconst (-1) dX8_scanName_105 (by decide +kernel) ?_
      refine z_icmp_ne 113 dX8_scanName_106 (by decide) (fun c106 => ?_) (fun c106 => ?_)
      · have hf := zifn hf c106
        refine z_iconst 2 dX8_scanName_113 (by decide +kernel) ?_
        cases hf
        exact z_iret rfl dX8_scanName_114 (Nat.zero_le _) (Nat.zero_le _) ⟨rfl, rfl⟩
      · have hf := zifp hf c106
        refine z_iconst 1 dX8_scanName_109 (by decide +kernel) ?_
        refine z_goto 114 dX8_scanName_110 (by decide) ?_
        cases hf
        exact z_iret rfl dX8_scanName_114 (Nat.zero_le _) (Nat.zero_le _) ⟨rfl, rfl⟩
    · have hf := zifp hf c73
      refine z_aload_n dX8_scanName_76 rfl ?_
      refine z_iload_n dX8_scanName_77 rfl ?_
      obtain ⟨x15, s16, q17, hf⟩ := zbn_of hf
      refine z_cV (as := [_]) hok dX8_scanName_78 kX8_54 (tX8_byteAt hok (d - 1) N v1  q17) rfl (at_Words (zsc s 405 ((s.1 404) - v1))) rfl rfl (by omega) (Nat.le_of_ble_eq_true rfl) (Nat.zero_le _) (Nat.zero_le _) rfl ?_
      refine z_bipush 46 dX8_scanName_81 (by decide +kernel) ?_
      refine z_icmp_ne 93 dX8_scanName_83 (by decide) (fun c83 => ?_) (fun c83 => ?_)
      · have hf := zifn hf c83
        refine z_aload_n dX8_scanName_93 rfl ?_
        refine z_getf dX8_scanName_94 fX8_9 (at_Words s16) rfl ?_
        refine z_iload_n dX8_scanName_97 rfl ?_
        refine z_aload_n dX8_scanName_98 rfl ?_
        refine z_getf dX8_scanName_99 fX8_37 (at_Words s16) rfl ?_
        obtain ⟨x18, s19, q20, hf⟩ := zbn_of hf
        refine z_cS (as := [_, _, _]) hok dX8_scanName_102 kX8_86 (tX5_numberOf hok (d - 1) (by omega) N 5 v1 (s16.1 405) (by decide) q20) rfl rfl (by omega) (Nat.le_of_ble_eq_true rfl) (Nat.zero_le _) (Nat.zero_le _) rfl ?_
        refine z_iconst (-1) dX8_scanName_105 (by decide +kernel) ?_
        refine z_icmp_ne 113 dX8_scanName_106 (by decide) (fun c106 => ?_) (fun c106 => ?_)
        · have hf := zifn hf c106
          refine z_iconst 2 dX8_scanName_113 (by decide +kernel) ?_
          cases hf
          exact z_iret rfl dX8_scanName_114 (Nat.zero_le _) (Nat.zero_le _) ⟨rfl, rfl⟩
        · have hf := zifp hf c106
          refine z_iconst 1 dX8_scanName_109 (by decide +kernel) ?_
          refine z_goto 114 dX8_scanName_110 (by decide) ?_
          cases hf
          exact z_iret rfl dX8_scanName_114 (Nat.zero_le _) (Nat.zero_le _) ⟨rfl, rfl⟩
      · have hf := zifp hf c83
        refine z_aload_n dX8_scanName_86 rfl ?_
        refine z_iconst 0 dX8_scanName_87 (by decide +kernel) ?_
        refine z_putf dX8_scanName_88 fX8_37 wX8_5 (at_Words s16) (Nat.le_of_ble_eq_true rfl) (fun _ => rfl) (fun _ => rfl) (st_Words_5 s16 0) ?_
        refine z_iconst 3 dX8_scanName_91 (by decide +kernel) ?_
        cases hf
        exact z_iret rfl dX8_scanName_92 (Nat.zero_le _) (Nat.zero_le _) ⟨rfl, rfl⟩
  · have hf := zifn hf c59
    refine z_aload_n dX8_scanName_62 rfl ?_
    refine z_iconst 2 dX8_scanName_63 (by decide +kernel) ?_
    obtain ⟨x21, s22, q23, hf⟩ := zbn_of hf
    refine z_cV (as := [_]) hok dX8_scanName_64 kX8_83 (tX8_bad hok (d - 1) N 2  q23) rfl (at_Words (zsc s 405 ((s.1 404) - v1))) rfl rfl (by omega) (Nat.le_of_ble_eq_true rfl) (Nat.zero_le _) (Nat.zero_le _) rfl ?_
    cases hf
    exact z_iret rfl dX8_scanName_67 (Nat.zero_le _) (Nat.zero_le _) ⟨rfl, rfl⟩
noncomputable def fX8_scanName (N : Nat)  (s : zS) : Option (Int32 × zS) := zbl (fX8_scanName_L5 N  N (s.1 404) s) (fun x => some x) (fun lq7 => match lq7 with | (y10, s11) => fX8_scanName_J43 N  y10 s11)
set_option maxHeartbeats 400000 in
set_option maxRecDepth 100000 in
theorem tX8_scanName {g : zGl} (hok : zGok g) (d : Nat) (hd : 3 ≤ d) (N : Nat)   {s s' : zS} {w : Int32} (hf : fX8_scanName N  s = some (w, s')) : zMet g mX8_scanName d 0 0 [.ref 4] (zHp s) (zret (some (.int w)) (zHp s')) := by
  refine zMet.ofW (by decide +kernel) (Nat.le_of_ble_eq_true rfl) ?_
  show zW g mX8_scanName d 0 0 51 _ 0 0 (zHp s) [some (.ref 4), none] [] 0
  unfold fX8_scanName at hf
  refine z_aload_n dX8_scanName_0 rfl ?_
  refine z_getf dX8_scanName_1 fX8_31 (at_Words s) rfl ?_
  refine z_istore_n (ls' := [_, _]) dX8_scanName_4 (by decide) rfl ?_
  refine z_mask (ls' := [_, _]) [true, true] rfl ?_
  rcases zbl_of hf with ⟨lr8, le9, hf⟩ | ⟨lr8, le9, hf⟩
  · cases hf
    exact tX8_scanName_L5 hok d (by omega) N   N (s.1 404) s _ le9 (fun w1 s1 hh => by cases hh; exact ⟨rfl, rfl⟩) (fun _ _ hh => by cases hh)
  · obtain ⟨y10, s11⟩ := lr8
    refine tX8_scanName_L5 hok d (by omega) N   N (s.1 404) s _ le9 (fun w1 s1 hh => by cases hh) (fun _ _ hh => ?_)
    cases hh
    refine z_mask (ls' := [_, _]) [true, true] rfl ?_
    exact tX8_scanName_J43 hok d (by omega) N   y10 hf

