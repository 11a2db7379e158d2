noncomputable def fX8_codeAt (N : Nat) (p0 : Int32) (p1 : Int32) (s : zS) : Option (Int32 × zS) := zbn (fX8_byteAt N p0 s) (fun x1 s2 => if x1 = 92 then zbn (fX8_byteAt N (p0 + 1) s2) (fun x4 s5 => if x4 = 34 then some (x4, s5) else if x4 = 39 then some (x4, s5) else if x4 = 48 then some (0, s5) else if x4 = 92 then some (x4, s5) else if x4 = 110 then some (10, s5) else if x4 = 116 then some (9, s5) else some ((-1), s5)) else if x1 < 32 then some ((-1), s2) else if 126 < x1 then some ((-1), s2) else if x1 = p1 then some ((-1), s2) else some (x1, s2))
set_option maxHeartbeats 400000 in
set_option maxRecDepth 100000 in
theorem tX8_codeAt {g : zGl} (hok : zGok g) (d : Nat) (hd : 1 ≤ d) (N : Nat) (p0 : Int32) (p1 : Int32)  {s s' : zS} {w : Int32} (hf : fX8_codeAt N p0 p1 s = some (w, s')) : zMet g mX8_codeAt d 0 0 [.ref 4, .int p0, .int p1] (zHp s) (zret (some (.int w)) (zHp s')) := by
  refine zMet.ofW (by decide +kernel) (Nat.le_of_ble_eq_true rfl) ?_
  show zW g mX8_codeAt d 0 0 51 _ 0 0 (zHp s) [some (.ref 4), some (.int p0), some (.int p1), none, none] [] 0
  unfold fX8_codeAt at hf
  refine z_aload_n dX8_codeAt_0 rfl ?_
  refine z_iload_n dX8_codeAt_1 rfl ?_
  obtain ⟨x1, s2, q3, hf⟩ := zbn_of hf
  refine z_cV (as := [_]) hok dX8_codeAt_2 kX8_54 (tX8_byteAt hok (d - 1) N p0  q3) rfl (at_Words s) rfl rfl (by omega) (Nat.le_of_ble_eq_true rfl) (Nat.zero_le _) (Nat.zero_le _) rfl ?_
  refine z_istore_n (ls' := [_, _, _, _, _]) dX8_codeAt_5 (by decide) rfl ?_
  refine z_iload_n dX8_codeAt_6 rfl ?_
  refine z_bipush 92 dX8_codeAt_7 (by decide +kernel) ?_
  refine z_icmp_eq 35 dX8_codeAt_9 (by decide) (fun c9 => ?_) (fun c9 => ?_)
  · have hf := zifp hf c9
    refine z_aload_n dX8_codeAt_35 rfl ?_
    refine z_iload_n dX8_codeAt_36 rfl ?_
    refine z_iconst 1 dX8_codeAt_37 (by decide +kernel) ?_
    refine z_iadd dX8_codeAt_38 ?_
    obtain ⟨x4, s5, q6, hf⟩ := zbn_of hf
    refine z_cV (as := [_]) hok dX8_codeAt_39 kX8_54 (tX8_byteAt hok (d - 1) N (p0 + 1)  q6) rfl (at_Words s2) rfl rfl (by omega) (Nat.le_of_ble_eq_true rfl) (Nat.zero_le _) (Nat.zero_le _) rfl ?_
    refine z_istore (ls' := [_, _, _, _, _]) dX8_codeAt_42 (by decide) rfl ?_
    refine z_iload dX8_codeAt_44 rfl ?_
    refine z_look [(34, 112), (39, 112), (48, 110), (92, 112), (110, 104), (116, 107)] 115 dX8_codeAt_46 (by decide +kernel) (by decide +kernel) (by decide +kernel) ?_
    refine z_selc (fun c46_0 => ?_) (fun c46_0 => ?_)
    · have hf := zifp hf c46_0
      refine z_iload dX8_codeAt_112 rfl ?_
      cases hf
      exact z_iret rfl dX8_codeAt_114 (Nat.zero_le _) (Nat.zero_le _) ⟨rfl, rfl⟩
    · have hf := zifn hf c46_0
      refine z_selc (fun c46_1 => ?_) (fun c46_1 => ?_)
      · have hf := zifp hf c46_1
        refine z_iload dX8_codeAt_112 rfl ?_
        cases hf
        exact z_iret rfl dX8_codeAt_114 (Nat.zero_le _) (Nat.zero_le _) ⟨rfl, rfl⟩
      · have hf := zifn hf c46_1
        refine z_selc (fun c46_2 => ?_) (fun c46_2 => ?_)
        · have hf := zifp hf c46_2
          refine z_iconst 0 dX8_codeAt_110 (by decide +kernel) ?_
          cases hf
          exact z_iret rfl dX8_codeAt_111 (Nat.zero_le _) (Nat.zero_le _) ⟨rfl, rfl⟩
        · have hf := zifn hf c46_2
          refine z_selc (fun c46_3 => ?_) (fun c46_3 => ?_)
          · have hf := zifp hf c46_3
            refine z_iload dX8_codeAt_112 rfl ?_
            cases hf
            exact z_iret rfl dX8_codeAt_114 (Nat.zero_le _) (Nat.zero_le _) ⟨rfl, rfl⟩
          · have hf := zifn hf c46_3
            refine z_selc (fun c46_4 => ?_) (fun c46_4 => ?_)
            · have hf := zifp hf c46_4
              refine z_bipush 10 dX8_codeAt_104 (by decide +kernel) ?_
              cases hf
              exact z_iret rfl dX8_codeAt_106 (Nat.zero_le _) (Nat.zero_le _) ⟨rfl, rfl⟩
            · have hf := zifn hf c46_4
              refine z_selc (fun c46_5 => ?_) (fun c46_5 => ?_)
              · have hf := zifp hf c46_5
                refine z_bipush 9 dX8_codeAt_107 (by decide +kernel) ?_
                cases hf
                exact z_iret rfl dX8_codeAt_109 (Nat.zero_le _) (Nat.zero_le _) ⟨rfl, rfl⟩
              · have hf := zifn hf c46_5
                refine z_seln ?_
                refine z_iconst (-1) dX8_codeAt_115 (by decide +kernel) ?_
                cases hf
                exact z_iret rfl dX8_codeAt_116 (Nat.zero_le _) (Nat.zero_le _) ⟨rfl, rfl⟩
  · have hf := zifn hf c9
    refine z_iload_n dX8_codeAt_12 rfl ?_
    refine z_bipush 32 dX8_codeAt_13 (by decide +kernel) ?_
    refine z_icmp_lt 33 dX8_codeAt_15 (by decide) (fun c15 => ?_) (fun c15 => ?_)
    · have hf := zifp hf c15
      refine z_iconst (-1) dX8_codeAt_33 (by decide +kernel) ?_
      cases hf
      exact z_iret rfl dX8_codeAt_34 (Nat.zero_le _) (Nat.zero_le _) ⟨rfl, rfl⟩
    · have hf := zifn hf c15
      refine z_iload_n dX8_codeAt_18 rfl ?_
      refine z_bipush 126 dX8_codeAt_19 (by decide +kernel) ?_
      refine z_icmp_gt 33 dX8_codeAt_21 (by decide) (fun c21 => ?_) (fun c21 => ?_)
      · have hf := zifp hf c21
        refine z_iconst (-1) dX8_codeAt_33 (by decide +kernel) ?_
        cases hf
        exact z_iret rfl dX8_codeAt_34 (Nat.zero_le _) (Nat.zero_le _) ⟨rfl, rfl⟩
      · have hf := zifn hf c21
        refine z_iload_n dX8_codeAt_24 rfl ?_
        refine z_iload_n dX8_codeAt_25 rfl ?_
        refine z_icmp_eq 33 dX8_codeAt_26 (by decide) (fun c26 => ?_) (fun c26 => ?_)
        · have hf := zifp hf c26
          refine z_iconst (-1) dX8_codeAt_33 (by decide +kernel) ?_
          cases hf
          exact z_iret rfl dX8_codeAt_34 (Nat.zero_le _) (Nat.zero_le _) ⟨rfl, rfl⟩
        · have hf := zifn hf c26
          refine z_iload_n dX8_codeAt_29 rfl ?_
          refine z_goto 34 dX8_codeAt_30 (by decide) ?_
          cases hf
          exact z_iret rfl dX8_codeAt_34 (Nat.zero_le _) (Nat.zero_le _) ⟨rfl, rfl⟩

noncomputable def fX8_widthAt (N : Nat) (p0 : Int32) (s : zS) : Option (Int32 × zS) := zbn (fX8_byteAt N p0 s) (fun x1 s2 => if x1 = 92 then some (2, s2) else some (1, s2))
set_option maxHeartbeats 400000 in
set_option maxRecDepth 100000 in
theorem tX8_widthAt {g : zGl} (hok : zGok g) (d : Nat) (hd : 1 ≤ d) (N : Nat) (p0 : Int32)  {s s' : zS} {w : Int32} (hf : fX8_widthAt N p0 s = some (w, s')) : zMet g mX8_widthAt d 0 0 [.ref 4, .int p0] (zHp s) (zret (some (.int w)) (zHp s')) := by
  refine zMet.ofW (by decide +kernel) (Nat.le_of_ble_eq_true rfl) ?_
  show zW g mX8_widthAt d 0 0 51 _ 0 0 (zHp s) [some (.ref 4), some (.int p0)] [] 0
  unfold fX8_widthAt at hf
  refine z_aload_n dX8_widthAt_0 rfl ?_
  refine z_iload_n dX8_widthAt_1 rfl ?_
  obtain ⟨x1, s2, q3, hf⟩ := zbn_of hf
  refine z_cV (as := [_]) hok dX8_widthAt_2 kX8_54 (tX8_byteAt hok (d - 1) N p0  q3) rfl (at_Words s) rfl rfl (by omega) (Nat.le_of_ble_eq_true rfl) (Nat.zero_le _) (Nat.zero_le _) rfl ?_
  refine z_bipush 92 dX8_widthAt_5 (by decide +kernel) ?_
  refine z_icmp_ne 14 dX8_widthAt_7 (by decide) (fun c7 => ?_) (fun c7 => ?_)
  · have hf := zifn hf c7
    refine z_iconst 1 dX8_widthAt_14 (by decide +kernel) ?_
    cases hf
    exact z_iret rfl dX8_widthAt_15 (Nat.zero_le _) (Nat.zero_le _) ⟨rfl, rfl⟩
  · have hf := zifp hf c7
    refine z_iconst 2 dX8_widthAt_10 (by decide +kernel) ?_
    refine z_goto 15 dX8_widthAt_11 (by decide) ?_
    cases hf
    exact z_iret rfl dX8_widthAt_15 (Nat.zero_le _) (Nat.zero_le _) ⟨rfl, rfl⟩

noncomputable def fX8_scanCharacter (N : Nat)  (s : zS) : Option (Int32 × zS) := zbn (fX8_codeAt N ((s.1 404) + 1) 39 s) (fun x1 s2 => zbn (fX8_widthAt N ((s2.1 404) + 1) s2) (fun x4 s5 => if x1 = (-1) then zbn (fX8_bad N 4 s5) (fun x7 s8 => some (x7, s8)) else zbn (fX8_byteAt N (((s2.1 404) + 1) + x4) s5) (fun x10 s11 => if x10 = 39 then some (5, (zsc (zsc s11 405 x1) 404 ((((s2.1 404) + 1) + x4) + 1))) else zbn (fX8_bad N 4 s11) (fun x13 s14 => some (x13, s14)))))
set_option maxHeartbeats 400000 in
set_option maxRecDepth 100000 in
theorem tX8_scanCharacter {g : zGl} (hok : zGok g) (d : Nat) (hd : 2 ≤ d) (N : Nat)   {s s' : zS} {w : Int32} (hf : fX8_scanCharacter N  s = some (w, s')) : zMet g mX8_scanCharacter d 0 0 [.ref 4] (zHp s) (zret (some (.int w)) (zHp s')) := by
  refine zMet.ofW (by decide +kernel) (Nat.le_of_ble_eq_true rfl) ?_
  show zW g mX8_scanCharacter d 0 0 51 _ 0 0 (zHp s) [some (.ref 4), none, none] [] 0
  unfold fX8_scanCharacter at hf
  refine z_aload_n dX8_scanCharacter_0 rfl ?_
  refine z_aload_n dX8_scanCharacter_1 rfl ?_
  refine z_getf dX8_scanCharacter_2 fX8_31 (at_Words s) rfl ?_
  refine z_iconst 1 dX8_scanCharacter_5 (by decide +kernel) ?_
  refine z_iadd dX8_scanCharacter_6 ?_
  refine z_bipush 39 dX8_scanCharacter_7 (by decide +kernel) ?_
  obtain ⟨x1, s2, q3, hf⟩ := zbn_of hf
  refine z_cV (as := [_, _]) hok dX8_scanCharacter_9 kX8_107 (tX8_codeAt hok (d - 1) (by omega) N ((s.1 404) + 1) 39  q3) rfl (at_Words s) rfl rfl (by omega) (Nat.le_of_ble_eq_true rfl) (Nat.zero_le _) (Nat.zero_le _) rfl ?_
  refine z_istore_n (ls' := [_, _, _]) dX8_scanCharacter_12 (by decide) rfl ?_
  refine z_aload_n dX8_scanCharacter_13 rfl ?_
  refine z_getf dX8_scanCharacter_14 fX8_31 (at_Words s2) rfl ?_
  refine z_iconst 1 dX8_scanCharacter_17 (by decide +kernel) ?_
  refine z_iadd dX8_scanCharacter_18 ?_
  refine z_aload_n dX8_scanCharacter_19 rfl ?_
  refine z_aload_n dX8_scanCharacter_20 rfl ?_
  refine z_getf dX8_scanCharacter_21 fX8_31 (at_Words s2) rfl ?_
  refine z_iconst 1 dX8_scanCharacter_24 (by decide +kernel) ?_
  refine z_iadd dX8_scanCharacter_25 ?_
  obtain ⟨x4, s5, q6, hf⟩ := zbn_of hf
  refine z_cV (as := [_]) hok dX8_scanCharacter_26 kX8_110 (tX8_widthAt hok (d - 1) (by omega) N ((s2.1 404) + 1)  q6) rfl (at_Words s2) rfl rfl (by omega) (Nat.le_of_ble_eq_true rfl) (Nat.zero_le _) (Nat.zero_le _) rfl ?_
  refine z_iadd dX8_scanCharacter_29 ?_
  refine z_istore_n (ls' := [_, _, _]) dX8_scanCharacter_30 (by decide) rfl ?_
  refine z_iload_n dX8_scanCharacter_31 rfl ?_
  refine z_iconst (-1) dX8_scanCharacter_32 (by decide +kernel) ?_
  refine z_icmp_eq 46 dX8_scanCharacter_33 (by decide) (fun c33 => ?_) (fun c33 => ?_)
  · have hf := zifp hf c33
    refine z_aload_n dX8_scanCharacter_46 rfl ?_
    refine z_iconst 4 dX8_scanCharacter_47 (by decide +kernel) ?_
    obtain ⟨x7, s8, q9, hf⟩ := zbn_of hf
    refine z_cV (as := [_]) hok dX8_scanCharacter_48 kX8_83 (tX8_bad hok (d - 1) N 4  q9) rfl (at_Words s5) rfl rfl (by omega) (Nat.le_of_ble_eq_true rfl) (Nat.zero_le _) (Nat.zero_le _) rfl ?_
    cases hf
    exact z_iret rfl dX8_scanCharacter_51 (Nat.zero_le _) (Nat.zero_le _) ⟨rfl, rfl⟩
  · have hf := zifn hf c33
    refine z_aload_n dX8_scanCharacter_36 rfl ?_
    refine z_iload_n dX8_scanCharacter_37 rfl ?_
    obtain ⟨x10, s11, q12, hf⟩ := zbn_of hf
    refine z_cV (as := [_]) hok dX8_scanCharacter_38 kX8_54 (tX8_byteAt hok (d - 1) N (((s2.1 404) + 1) + x4)  q12) rfl (at_Words s5) rfl rfl (by omega) (Nat.le_of_ble_eq_true rfl) (Nat.zero_le _) (Nat.zero_le _) rfl ?_
    refine z_bipush 39 dX8_scanCharacter_41 (by decide +kernel) ?_
    refine z_icmp_eq 52 dX8_scanCharacter_43 (by decide) (fun c43 => ?_) (fun c43 => ?_)
    · have hf := zifp hf c43
      refine z_aload_n dX8_scanCharacter_52 rfl ?_
      refine z_iload_n dX8_scanCharacter_53 rfl ?_
      refine z_putf dX8_scanCharacter_54 fX8_37 wX8_5 (at_Words s11) (Nat.le_of_ble_eq_true rfl) (fun _ => rfl) (fun _ => rfl) (st_Words_5 s11 x1) ?_
      refine z_aload_n dX8_scanCharacter_57 rfl ?_
      refine z_iload_n dX8_scanCharacter_58 rfl ?_
      refine z_iconst 1 dX8_scanCharacter_59 (by decide +kernel) ?_
      refine z_iadd dX8_scanCharacter_60 ?_
      refine z_putf dX8_scanCharacter_61 fX8_31 wX8_4 (at_Words (zsc s11 405 x1)) (Nat.le_of_ble_eq_true rfl) (fun _ => rfl) (fun _ => rfl) (st_Words_4 (zsc s11 405 x1) ((((s2.1 404) + 1) + x4) + 1)) ?_
      refine z_iconst 5 dX8_scanCharacter_64 (by decide +kernel) ?_
      cases hf
      exact z_iret rfl dX8_scanCharacter_65 (Nat.zero_le _) (Nat.zero_le _) ⟨rfl, rfl⟩
    · have hf := zifn hf c43
      refine z_aload_n dX8_scanCharacter_46 rfl ?_
      refine z_iconst 4 dX8_scanCharacter_47 (by decide +kernel) ?_
      obtain ⟨x13, s14, q15, hf⟩ := zbn_of hf
      refine z_cV (as := [_]) hok dX8_scanCharacter_48 kX8_83 (tX8_bad hok (d - 1) N 4  q15) rfl (at_Words s11) rfl rfl (by omega) (Nat.le_of_ble_eq_true rfl) (Nat.zero_le _) (Nat.zero_le _) rfl ?_
      cases hf
      exact z_iret rfl dX8_scanCharacter_51 (Nat.zero_le _) (Nat.zero_le _) ⟨rfl, rfl⟩

noncomputable def fX8_scanString_L9S (N : Nat)  (rec : Int32 → Int32 → zS → Option ((Int32 × zS) ⊕ (Int32 × Int32 × zS))) (v1 : Int32) (v2 : Int32) (s : zS) : Option ((Int32 × zS) ⊕ (Int32 × Int32 × zS)) := if (s.1 403) ≤ v2 then some (.inr (v1, v2, s)) else zbn (fX8_codeAt N v2 34 s) (fun x1 s2 => if x1 = (-1) then some (.inr (v1, v2, s2)) else zbn (fX8_widthAt N v2 s2) (fun x4 s5 => rec (v1 + 1) (v2 + x4) s5))
noncomputable def fX8_scanString_L9 (N : Nat)  (n : Nat) : Int32 → Int32 → zS → Option ((Int32 × zS) ⊕ (Int32 × Int32 × zS)) := Nat.rec (motive := fun _ => Int32 → Int32 → zS → Option ((Int32 × zS) ⊕ (Int32 × Int32 × zS))) (fun _ _ _ => none) (fun _ rec => fX8_scanString_L9S N  rec) n
set_option maxHeartbeats 400000 in
set_option maxRecDepth 100000 in
theorem tX8_scanString_L9 {g : zGl} (hok : zGok g) (d : Nat) (hd : 2 ≤ d) (N : Nat)   {mc ms n0 : Nat} {Q : zO → List zE → Prop} (n : Nat) : ∀ (v1 : Int32) (v2 : Int32) (s : zS) (r : (Int32 × zS) ⊕ (Int32 × Int32 × zS)) (hf : fX8_scanString_L9 N  n v1 v2 s = some r) (k1 : ∀ w s', r = .inl (w, s') → Q (.inl (some (.int w))) (zHp s')) (k2 : ∀ (y1 : Int32) (y2 : Int32) (s' : zS), r = .inr (y1, y2, s') → zW g mX8_scanString d mc ms n0 Q 0 0 (zHp s') [some (.ref 4), some (.int y1), some (.int y2)] [] 42), zW g mX8_scanString d mc ms n0 Q 0 0 (zHp s) [some (.ref 4), some (.int v1), some (.int v2)] [] 9 := by
  induction n with
  | zero => intro v1 v2 s r hf; cases hf
  | succ n ih =>
    intro v1 v2 s r hf k1 k2
    have hrec : ∀ (v1 : Int32) (v2 : Int32) (s : zS) (r1 : (Int32 × zS) ⊕ (Int32 × Int32 × zS)), fX8_scanString_L9 N  n v1 v2 s = some r1 → r1 = r → zW g mX8_scanString d mc ms n0 Q 0 0 (zHp s) [some (.ref 4), some (.int v1), some (.int v2)] [] 9 := fun v1 v2 s r1 h e => ih v1 v2 s r1 h (by subst e; exact k1) (by subst e; exact k2)
    have hrec : ∀ (v1 : Int32) (v2 : Int32) (s : zS), fX8_scanString_L9 N  n v1 v2 s = some r → zW g mX8_scanString d mc ms n0 Q 0 0 (zHp s) [some (.ref 4), some (.int v1), some (.int v2)] [] 9 := fun v1 v2 s h => hrec v1 v2 s r h rfl
    have hf : fX8_scanString_L9S N  (fX8_scanString_L9 N  n) v1 v2 s = some r := hf
    unfold fX8_scanString_L9S at hf
    refine z_iload_n dX8_scanString_9 rfl ?_
    refine z_aload_n dX8_scanString_10 rfl ?_
    refine z_getf dX8_scanString_11 fX8_28 (at_Words s) rfl ?_
    refine z_icmp_ge 42 dX8_scanString_14 (by decide) (fun c14 => ?_) (fun c14 => ?_)
    · have hf := zifp hf c14
      cases hf
      refine z_mask (ls' := [_, _, _]) [true, true, true] rfl ?_
      exact k2 _ _ _ rfl
    · have hf := zifn hf c14
      refine z_aload_n dX8_scanString_17 rfl ?_
      refine z_iload_n dX8_scanString_18 rfl ?_
      refine z_bipush 34 dX8_scanString_19 (by decide +kernel) ?_
      obtain ⟨x1, s2, q3, hf⟩ := zbn_of hf
      refine z_cV (as := [_, _]) hok dX8_scanString_21 kX8_107 (tX8_codeAt hok (d - 1) (by omega) N v2 34  q3) rfl (at_Words s) rfl rfl (by omega) (Nat.le_of_ble_eq_true rfl) (Nat.zero_le _) (Nat.zero_le _) rfl ?_
      refine z_iconst (-1) dX8_scanString_24 (by decide +kernel) ?_
      refine z_icmp_eq 42 dX8_scanString_25 (by decide) (fun c25 => ?_) (fun c25 => ?_)
      · have hf := zifp hf c25
        cases hf
        refine z_mask (ls' := [_, _, _]) [true, true, true] rfl ?_
        exact k2 _ _ _ rfl
      · have hf := zifn hf c25
        refine z_iinc (ls' := [_, _, _]) (v1 + 1) dX8_scanString_28 rfl rfl (by decide) rfl ?_
        refine z_iload_n dX8_scanString_31 rfl ?_
        refine z_aload_n dX8_scanString_32 rfl ?_
        refine z_iload_n dX8_scanString_33 rfl ?_
        obtain ⟨x4, s5, q6, hf⟩ := zbn_of hf
        refine z_cV (as := [_]) hok dX8_scanString_34 kX8_110 (tX8_widthAt hok (d - 1) (by omega) N v2  q6) rfl (at_Words s2) rfl rfl (by omega) (Nat.le_of_ble_eq_true rfl) (Nat.zero_le _) (Nat.zero_le _) rfl ?_
        refine z_iadd dX8_scanString_37 ?_
        refine z_istore_n (ls' := [_, _, _]) dX8_scanString_38 (by decide) rfl ?_
        refine z_goto 9 dX8_scanString_39 (by decide) ?_
        refine z_mask (ls' := [_, _, _]) [true, true, true] rfl ?_
        exact hrec (v1 + 1) (v2 + x4) s5 hf
noncomputable def fX8_scanString_J42 (N : Nat)  (v1 : Int32) (v2 : Int32) (s : zS) : Option (Int32 × zS) := zbn (fX8_byteAt N v2 s) (fun x13 s14 => if x13 = 34 then some (7, (zsc (zsc s14 405 v1) 404 (v2 + 1))) else zbn (fX8_bad N 4 s14) (fun x16 s17 => some (x16, s17)))
set_option maxHeartbeats 400000 in
set_option maxRecDepth 100000 in
theorem tX8_scanString_J42 {g : zGl} (hok : zGok g) (d : Nat) (hd : 2 ≤ d) (N : Nat)   {mc ms n0 : Nat} (v1 : Int32) (v2 : Int32) {s s' : zS} {w : Int32} (hf : fX8_scanString_J42 N  v1 v2 s = some (w, s')) : zW g mX8_scanString d mc ms n0 (zret (some (.int w)) (zHp s')) 0 0 (zHp s) [some (.ref 4), some (.int v1), some (.int v2)] [] 42 := by
  unfold fX8_scanString_J42 at hf
  refine z_aload_n dX8_scanString_42 rfl ?_
  refine z_iload_n dX8_scanString_43 rfl ?_
  obtain ⟨x13, s14, q15, hf⟩ := zbn_of hf
  refine z_cV (as := [_]) hok dX8_scanString_44 kX8_54 (tX8_byteAt hok (d - 1) N v2  q15) rfl (at_Words s) rfl rfl (by omega) (Nat.le_of_ble_eq_true rfl) (Nat.zero_le _) (Nat.zero_le _) rfl ?_
  refine z_bipush 34 dX8_scanString_47 (by decide +kernel) ?_
  refine z_icmp_eq 58 dX8_scanString_49 (by decide) (fun c49 => ?_) (fun c49 => ?_)
  · have hf := zifp hf c49
    refine z_aload_n dX8_scanString_58 rfl ?_
    refine z_iload_n dX8_scanString_59 rfl ?_
    refine z_putf dX8_scanString_60 fX8_37 wX8_5 (at_Words s14) (Nat.le_of_ble_eq_true rfl) (fun _ => rfl) (fun _ => rfl) (st_Words_5 s14 v1) ?_
    refine z_aload_n dX8_scanString_63 rfl ?_
    refine z_iload_n dX8_scanString_64 rfl ?_
    refine z_iconst 1 dX8_scanString_65 (by decide +kernel) ?_
    refine z_iadd dX8_scanString_66 ?_
    refine z_putf dX8_scanString_67 fX8_31 wX8_4 (at_Words (zsc s14 405 v1)) (Nat.le_of_ble_eq_true rfl) (fun _ => rfl) (fun _ => rfl) (st_Words_4 (zsc s14 405 v1) (v2 + 1)) ?_
    refine z_bipush 7 dX8_scanString_70 (by decide +kernel) ?_
    cases hf
    exact z_iret rfl dX8_scanString_72 (Nat.zero_le _) (Nat.zero_le _) ⟨rfl, rfl⟩
  · have hf := zifn hf c49
    refine z_aload_n dX8_scanString_52 rfl ?_
    refine z_iconst 4 dX8_scanString_53 (by decide +kernel) ?_
    obtain ⟨x16, s17, q18, hf⟩ := zbn_of hf
    refine z_cV (as := [_]) hok dX8_scanString_54 kX8_83 (tX8_bad hok (d - 1) N 4  q18) rfl (at_Words s14) rfl rfl (by omega) (Nat.le_of_ble_eq_true rfl) (Nat.zero_le _) (Nat.zero_le _) rfl ?_
    cases hf
    exact z_iret rfl dX8_scanString_57 (Nat.zero_le _) (Nat.zero_le _) ⟨rfl, rfl⟩
noncomputable def fX8_scanString (N : Nat)  (s : zS) : Option (Int32 × zS) := zbl (fX8_scanString_L9 N  N 0 ((s.1 404) + 1) s) (fun x => some x) (fun lq7 => match lq7 with | (y10, y11, s12) => fX8_scanString_J42 N  y10 y11 s12)
set_option maxHeartbeats 400000 in
set_option maxRecDepth 100000 in
theorem tX8_scanString {g : zGl} (hok : zGok g) (d : Nat) (hd : 2 ≤ d) (N : Nat)   {s s' : zS} {w : Int32} (hf : fX8_scanString N  s = some (w, s')) : zMet g mX8_scanString d 0 0 [.ref 4] (zHp s) (zret (some (.int w)) (zHp s')) := by
  refine zMet.ofW (by decide +kernel) (Nat.le_of_ble_eq_true rfl) ?_
  show zW g mX8_scanString d 0 0 51 _ 0 0 (zHp s) [some (.ref 4), none, none] [] 0
  unfold fX8_scanString at hf
  refine z_iconst 0 dX8_scanString_0 (by decide +kernel) ?_
  refine z_istore_n (ls' := [_, _, _]) dX8_scanString_1 (by decide) rfl ?_
  refine z_aload_n dX8_scanString_2 rfl ?_
  refine z_getf dX8_scanString_3 fX8_31 (at_Words s) rfl ?_
  refine z_iconst 1 dX8_scanString_6 (by decide +kernel) ?_
  refine z_iadd dX8_scanString_7 ?_
  refine z_istore_n (ls' := [_, _, _]) dX8_scanString_8 (by decide) rfl ?_
  refine z_mask (ls' := [_, _, _]) [true, true, true] rfl ?_
  rcases zbl_of hf with ⟨lr8, le9, hf⟩ | ⟨lr8, le9, hf⟩
  · cases hf
    exact tX8_scanString_L9 hok d (by omega) N   N 0 ((s.1 404) + 1) s _ le9 (fun w1 s1 hh => by cases hh; exact ⟨rfl, rfl⟩) (fun _ _ _ hh => by cases hh)
  · obtain ⟨y10, y11, s12⟩ := lr8
    refine tX8_scanString_L9 hok d (by omega) N   N 0 ((s.1 404) + 1) s _ le9 (fun w1 s1 hh => by cases hh) (fun _ _ _ hh => ?_)
    cases hh
    refine z_mask (ls' := [_, _, _]) [true, true, true] rfl ?_
    exact tX8_scanString_J42 hok d (by omega) N   y10 y11 hf

noncomputable def fX8_kindOfSign (N : Nat) (p0 : Int32) (s : zS) : Option (Int32 × zS) := if p0 = 37 then some (16, s) else if p0 = 38 then some (19, s) else if p0 = 40 then some (9, s) else if p0 = 41 then some (10, s) else if p0 = 42 then some (14, s) else if p0 = 43 then some (12, s) else if p0 = 44 then some (8, s) else if p0 = 45 then some (13, s) else if p0 = 47 then some (15, s) else if p0 = 58 then some (22, s) else if p0 = 94 then some (20, s) else if p0 = 124 then some (21, s) else if p0 = 126 then some (23, s) else some (24, s)
set_option maxHeartbeats 400000 in
set_option maxRecDepth 100000 in
theorem tX8_kindOfSign {g : zGl} (hok : zGok g) (d : Nat)  (N : Nat) (p0 : Int32)  {s s' : zS} {w : Int32} (hf : fX8_kindOfSign N p0 s = some (w, s')) : zMet g mX8_kindOfSign d 0 0 [.int p0] (zHp s) (zret (some (.int w)) (zHp s')) := by
  refine zMet.ofW (by decide +kernel) (Nat.le_of_ble_eq_true rfl) ?_
  show zW g mX8_kindOfSign d 0 0 51 _ 0 0 (zHp s) [some (.int p0)] [] 0
  unfold fX8_kindOfSign at hf
  refine z_iload_n dX8_kindOfSign_0 rfl ?_
  refine z_look [(37, 143), (38, 146), (40, 119), (41, 122), (42, 137), (43, 131), (44, 116), (45, 134), (47, 140), (58, 125), (94, 149), (124, 152), (126, 128)] 155 dX8_kindOfSign_1 (by decide +kernel) (by decide +kernel) (by decide +kernel) ?_
  refine z_selc (fun c1_0 => ?_) (fun c1_0 => ?_)
  · have hf := zifp hf c1_0
    refine z_bipush 16 dX8_kindOfSign_143 (by decide +kernel) ?_
    cases hf
    exact z_iret rfl dX8_kindOfSign_145 (Nat.zero_le _) (Nat.zero_le _) ⟨rfl, rfl⟩
  · have hf := zifn hf c1_0
    refine z_selc (fun c1_1 => ?_) (fun c1_1 => ?_)
    · have hf := zifp hf c1_1
      refine z_bipush 19 dX8_kindOfSign_146 (by decide +kernel) ?_
      cases hf
      exact z_iret rfl dX8_kindOfSign_148 (Nat.zero_le _) (Nat.zero_le _) ⟨rfl, rfl⟩
    · have hf := zifn hf c1_1
      refine z_selc (fun c1_2 => ?_) (fun c1_2 => ?_)
      · have hf := zifp hf c1_2
        refine z_bipush 9 dX8_kindOfSign_119 (by decide +kernel) ?_
        cases hf
        exact z_iret rfl dX8_kindOfSign_121 (Nat.zero_le _) (Nat.zero_le _) ⟨rfl, rfl⟩
      · have hf := zifn hf c1_2
        refine z_selc (fun c1_3 => ?_) (fun c1_3 => ?_)
        · have hf := zifp hf c1_3
          refine z_bipush 10 dX8_kindOfSign_122 (by decide +kernel) ?_
          cases hf
          exact z_iret rfl dX8_kindOfSign_124 (Nat.zero_le _) (Nat.zero_le _) ⟨rfl, rfl⟩
        · have hf := zifn hf c1_3
          refine z_selc (fun c1_4 => ?_) (fun c1_4 => ?_)
          · have hf := zifp hf c1_4
            refine z_bipush 14 dX8_kindOfSign_137 (by decide +kernel) ?_
            cases hf
            exact z_iret rfl dX8_kindOfSign_139 (Nat.zero_le _) (Nat.zero_le _) ⟨rfl, rfl⟩
          · have hf := zifn hf c1_4
            refine z_selc (fun c1_5 => ?_) (fun c1_5 => ?_)
            · have hf := zifp hf c1_5
              refine z_bipush 12 dX8_kindOfSign_131 (by decide +kernel) ?_
              cases hf
              exact z_iret rfl dX8_kindOfSign_133 (Nat.zero_le _) (Nat.zero_le _) ⟨rfl, rfl⟩
            · have hf := zifn hf c1_5
              refine z_selc (fun c1_6 => ?_) (fun c1_6 => ?_)
              · have hf := zifp hf c1_6
                refine z_bipush 8 dX8_kindOfSign_116 (by decide +kernel) ?_
                cases hf
                exact z_iret rfl dX8_kindOfSign_118 (Nat.zero_le _) (Nat.zero_le _) ⟨rfl, rfl⟩
              · have hf := zifn hf c1_6
                refine z_selc (fun c1_7 => ?_) (fun c1_7 => ?_)
                · have hf := zifp hf c1_7
                  refine z_bipush 13 dX8_kindOfSign_134 (by decide +kernel) ?_
                  cases hf
                  exact z_iret rfl dX8_kindOfSign_136 (Nat.zero_le _) (Nat.zero_le _) ⟨rfl, rfl⟩
                · have hf := zifn hf c1_7
                  refine z_selc (fun c1_8 => ?_) (fun c1_8 => ?_)
                  · have hf := zifp hf c1_8
                    refine z_bipush 15 dX8_kindOfSign_140 (by decide +kernel) ?_
                    cases hf
                    exact z_iret rfl dX8_kindOfSign_142 (Nat.zero_le _) (Nat.zero_le _) ⟨rfl, rfl⟩
                  · have hf := zifn hf c1_8
                    refine z_selc (fun c1_9 => ?_) (fun c1_9 => ?_)
                    · have hf := zifp hf c1_9
                      refine z_bipush 22 dX8_kindOfSign_125 (by decide +kernel) ?_
                      cases hf
                      exact z_iret rfl dX8_kindOfSign_127 (Nat.zero_le _) (Nat.zero_le _) ⟨rfl, rfl⟩
                    · have hf := zifn hf c1_9
                      refine z_selc (fun c1_10 => ?_) (fun c1_10 => ?_)
                      · have hf := zifp hf c1_10
                        refine z_bipush 20 dX8_kindOfSign_149 (by decide +kernel) ?_
                        cases hf
                        exact z_iret rfl dX8_kindOfSign_151 (Nat.zero_le _) (Nat.zero_le _) ⟨rfl, rfl⟩
                      · have hf := zifn hf c1_10
                        refine z_selc (fun c1_11 => ?_) (fun c1_11 => ?_)
                        · have hf := zifp hf c1_11
                          refine z_bipush 21 dX8_kindOfSign_152 (by decide +kernel) ?_
                          cases hf
                          exact z_iret rfl dX8_kindOfSign_154 (Nat.zero_le _) (Nat.zero_le _) ⟨rfl, rfl⟩
                        · have hf := zifn hf c1_11
                          refine z_selc (fun c1_12 => ?_) (fun c1_12 => ?_)
                          · have hf := zifp hf c1_12
                            refine z_bipush 23 dX8_kindOfSign_128 (by decide +kernel) ?_
                            cases hf
                            exact z_iret rfl dX8_kindOfSign_130 (Nat.zero_le _) (Nat.zero_le _) ⟨rfl, rfl⟩
                          · have hf := zifn hf c1_12
                            refine z_seln ?_
                            refine z_bipush 24 dX8_kindOfSign_155 (by decide +kernel) ?_
                            cases hf
                            exact z_iret rfl dX8_kindOfSign_157 (Nat.zero_le _) (Nat.zero_le _) ⟨rfl, rfl⟩

noncomputable def fX8_scanSign_J50 (N : Nat) (p0 : Int32)  (s : zS) : Option (Int32 × zS) := zbn (fX8_kindOfSign N p0 s) (fun x4 s5 => if x4 = 24 then zbn (fX8_bad N 1 s5) (fun x7 s8 => some (x7, s8)) else some (x4, (zsc s5 404 ((s5.1 404) + 1))))
set_option maxHeartbeats 400000 in
set_option maxRecDepth 100000 in
theorem tX8_scanSign_J50 {g : zGl} (hok : zGok g) (d : Nat) (hd : 1 ≤ d) (N : Nat) (p0 : Int32)  {mc ms n0 : Nat}  {s s' : zS} {w : Int32} (hf : fX8_scanSign_J50 N p0  s = some (w, s')) : zW g mX8_scanSign d mc ms n0 (zret (some (.int w)) (zHp s')) 0 0 (zHp s) [some (.ref 4), some (.int p0), none] [] 50 := by
  unfold fX8_scanSign_J50 at hf
  refine z_iload_n dX8_scanSign_50 rfl ?_
  obtain ⟨x4, s5, q6, hf⟩ := zbn_of hf
  refine z_cS (as := [_]) hok dX8_scanSign_51 kX8_115 (tX8_kindOfSign hok (d - 1) N p0  q6) rfl rfl (by omega) (Nat.le_of_ble_eq_true rfl) (Nat.zero_le _) (Nat.zero_le _) rfl ?_
  refine z_istore_n (ls' := [_, _, _]) dX8_scanSign_54 (by decide) rfl ?_
  refine z_iload_n dX8_scanSign_55 rfl ?_
  refine z_bipush 24 dX8_scanSign_56 (by decide +kernel) ?_
  refine z_icmp_ne 67 dX8_scanSign_58 (by decide) (fun c58 => ?_) (fun c58 => ?_)
  · have hf := zifn hf c58
    refine z_aload_n dX8_scanSign_67 rfl ?_
    refine z_dup dX8_scanSign_68 rfl ?_
    refine z_getf dX8_scanSign_69 fX8_31 (at_Words s5) rfl ?_
    refine z_iconst 1 dX8_scanSign_72 (by decide +kernel) ?_
    refine z_iadd dX8_scanSign_73 ?_
    refine z_putf dX8_scanSign_74 fX8_31 wX8_4 (at_Words s5) (Nat.le_of_ble_eq_true rfl) (fun _ => rfl) (fun _ => rfl) (st_Words_4 s5 ((s5.1 404) + 1)) ?_
    refine z_iload_n dX8_scanSign_77 rfl ?_
    cases hf
    exact z_iret rfl dX8_scanSign_78 (Nat.zero_le _) (Nat.zero_le _) ⟨rfl, rfl⟩
  · have hf := zifp hf c58
    refine z_aload_n dX8_scanSign_61 rfl ?_
    refine z_iconst 1 dX8_scanSign_62 (by decide +kernel) ?_
    obtain ⟨x7, s8, q9, hf⟩ := zbn_of hf
    refine z_cV (as := [_]) hok dX8_scanSign_63 kX8_83 (tX8_bad hok (d - 1) N 1  q9) rfl (at_Words s5) rfl rfl (by omega) (Nat.le_of_ble_eq_true rfl) (Nat.zero_le _) (Nat.zero_le _) rfl ?_
    cases hf
    exact z_iret rfl dX8_scanSign_66 (Nat.zero_le _) (Nat.zero_le _) ⟨rfl, rfl⟩
noncomputable def fX8_scanSign_J12 (N : Nat) (p0 : Int32)  (s : zS) : Option (Int32 × zS) := zbn (fX8_byteAt N ((s.1 404) + 1) s) (fun x1 s2 => if x1 = p0 then if p0 = 60 then some (17, (zsc s2 404 ((s2.1 404) + 2))) else some (18, (zsc s2 404 ((s2.1 404) + 2))) else fX8_scanSign_J50 N p0  s2)
set_option maxHeartbeats 400000 in
set_option maxRecDepth 100000 in
theorem tX8_scanSign_J12 {g : zGl} (hok : zGok g) (d : Nat) (hd : 1 ≤ d) (N : Nat) (p0 : Int32)  {mc ms n0 : Nat}  {s s' : zS} {w : Int32} (hf : fX8_scanSign_J12 N p0  s = some (w, s')) : zW g mX8_scanSign d mc ms n0 (zret (some (.int w)) (zHp s')) 0 0 (zHp s) [some (.ref 4), some (.int p0), none] [] 12 := by
  unfold fX8_scanSign_J12 at hf
  refine z_aload_n dX8_scanSign_12 rfl ?_
  refine z_aload_n dX8_scanSign_13 rfl ?_
  refine z_getf dX8_scanSign_14 fX8_31 (at_Words s) rfl ?_
  refine z_iconst 1 dX8_scanSign_17 (by decide +kernel) ?_
  refine z_iadd dX8_scanSign_18 ?_
  obtain ⟨x1, s2, q3, hf⟩ := zbn_of hf
  refine z_cV (as := [_]) hok dX8_scanSign_19 kX8_54 (tX8_byteAt hok (d - 1) N ((s.1 404) + 1)  q3) rfl (at_Words s) rfl rfl (by omega) (Nat.le_of_ble_eq_true rfl) (Nat.zero_le _) (Nat.zero_le _) rfl ?_
  refine z_iload_n dX8_scanSign_22 rfl ?_
  refine z_icmp_ne 50 dX8_scanSign_23 (by decide) (fun c23 => ?_) (fun c23 => ?_)
  · have hf := zifn hf c23
    refine z_mask (ls' := [_, _, _]) [true, true, false] rfl ?_
    exact tX8_scanSign_J50 hok d (by omega) N p0   hf
  · have hf := zifp hf c23
    refine z_aload_n dX8_scanSign_26 rfl ?_
    refine z_dup dX8_scanSign_27 rfl ?_
    refine z_getf dX8_scanSign_28 fX8_31 (at_Words s2) rfl ?_
    refine z_iconst 2 dX8_scanSign_31 (by decide +kernel) ?_
    refine z_iadd dX8_scanSign_32 ?_
    refine z_putf dX8_scanSign_33 fX8_31 wX8_4 (at_Words s2) (Nat.le_of_ble_eq_true rfl) (fun _ => rfl) (fun _ => rfl) (st_Words_4 s2 ((s2.1 404) + 2)) ?_
    refine z_iload_n dX8_scanSign_36 rfl ?_
    refine z_bipush 60 dX8_scanSign_37 (by decide +kernel) ?_
    refine z_icmp_ne 47 dX8_scanSign_39 (by decide) (fun c39 => ?_) (fun c39 => ?_)
    · have hf := zifn hf c39
      refine z_bipush 18 dX8_scanSign_47 (by decide +kernel) ?_
      cases hf
      exact z_iret rfl dX8_scanSign_49 (Nat.zero_le _) (Nat.zero_le _) ⟨rfl, rfl⟩
    · have hf := zifp hf c39
      refine z_bipush 17 dX8_scanSign_42 (by decide +kernel) ?_
      refine z_goto 49 dX8_scanSign_44 (by decide) ?_
      cases hf
      exact z_iret rfl dX8_scanSign_49 (Nat.zero_le _) (Nat.zero_le _) ⟨rfl, rfl⟩
noncomputable def fX8_scanSign (N : Nat) (p0 : Int32) (s : zS) : Option (Int32 × zS) := if p0 = 60 then fX8_scanSign_J12 N p0  s else if p0 = 62 then fX8_scanSign_J12 N p0  s else fX8_scanSign_J50 N p0  s
set_option maxHeartbeats 400000 in
set_option maxRecDepth 100000 in
theorem tX8_scanSign {g : zGl} (hok : zGok g) (d : Nat) (hd : 1 ≤ d) (N : Nat) (p0 : Int32)  {s s' : zS} {w : Int32} (hf : fX8_scanSign N p0 s = some (w, s')) : zMet g mX8_scanSign d 0 0 [.ref 4, .int p0] (zHp s) (zret (some (.int w)) (zHp s')) := by
  refine zMet.ofW (by decide +kernel) (Nat.le_of_ble_eq_true rfl) ?_
  show zW g mX8_scanSign d 0 0 51 _ 0 0 (zHp s) [some (.ref 4), some (.int p0), none] [] 0
  unfold fX8_scanSign at hf
  refine z_iload_n dX8_scanSign_0 rfl ?_
  refine z_bipush 60 dX8_scanSign_1 (by decide +kernel) ?_
  refine z_icmp_eq 12 dX8_scanSign_3 (by decide) (fun c3 => ?_) (fun c3 => ?_)
  · have hf := zifp hf c3
    refine z_mask (ls' := [_, _, _]) [true, true, false] rfl ?_
    exact tX8_scanSign_J12 hok d (by omega) N p0   hf
  · have hf := zifn hf c3
    refine z_iload_n dX8_scanSign_6 rfl ?_
    refine z_bipush 62 dX8_scanSign_7 (by decide +kernel) ?_
    refine z_icmp_ne 50 dX8_scanSign_9 (by decide) (fun c9 => ?_) (fun c9 => ?_)
    · have hf := zifn hf c9
      refine z_mask (ls' := [_, _, _]) [true, true, false] rfl ?_
      exact tX8_scanSign_J50 hok d (by omega) N p0   hf
    · have hf := zifp hf c9
      refine z_mask (ls' := [_, _, _]) [true, true, false] rfl ?_
      exact tX8_scanSign_J12 hok d (by omega) N p0   hf

noncomputable def fX8_scanOne_J93 (N : Nat)  (v1 : Int32) (s : zS) : Option (Int32 × zS) := if v1 = 39 then zbn (fX8_scanCharacter N  s) (fun x16 s17 => some (x16, s17)) else if v1 = 34 then zbn (fX8_scanString N  s) (fun x13 s14 => some (x13, s14)) else zbn (fX8_scanSign N v1 s) (fun x10 s11 => some (x10, s11))
set_option maxHeartbeats 400000 in
set_option maxRecDepth 100000 in
theorem tX8_scanOne_J93 {g : zGl} (hok : zGok g) (d : Nat) (hd : 3 ≤ d) (N : Nat)   {mc ms n0 : Nat} (v1 : Int32) {s s' : zS} {w : Int32} (hf : fX8_scanOne_J93 N  v1 s = some (w, s')) : zW g mX8_scanOne d mc ms n0 (zret (some (.int w)) (zHp s')) 0 0 (zHp s) [some (.ref 4), some (.int v1)] [] 93 := by
  unfold fX8_scanOne_J93 at hf
  refine z_iload_n dX8_scanOne_93 rfl ?_
  refine z_bipush 39 dX8_scanOne_94 (by decide +kernel) ?_
  refine z_icmp_ne 104 dX8_scanOne_96 (by decide) (fun c96 => ?_) (fun c96 => ?_)
  · have hf := zifn hf c96
    refine z_iload_n dX8_scanOne_104 rfl ?_
    refine z_bipush 34 dX8_scanOne_105 (by decide +kernel) ?_
    refine z_icmp_ne 115 dX8_scanOne_107 (by decide) (fun c107 => ?_) (fun c107 => ?_)
    · have hf := zifn hf c107
      refine z_aload_n dX8_scanOne_115 rfl ?_
      refine z_iload_n dX8_scanOne_116 rfl ?_
      obtain ⟨x10, s11, q12, hf⟩ := zbn_of hf
      refine z_cV (as := [_]) hok dX8_scanOne_117 kX8_80 (tX8_scanSign hok (d - 1) (by omega) N v1  q12) rfl (at_Words s) rfl rfl (by omega) (Nat.le_of_ble_eq_true rfl) (Nat.zero_le _) (Nat.zero_le _) rfl ?_
      cases hf
      exact z_iret rfl dX8_scanOne_120 (Nat.zero_le _) (Nat.zero_le _) ⟨rfl, rfl⟩
    · have hf := zifp hf c107
      refine z_aload_n dX8_scanOne_110 rfl ?_
      obtain ⟨x13, s14, q15, hf⟩ := zbn_of hf
      refine z_cV (as := []) hok dX8_scanOne_111 kX8_77 (tX8_scanString hok (d - 1) (by omega) N   q15) rfl (at_Words s) rfl rfl (by omega) (Nat.le_of_ble_eq_true rfl) (Nat.zero_le _) (Nat.zero_le _) rfl ?_
      cases hf
      exact z_iret rfl dX8_scanOne_114 (Nat.zero_le _) (Nat.zero_le _) ⟨rfl, rfl⟩
  · have hf := zifp hf c96
    refine z_aload_n dX8_scanOne_99 rfl ?_
    obtain ⟨x16, s17, q18, hf⟩ := zbn_of hf
    refine z_cV (as := []) hok dX8_scanOne_100 kX8_74 (tX8_scanCharacter hok (d - 1) (by omega) N   q18) rfl (at_Words s) rfl rfl (by omega) (Nat.le_of_ble_eq_true rfl) (Nat.zero_le _) (Nat.zero_le _) rfl ?_
    cases hf
    exact z_iret rfl dX8_scanOne_103 (Nat.zero_le _) (Nat.zero_le _) ⟨rfl, rfl⟩
noncomputable def fX8_scanOne (N : Nat)  (s : zS) : Option (Int32 × zS) := zbn (fX8_byteAt N (s.1 404) s) (fun x1 s2 => if x1 = 32 then some (25, (zsc s2 404 ((s2.1 404) + 1))) else if x1 = 9 then some (25, (zsc s2 404 ((s2.1 404) + 1))) else if x1 = 10 then some (0, (zsc s2 404 ((s2.1 404) + 1))) else if x1 = 35 then zbn (fX8_scanComment N  s2) (fun x25 s26 => some (x25, s26)) else zbn (fX8_isDigit N x1 s2) (fun x4 s5 => if x4 = 0 then zbn (fX8_isNameByte N x1 s5) (fun x7 s8 => if x7 = 0 then fX8_scanOne_J93 N  x1 s8 else if x1 = 36 then fX8_scanOne_J93 N  x1 s8 else zbn (fX8_scanName N  s8) (fun x19 s20 => some (x19, s20))) else zbn (fX8_scanNumber N  s5) (fun x22 s23 => some (x22, s23))))
set_option maxHeartbeats 400000 in
set_option maxRecDepth 100000 in
theorem tX8_scanOne {g : zGl} (hok : zGok g) (d : Nat) (hd : 4 ≤ d) (N : Nat)   {s s' : zS} {w : Int32} (hf : fX8_scanOne N  s = some (w, s')) : zMet g mX8_scanOne d 0 0 [.ref 4] (zHp s) (zret (some (.int w)) (zHp s')) := by
  refine zMet.ofW (by decide +kernel) (Nat.le_of_ble_eq_true rfl) ?_
  show zW g mX8_scanOne d 0 0 51 _ 0 0 (zHp s) [some (.ref 4), none] [] 0
  unfold fX8_scanOne at hf
  refine z_aload_n dX8_scanOne_0 rfl ?_
  refine z_aload_n dX8_scanOne_1 rfl ?_
  refine z_getf dX8_scanOne_2 fX8_31 (at_Words s) rfl ?_
  obtain ⟨x1, s2, q3, hf⟩ := zbn_of hf
  refine z_cV (as := [_]) hok dX8_scanOne_5 kX8_54 (tX8_byteAt hok (d - 1) N (s.1 404)  q3) rfl (at_Words s) rfl rfl (by omega) (Nat.le_of_ble_eq_true rfl) (Nat.zero_le _) (Nat.zero_le _) rfl ?_
  refine z_istore_n (ls' := [_, _]) dX8_scanOne_8 (by decide) rfl ?_
  refine z_iload_n dX8_scanOne_9 rfl ?_
  refine z_bipush 32 dX8_scanOne_10 (by decide +kernel) ?_
  refine z_icmp_eq 21 dX8_scanOne_12 (by decide) (fun c12 => ?_) (fun c12 => ?_)
  · have hf := zifp hf c12
    refine z_aload_n dX8_scanOne_21 rfl ?_
    refine z_dup dX8_scanOne_22 rfl ?_
    refine z_getf dX8_scanOne_23 fX8_31 (at_Words s2) rfl ?_
    refine z_iconst 1 dX8_scanOne_26 (by decide +kernel) ?_
    refine z_iadd dX8_scanOne_27 ?_
    refine z_putf dX8_scanOne_28 fX8_31 wX8_4 (at_Words s2) (Nat.le_of_ble_eq_true rfl) (fun _ => rfl) (fun _ => rfl) (st_Words_4 s2 ((s2.1 404) + 1)) ?_
    refine z_bipush 25 dX8_scanOne_31 (by decide +kernel) ?_
    cases hf
    exact z_iret rfl dX8_scanOne_33 (Nat.zero_le _) (Nat.zero_le _) ⟨rfl, rfl⟩
  · have hf := zifn hf c12
    refine z_iload_n dX8_scanOne_15 rfl ?_
    refine z_bipush 9 dX8_scanOne_16 (by decide +kernel) ?_
    refine z_icmp_ne 34 dX8_scanOne_18 (by decide) (fun c18 => ?_) (fun c18 => ?_)
    · have hf := zifn hf c18
      refine z_iload_n dX8_scanOne_34 rfl ?_
      refine z_bipush 10 dX8_scanOne_35 (by decide +kernel) ?_
      refine z_icmp_ne 52 dX8_scanOne_37 (by decide) (fun c37 => ?_) (fun c37 => ?_)
      · have hf := zifn hf c37
        refine z_iload_n dX8_scanOne_52 rfl ?_
        refine z_bipush 35 dX8_scanOne_53 (by decide +kernel) ?_
        refine z_icmp_ne 63 dX8_scanOne_55 (by decide) (fun c55 => ?_) (fun c55 => ?_)
        · have hf := zifn hf c55
          refine z_iload_n dX8_scanOne_63 rfl ?_
          obtain ⟨x4, s5, q6, hf⟩ := zbn_of hf
          refine z_cS (as := [_]) hok dX8_scanOne_64 kX8_61 (tX8_isDigit hok (d - 1) N x1  q6) rfl rfl (by omega) (Nat.le_of_ble_eq_true rfl) (Nat.zero_le _) (Nat.zero_le _) rfl ?_
          refine z_if_eq 75 dX8_scanOne_67 (by decide) (fun c67 => ?_) (fun c67 => ?_)
          · have hf := zifp hf c67
            refine z_iload_n dX8_scanOne_75 rfl ?_
            obtain ⟨x7, s8, q9, hf⟩ := zbn_of hf
            refine z_cS (as := [_]) hok dX8_scanOne_76 kX8_68 (tX8_isNameByte hok (d - 1) (by omega) N x1  q9) rfl rfl (by omega) (Nat.le_of_ble_eq_true rfl) (Nat.zero_le _) (Nat.zero_le _) rfl ?_
            refine z_if_eq 93 dX8_scanOne_79 (by decide) (fun c79 => ?_) (fun c79 => ?_)
            · have hf := zifp hf c79
              refine z_mask (ls' := [_, _]) [true, true] rfl ?_
              exact tX8_scanOne_J93 hok d (by omega) N   x1 hf
            · have hf := zifn hf c79
              refine z_iload_n dX8_scanOne_82 rfl ?_
              refine z_bipush 36 dX8_scanOne_83 (by decide +kernel) ?_
              refine z_icmp_eq 93 dX8_scanOne_85 (by decide) (fun c85 => ?_) (fun c85 => ?_)
              · have hf := zifp hf c85
                refine z_mask (ls' := [_, _]) [true, true] rfl ?_
                exact tX8_scanOne_J93 hok d (by omega) N   x1 hf
              · have hf := zifn hf c85
                refine z_aload_n dX8_scanOne_88 rfl ?_
                obtain ⟨x19, s20, q21, hf⟩ := zbn_of hf
                refine z_cV (as := []) hok dX8_scanOne_89 kX8_71 (tX8_scanName hok (d - 1) (by omega) N   q21) rfl (at_Words s8) rfl rfl (by omega) (Nat.le_of_ble_eq_true rfl) (Nat.zero_le _) (Nat.zero_le _) rfl ?_
                cases hf
                exact z_iret rfl dX8_scanOne_92 (Nat.zero_le _) (Nat.zero_le _) ⟨rfl, rfl⟩
          · have hf := zifn hf c67
            refine z_aload_n dX8_scanOne_70 rfl ?_
            obtain ⟨x22, s23, q24, hf⟩ := zbn_of hf
            refine z_cV (as := []) hok dX8_scanOne_71 kX8_65 (tX8_scanNumber hok (d - 1) (by omega) N   q24) rfl (at_Words s5) rfl rfl (by omega) (Nat.le_of_ble_eq_true rfl) (Nat.zero_le _) (Nat.zero_le _) rfl ?_
            cases hf
            exact z_iret rfl dX8_scanOne_74 (Nat.zero_le _) (Nat.zero_le _) ⟨rfl, rfl⟩
        · have hf := zifp hf c55
          refine z_aload_n dX8_scanOne_58 rfl ?_
          obtain ⟨x25, s26, q27, hf⟩ := zbn_of hf
          refine z_cV (as := []) hok dX8_scanOne_59 kX8_58 (tX8_scanComment hok (d - 1) (by omega) N   q27) rfl (at_Words s2) rfl rfl (by omega) (Nat.le_of_ble_eq_true rfl) (Nat.zero_le _) (Nat.zero_le _) rfl ?_
          cases hf
          exact z_iret rfl dX8_scanOne_62 (Nat.zero_le _) (Nat.zero_le _) ⟨rfl, rfl⟩
      · have hf := zifp hf c37
        refine z_aload_n dX8_scanOne_40 rfl ?_
        refine z_dup dX8_scanOne_41 rfl ?_
        refine z_getf dX8_scanOne_42 fX8_31 (at_Words s2) rfl ?_
        refine z_iconst 1 dX8_scanOne_45 (by decide +kernel) ?_
        refine z_iadd dX8_scanOne_46 ?_
        refine z_putf dX8_scanOne_47 fX8_31 wX8_4 (at_Words s2) (Nat.le_of_ble_eq_true rfl) (fun _ => rfl) (fun _ => rfl) (st_Words_4 s2 ((s2.1 404) + 1)) ?_
        refine z_iconst 0 dX8_scanOne_50 (by decide +kernel) ?_
        cases hf
        exact z_iret rfl dX8_scanOne_51 (Nat.zero_le _) (Nat.zero_le _) ⟨rfl, rfl⟩
    · have hf := zifp hf c18
      refine z_aload_n dX8_scanOne_21 rfl ?_
      refine z_dup dX8_scanOne_22 rfl ?_
      refine z_getf dX8_scanOne_23 fX8_31 (at_Words s2) rfl ?_
      refine z_iconst 1 dX8_scanOne_26 (by decide +kernel) ?_
      refine z_iadd dX8_scanOne_27 ?_
      refine z_putf dX8_scanOne_28 fX8_31 wX8_4 (at_Words s2) (Nat.le_of_ble_eq_true rfl) (fun _ => rfl) (fun _ => rfl) (st_Words_4 s2 ((s2.1 404) + 1)) ?_
      refine z_bipush 25 dX8_scanOne_31 (by decide +kernel) ?_
      cases hf
      exact z_iret rfl dX8_scanOne_33 (Nat.zero_le _) (Nat.zero_le _) ⟨rfl, rfl⟩

noncomputable def fX8_addWord (N : Nat) (p0 : Int32) (p1 : Int32) (p2 : Int32) (s : zS) : Option (Unit × zS) := zbn (fX6_addRow N 6 s) (fun x1 s2 => zbn (fX6_setCell N 6 x1 0 p0 s2) (fun x4 s5 => zbn (fX6_setCell N 6 x1 1 p1 s5) (fun x7 s8 => zbn (fX6_setCell N 6 x1 2 p2 s8) (fun x10 s11 => some ((), s11)))))
set_option maxHeartbeats 400000 in
set_option maxRecDepth 100000 in
theorem tX8_addWord {g : zGl} (hok : zGok g) (d : Nat) (hd : 1 ≤ d) (N : Nat) (p0 : Int32) (p1 : Int32) (p2 : Int32)  {s s' : zS} {w : Unit} (hf : fX8_addWord N p0 p1 p2 s = some (w, s')) : zMet g mX8_addWord d 0 0 [.ref 4, .int p0, .int p1, .int p2] (zHp s) (zret none (zHp s')) := by
  refine zMet.ofW (by decide +kernel) (Nat.le_of_ble_eq_true rfl) ?_
  show zW g mX8_addWord d 0 0 51 _ 0 0 (zHp s) [some (.ref 4), some (.int p0), some (.int p1), some (.int p2), none] [] 0
  unfold fX8_addWord at hf
  refine z_aload_n dX8_addWord_0 rfl ?_
  refine z_getf dX8_addWord_1 fX8_20 (at_Words s) rfl ?_
  obtain ⟨x1, s2, q3, hf⟩ := zbn_of hf
  refine z_cV (as := []) hok dX8_addWord_4 kX8_48 (tX6_addRow hok (d - 1) N 6 (by decide) q3) rfl (at_Table s 6 (by decide)) rfl rfl (by omega) (Nat.le_of_ble_eq_true rfl) (Nat.zero_le _) (Nat.zero_le _) rfl ?_
  refine z_istore (ls' := [_, _, _, _, _]) dX8_addWord_7 (by decide) rfl ?_
  refine z_aload_n dX8_addWord_9 rfl ?_
  refine z_getf dX8_addWord_10 fX8_20 (at_Words s2) rfl ?_
  refine z_iload dX8_addWord_13 rfl ?_
  refine z_iconst 0 dX8_addWord_15 (by decide +kernel) ?_
  refine z_iload_n dX8_addWord_16 rfl ?_
  obtain ⟨x4, s5, q6, hf⟩ := zbn_of hf
  refine z_cV (as := [_, _, _]) hok dX8_addWord_17 kX8_51 (tX6_setCell hok (d - 1) N 6 x1 0 p0 (by decide) q6) rfl (at_Table s2 6 (by decide)) rfl rfl (by omega) (Nat.le_of_ble_eq_true rfl) (Nat.zero_le _) (Nat.zero_le _) rfl ?_
  refine z_aload_n dX8_addWord_20 rfl ?_
  refine z_getf dX8_addWord_21 fX8_20 (at_Words s5) rfl ?_
  refine z_iload dX8_addWord_24 rfl ?_
  refine z_iconst 1 dX8_addWord_26 (by decide +kernel) ?_
  refine z_iload_n dX8_addWord_27 rfl ?_
  obtain ⟨x7, s8, q9, hf⟩ := zbn_of hf
  refine z_cV (as := [_, _, _]) hok dX8_addWord_28 kX8_51 (tX6_setCell hok (d - 1) N 6 x1 1 p1 (by decide) q9) rfl (at_Table s5 6 (by decide)) rfl rfl (by omega) (Nat.le_of_ble_eq_true rfl) (Nat.zero_le _) (Nat.zero_le _) rfl ?_
  refine z_aload_n dX8_addWord_31 rfl ?_
  refine z_getf dX8_addWord_32 fX8_20 (at_Words s8) rfl ?_
  refine z_iload dX8_addWord_35 rfl ?_
  refine z_iconst 2 dX8_addWord_37 (by decide +kernel) ?_
  refine z_iload_n dX8_addWord_38 rfl ?_
  obtain ⟨x10, s11, q12, hf⟩ := zbn_of hf
  refine z_cV (as := [_, _, _]) hok dX8_addWord_39 kX8_51 (tX6_setCell hok (d - 1) N 6 x1 2 p2 (by decide) q12) rfl (at_Table s8 6 (by decide)) rfl rfl (by omega) (Nat.le_of_ble_eq_true rfl) (Nat.zero_le _) (Nat.zero_le _) rfl ?_
  cases hf
  exact z_vret rfl dX8_addWord_42 (Nat.zero_le _) (Nat.zero_le _) ⟨rfl, rfl⟩

noncomputable def fX8_scan_L31S (N : Nat)  (rec : Int32 → Int32 → zS → Option ((Unit × zS) ⊕ (Int32 × zS))) (v1 : Int32) (v2 : Int32) (s : zS) : Option ((Unit × zS) ⊕ (Int32 × zS)) := if 3000 ≤ v2 then some (.inr (v1, s)) else if (s.1 403) ≤ (s.1 404) then some (.inr (v1, s)) else if v1 = 24 then some (.inr (v1, s)) else zbn (fX8_scanOne N  (zsc s 405 0)) (fun x1 s2 => if x1 = 25 then rec x1 (v2 + 1) s2 else zbn (fX8_addWord N x1 (s.1 404) (s2.1 405) s2) (fun x4 s5 => rec x1 (v2 + 1) s5))
noncomputable def fX8_scan_L31 (N : Nat)  (n : Nat) : Int32 → Int32 → zS → Option ((Unit × zS) ⊕ (Int32 × zS)) := Nat.rec (motive := fun _ => Int32 → Int32 → zS → Option ((Unit × zS) ⊕ (Int32 × zS))) (fun _ _ _ => none) (fun _ rec => fX8_scan_L31S N  rec) n
set_option maxHeartbeats 400000 in
set_option maxRecDepth 100000 in
theorem tX8_scan_L31 {g : zGl} (hok : zGok g) (d : Nat) (hd : 5 ≤ d) (N : Nat)   {mc ms n0 : Nat} {Q : zO → List zE → Prop} (n : Nat) : ∀ (v1 : Int32) (v2 : Int32) (s : zS) (r : (Unit × zS) ⊕ (Int32 × zS)) (hf : fX8_scan_L31 N  n v1 v2 s = some r) (k1 : ∀ w s', r = .inl (w, s') → Q (.inl none) (zHp s')) (k2 : ∀ (y1 : Int32) (s' : zS), r = .inr (y1, s') → zW g mX8_scan d mc ms n0 Q 0 0 (zHp s') [some (.ref 4), some (.int y1), none, none] [] 92), zW g mX8_scan d mc ms n0 Q 0 0 (zHp s) [some (.ref 4), some (.int v1), some (.int v2), none] [] 31 := by
  induction n with
  | zero => intro v1 v2 s r hf; cases hf
  | succ n ih =>
    intro v1 v2 s r hf k1 k2
    have hrec : ∀ (v1 : Int32) (v2 : Int32) (s : zS) (r1 : (Unit × zS) ⊕ (Int32 × zS)), fX8_scan_L31 N  n v1 v2 s = some r1 → r1 = r → zW g mX8_scan d mc ms n0 Q 0 0 (zHp s) [some (.ref 4), some (.int v1), some (.int v2), none] [] 31 := fun v1 v2 s r1 h e => ih v1 v2 s r1 h (by subst e; exact k1) (by subst e; exact k2)
    have hrec : ∀ (v1 : Int32) (v2 : Int32) (s : zS), fX8_scan_L31 N  n v1 v2 s = some r → zW g mX8_scan d mc ms n0 Q 0 0 (zHp s) [some (.ref 4), some (.int v1), some (.int v2), none] [] 31 := fun v1 v2 s h => hrec v1 v2 s r h rfl
    have hf : fX8_scan_L31S N  (fX8_scan_L31 N  n) v1 v2 s = some r := hf
    unfold fX8_scan_L31S at hf
    refine z_iload_n dX8_scan_31 rfl ?_
    refine z_sipush 3000 dX8_scan_32 (by decide +kernel) ?_
    refine z_icmp_ge 92 dX8_scan_35 (by decide) (fun c35 => ?_) (fun c35 => ?_)
    · have hf := zifp hf c35
      cases hf
      refine z_mask (ls' := [_, _, _, _]) [true, true, false, false] rfl ?_
      exact k2 _ _ rfl
    · have hf := zifn hf c35
      refine z_aload_n dX8_scan_38 rfl ?_
      refine z_getf dX8_scan_39 fX8_31 (at_Words s) rfl ?_
      refine z_aload_n dX8_scan_42 rfl ?_
      refine z_getf dX8_scan_43 fX8_28 (at_Words s) rfl ?_
      refine z_icmp_ge 92 dX8_scan_46 (by decide) (fun c46 => ?_) (fun c46 => ?_)
      · have hf := zifp hf c46
        cases hf
        refine z_mask (ls' := [_, _, _, _]) [true, true, false, false] rfl ?_
        exact k2 _ _ rfl
      · have hf := zifn hf c46
        refine z_iload_n dX8_scan_49 rfl ?_
        refine z_bipush 24 dX8_scan_50 (by decide +kernel) ?_
        refine z_icmp_eq 92 dX8_scan_52 (by decide) (fun c52 => ?_) (fun c52 => ?_)
        · have hf := zifp hf c52
          cases hf
          refine z_mask (ls' := [_, _, _, _]) [true, true, false, false] rfl ?_
          exact k2 _ _ rfl
        · have hf := zifn hf c52
          refine z_aload_n dX8_scan_55 rfl ?_
          refine z_getf dX8_scan_56 fX8_31 (at_Words s) rfl ?_
          refine z_istore_n (ls' := [_, _, _, _]) dX8_scan_59 (by decide) rfl ?_
          refine z_aload_n dX8_scan_60 rfl ?_
          refine z_iconst 0 dX8_scan_61 (by decide +kernel) ?_
          refine z_putf dX8_scan_62 fX8_37 wX8_5 (at_Words s) (Nat.le_of_ble_eq_true rfl) (fun _ => rfl) (fun _ => rfl) (st_Words_5 s 0) ?_
          refine z_aload_n dX8_scan_65 rfl ?_
          obtain ⟨x1, s2, q3, hf⟩ := zbn_of hf
          refine z_cV (as := []) hok dX8_scan_66 kX8_40 (tX8_scanOne hok (d - 1) (by omega) N   q3) rfl (at_Words (zsc s 405 0)) rfl rfl (by omega) (Nat.le_of_ble_eq_true rfl) (Nat.zero_le _) (Nat.zero_le _) rfl ?_
          refine z_istore_n (ls' := [_, _, _, _]) dX8_scan_69 (by decide) rfl ?_
          refine z_iload_n dX8_scan_70 rfl ?_
          refine z_bipush 25 dX8_scan_71 (by decide +kernel) ?_
          refine z_icmp_eq 86 dX8_scan_73 (by decide) (fun c73 => ?_) (fun c73 => ?_)
          · have hf := zifp hf c73
            refine z_iinc (ls' := [_, _, _, _]) (v2 + 1) dX8_scan_86 rfl rfl (by decide) rfl ?_
            refine z_goto 31 dX8_scan_89 (by decide) ?_
            refine z_mask (ls' := [_, _, _, _]) [true, true, true, false] rfl ?_
            exact hrec x1 (v2 + 1) s2 hf
          · have hf := zifn hf c73
            refine z_aload_n dX8_scan_76 rfl ?_
            refine z_iload_n dX8_scan_77 rfl ?_
            refine z_iload_n dX8_scan_78 rfl ?_
            refine z_aload_n dX8_scan_79 rfl ?_
            refine z_getf dX8_scan_80 fX8_37 (at_Words s2) rfl ?_
            obtain ⟨x4, s5, q6, hf⟩ := zbn_of hf
            refine z_cV (as := [_, _, _]) hok dX8_scan_83 kX8_44 (tX8_addWord hok (d - 1) (by omega) N x1 (s.1 404) (s2.1 405)  q6) rfl (at_Words s2) rfl rfl (by omega) (Nat.le_of_ble_eq_true rfl) (Nat.zero_le _) (Nat.zero_le _) rfl ?_
            refine z_iinc (ls' := [_, _, _, _]) (v2 + 1) dX8_scan_86 rfl rfl (by decide) rfl ?_
            refine z_goto 31 dX8_scan_89 (by decide) ?_
            refine z_mask (ls' := [_, _, _, _]) [true, true, true, false] rfl ?_
            exact hrec x1 (v2 + 1) s5 hf
noncomputable def fX8_scan (N : Nat)  (s : zS) : Option (Unit × zS) := zbl (fX8_scan_L31 N  N 25 0 (zsc (zsc (zsc (zsc s 403 (s.1 402)) 402 0) 404 0) 603 0)) (fun x => some x) (fun lq7 => match lq7 with | (y10, s11) => if y10 = 24 then some ((), s11) else zbn (fX8_addWord N 0 (s11.1 403) 0 s11) (fun x12 s13 => some ((), s13)))
set_option maxHeartbeats 400000 in
set_option maxRecDepth 100000 in
theorem tX8_scan {g : zGl} (hok : zGok g) (d : Nat) (hd : 5 ≤ d) (N : Nat)   {s s' : zS} {w : Unit} (hf : fX8_scan N  s = some (w, s')) : zMet g mX8_scan d 0 0 [.ref 4] (zHp s) (zret none (zHp s')) := by
  refine zMet.ofW (by decide +kernel) (Nat.le_of_ble_eq_true rfl) ?_
  show zW g mX8_scan d 0 0 51 _ 0 0 (zHp s) [some (.ref 4), none, none, none] [] 0
  unfold fX8_scan at hf
  refine z_aload_n dX8_scan_0 rfl ?_
  refine z_aload_n dX8_scan_1 rfl ?_
  refine z_getf dX8_scan_2 fX8_24 (at_Words s) rfl ?_
  refine z_putf dX8_scan_5 fX8_28 wX8_3 (at_Words s) (Nat.le_of_ble_eq_true rfl) (fun _ => rfl) (fun _ => rfl) (st_Words_3 s (s.1 402)) ?_
  refine z_aload_n dX8_scan_8 rfl ?_
  refine z_iconst 0 dX8_scan_9 (by decide +kernel) ?_
  refine z_putf dX8_scan_10 fX8_24 wX8_2 (at_Words (zsc s 403 (s.1 402))) (Nat.le_of_ble_eq_true rfl) (fun _ => rfl) (fun _ => rfl) (st_Words_2 (zsc s 403 (s.1 402)) 0) ?_
  refine z_aload_n dX8_scan_13 rfl ?_
  refine z_iconst 0 dX8_scan_14 (by decide +kernel) ?_
  refine z_putf dX8_scan_15 fX8_31 wX8_4 (at_Words (zsc (zsc s 403 (s.1 402)) 402 0)) (Nat.le_of_ble_eq_true rfl) (fun _ => rfl) (fun _ => rfl) (st_Words_4 (zsc (zsc s 403 (s.1 402)) 402 0) 0) ?_
  refine z_aload_n dX8_scan_18 rfl ?_
  refine z_getf dX8_scan_19 fX8_20 (at_Words (zsc (zsc (zsc s 403 (s.1 402)) 402 0) 404 0)) rfl ?_
  refine z_iconst 0 dX8_scan_22 (by decide +kernel) ?_
  refine z_putN hok dX8_scan_23 fX8_34 wX6_3 (at_Table (zsc (zsc (zsc s 403 (s.1 402)) 402 0) 404 0) 6 (by decide)) (Nat.le_of_ble_eq_true rfl) (fun _ => rfl) (fun _ => rfl) (st_Table_3 (zsc (zsc (zsc s 403 (s.1 402)) 402 0) 404 0) 6 (by decide) 0) ?_
  refine z_bipush 25 dX8_scan_26 (by decide +kernel) ?_
  refine z_istore_n (ls' := [_, _, _, _]) dX8_scan_28 (by decide) rfl ?_
  refine z_iconst 0 dX8_scan_29 (by decide +kernel) ?_
  refine z_istore_n (ls' := [_, _, _, _]) dX8_scan_30 (by decide) rfl ?_
  refine z_mask (ls' := [_, _, _, _]) [true, true, true, false] rfl ?_
  rcases zbl_of hf with ⟨lr8, le9, hf⟩ | ⟨lr8, le9, hf⟩
  · cases hf
    exact tX8_scan_L31 hok d (by omega) N   N 25 0 (zsc (zsc (zsc (zsc s 403 (s.1 402)) 402 0) 404 0) 603 0) _ le9 (fun w1 s1 hh => by cases hh; exact ⟨rfl, rfl⟩) (fun _ _ hh => by cases hh)
  · obtain ⟨y10, s11⟩ := lr8
    refine tX8_scan_L31 hok d (by omega) N   N 25 0 (zsc (zsc (zsc (zsc s 403 (s.1 402)) 402 0) 404 0) 603 0) _ le9 (fun w1 s1 hh => by cases hh) (fun _ _ hh => ?_)
    cases hh
    refine z_iload_n dX8_scan_92 rfl ?_
    refine z_bipush 24 dX8_scan_93 (by decide +kernel) ?_
    refine z_icmp_eq 108 dX8_scan_95 (by decide) (fun c95 => ?_) (fun c95 => ?_)
    · have hf := zifp hf c95
      cases hf
      exact z_vret rfl dX8_scan_108 (Nat.zero_le _) (Nat.zero_le _) ⟨rfl, rfl⟩
    · have hf := zifn hf c95
      refine z_aload_n dX8_scan_98 rfl ?_
      refine z_iconst 0 dX8_scan_99 (by decide +kernel) ?_
      refine z_aload_n dX8_scan_100 rfl ?_
      refine z_getf dX8_scan_101 fX8_28 (at_Words s11) rfl ?_
      refine z_iconst 0 dX8_scan_104 (by decide +kernel) ?_
      obtain ⟨x12, s13, q14, hf⟩ := zbn_of hf
      refine z_cV (as := [_, _, _]) hok dX8_scan_105 kX8_44 (tX8_addWord hok (d - 1) (by omega) N 0 (s11.1 403) 0  q14) rfl (at_Words s11) rfl rfl (by omega) (Nat.le_of_ble_eq_true rfl) (Nat.zero_le _) (Nat.zero_le _) rfl ?_
      cases hf
      exact z_vret rfl dX8_scan_108 (Nat.zero_le _) (Nat.zero_le _) ⟨rfl, rfl⟩

noncomputable def fX8_kindOf (N : Nat) (p0 : Int32) (s : zS) : Option (Int32 × zS) := zbn (fX6_cell N 6 p0 0 0 s) (fun x1 s2 => some (x1, s2))
set_option maxHeartbeats 400000 in
set_option maxRecDepth 100000 in
theorem tX8_kindOf {g : zGl} (hok : zGok g) (d : Nat) (hd : 1 ≤ d) (N : Nat) (p0 : Int32)  {s s' : zS} {w : Int32} (hf : fX8_kindOf N p0 s = some (w, s')) : zMet g mX8_kindOf d 0 0 [.ref 4, .int p0] (zHp s) (zret (some (.int w)) (zHp s')) := by
  refine zMet.ofW (by decide +kernel) (Nat.le_of_ble_eq_true rfl) ?_
  show zW g mX8_kindOf d 0 0 51 _ 0 0 (zHp s) [some (.ref 4), some (.int p0)] [] 0
  unfold fX8_kindOf at hf
  refine z_aload_n dX8_kindOf_0 rfl ?_
  refine z_getf dX8_kindOf_1 fX8_20 (at_Words s) rfl ?_
  refine z_iload_n dX8_kindOf_4 rfl ?_
  refine z_iconst 0 dX8_kindOf_5 (by decide +kernel) ?_
  refine z_iconst 0 dX8_kindOf_6 (by decide +kernel) ?_
  obtain ⟨x1, s2, q3, hf⟩ := zbn_of hf
  refine z_cV (as := [_, _, _]) hok dX8_kindOf_7 kX8_118 (tX6_cell hok (d - 1) N 6 p0 0 0 (by decide) q3) rfl (at_Table s 6 (by decide)) rfl rfl (by omega) (Nat.le_of_ble_eq_true rfl) (Nat.zero_le _) (Nat.zero_le _) rfl ?_
  cases hf
  exact z_iret rfl dX8_kindOf_10 (Nat.zero_le _) (Nat.zero_le _) ⟨rfl, rfl⟩

noncomputable def fX8_placeOf (N : Nat) (p0 : Int32) (s : zS) : Option (Int32 × zS) := zbn (fX6_cell N 6 p0 1 (s.1 403) s) (fun x1 s2 => some (x1, s2))
set_option maxHeartbeats 400000 in
set_option maxRecDepth 100000 in
theorem tX8_placeOf {g : zGl} (hok : zGok g) (d : Nat) (hd : 1 ≤ d) (N : Nat) (p0 : Int32)  {s s' : zS} {w : Int32} (hf : fX8_placeOf N p0 s = some (w, s')) : zMet g mX8_placeOf d 0 0 [.ref 4, .int p0] (zHp s) (zret (some (.int w)) (zHp s')) := by
  refine zMet.ofW (by decide +kernel) (Nat.le_of_ble_eq_true rfl) ?_
  show zW g mX8_placeOf d 0 0 51 _ 0 0 (zHp s) [some (.ref 4), some (.int p0)] [] 0
  unfold fX8_placeOf at hf
  refine z_aload_n dX8_placeOf_0 rfl ?_
  refine z_getf dX8_placeOf_1 fX8_20 (at_Words s) rfl ?_
  refine z_iload_n dX8_placeOf_4 rfl ?_
  refine z_iconst 1 dX8_placeOf_5 (by decide +kernel) ?_
  refine z_aload_n dX8_placeOf_6 rfl ?_
  refine z_getf dX8_placeOf_7 fX8_28 (at_Words s) rfl ?_
  obtain ⟨x1, s2, q3, hf⟩ := zbn_of hf
  refine z_cV (as := [_, _, _]) hok dX8_placeOf_10 kX8_118 (tX6_cell hok (d - 1) N 6 p0 1 (s.1 403) (by decide) q3) rfl (at_Table s 6 (by decide)) rfl rfl (by omega) (Nat.le_of_ble_eq_true rfl) (Nat.zero_le _) (Nat.zero_le _) rfl ?_
  cases hf
  exact z_iret rfl dX8_placeOf_13 (Nat.zero_le _) (Nat.zero_le _) ⟨rfl, rfl⟩

noncomputable def fX8_valueOf (N : Nat) (p0 : Int32) (s : zS) : Option (Int32 × zS) := zbn (fX6_cell N 6 p0 2 0 s) (fun x1 s2 => some (x1, s2))
set_option maxHeartbeats 400000 in
set_option maxRecDepth 100000 in
theorem tX8_valueOf {g : zGl} (hok : zGok g) (d : Nat) (hd : 1 ≤ d) (N : Nat) (p0 : Int32)  {s s' : zS} {w : Int32} (hf : fX8_valueOf N p0 s = some (w, s')) : zMet g mX8_valueOf d 0 0 [.ref 4, .int p0] (zHp s) (zret (some (.int w)) (zHp s')) := by
  refine zMet.ofW (by decide +kernel) (Nat.le_of_ble_eq_true rfl) ?_
  show zW g mX8_valueOf d 0 0 51 _ 0 0 (zHp s) [some (.ref 4), some (.int p0)] [] 0
  unfold fX8_valueOf at hf
  refine z_aload_n dX8_valueOf_0 rfl ?_
  refine z_getf dX8_valueOf_1 fX8_20 (at_Words s) rfl ?_
  refine z_iload_n dX8_valueOf_4 rfl ?_
  refine z_iconst 2 dX8_valueOf_5 (by decide +kernel) ?_
  refine z_iconst 0 dX8_valueOf_6 (by decide +kernel) ?_
  obtain ⟨x1, s2, q3, hf⟩ := zbn_of hf
  refine z_cV (as := [_, _, _]) hok dX8_valueOf_7 kX8_118 (tX6_cell hok (d - 1) N 6 p0 2 0 (by decide) q3) rfl (at_Table s 6 (by decide)) rfl rfl (by omega) (Nat.le_of_ble_eq_true rfl) (Nat.zero_le _) (Nat.zero_le _) rfl ?_
  cases hf
  exact z_iret rfl dX8_valueOf_10 (Nat.zero_le _) (Nat.zero_le _) ⟨rfl, rfl⟩

noncomputable def fX8_size (N : Nat)  (s : zS) : Option (Int32 × zS) := some (s.1 603, s)
set_option maxHeartbeats 400000 in
set_option maxRecDepth 100000 in
theorem tX8_size {g : zGl} (hok : zGok g) (d : Nat)  (N : Nat)   {s s' : zS} {w : Int32} (hf : fX8_size N  s = some (w, s')) : zMet g mX8_size d 0 0 [.ref 4] (zHp s) (zret (some (.int w)) (zHp s')) := by
  refine zMet.ofW (by decide +kernel) (Nat.le_of_ble_eq_true rfl) ?_
  show zW g mX8_size d 0 0 51 _ 0 0 (zHp s) [some (.ref 4)] [] 0
  unfold fX8_size at hf
  refine z_aload_n dX8_size_0 rfl ?_
  refine z_getf dX8_size_1 fX8_20 (at_Words s) rfl ?_
  refine z_getN hok dX8_size_4 fX8_34 (at_Table s 6 (by decide)) rfl ?_
  cases hf
  exact z_iret rfl dX8_size_7 (Nat.zero_le _) (Nat.zero_le _) ⟨rfl, rfl⟩

noncomputable def fX4_join (N : Nat) (p0 : Int32) (p1 : Int32) (p2 : Int32) (s : zS) : Option (Int64 × zS) := if p0 = 12 then some ((p1 + p2).toInt64, s) else if p0 = 13 then some ((p1 - p2).toInt64, s) else if p0 = 14 then some ((p1 * p2).toInt64, s) else if p0 = 15 then if p2 = 0 then some (1099511627776, s) else if ¬ p2 = 0 then some ((p1 / p2).toInt64, s) else none else if p0 = 16 then if p2 = 0 then some (1099511627776, s) else if ¬ p2 = 0 then some ((p1 - p1 / p2 * p2).toInt64, s) else none else if p0 = 17 then some ((p1 <<< ((p2 &&& 31) &&& 31)).toInt64, s) else if p0 = 18 then some (((p1.toUInt32 >>> ((p2 &&& 31).toUInt32 &&& Int32.toUInt32 31)).toInt32).toInt64, s) else if p0 = 19 then some ((p1 &&& p2).toInt64, s) else if p0 = 20 then some ((p1 ^^^ p2).toInt64, s) else some ((p1 ||| p2).toInt64, s)
set_option maxHeartbeats 400000 in
set_option maxRecDepth 100000 in
theorem tX4_join {g : zGl} (hok : zGok g) (d : Nat)  (N : Nat) (p0 : Int32) (p1 : Int32) (p2 : Int32)  {s s' : zS} {w : Int64} (hf : fX4_join N p0 p1 p2 s = some (w, s')) : zMet g mX4_join d 0 0 [.int p0, .int p1, .int p2] (zHp s) (zret (some (.long w)) (zHp s')) := by
  refine zMet.ofW (by decide +kernel) (Nat.le_of_ble_eq_true rfl) ?_
  show zW g mX4_join d 0 0 51 _ 0 0 (zHp s) [some (.int p0), some (.int p1), some (.int p2)] [] 0
  unfold fX4_join at hf
  refine z_iload_n dX4_join_0 rfl ?_
  refine z_tab [(12, 52), (13, 57), (14, 62), (15, 67), (16, 82), (17, 97), (18, 105), (19, 113), (20, 118)] 123 dX4_join_1 (by decide +kernel) (by decide +kernel) (by decide +kernel) (by decide +kernel) ?_
  refine z_selc (fun c1_0 => ?_) (fun c1_0 => ?_)
  · have hf := zifp hf c1_0
    refine z_iload_n dX4_join_52 rfl ?_
    refine z_iload_n dX4_join_53 rfl ?_
    refine z_iadd dX4_join_54 ?_
    refine z_i2l dX4_join_55 ?_
    cases hf
    exact z_lret rfl dX4_join_56 (Nat.zero_le _) (Nat.zero_le _) ⟨rfl, rfl⟩
  · have hf := zifn hf c1_0
    refine z_selc (fun c1_1 => ?_) (fun c1_1 => ?_)
    · have hf := zifp hf c1_1
      refine z_iload_n dX4_join_57 rfl ?_
      refine z_iload_n dX4_join_58 rfl ?_
      refine z_isub dX4_join_59 ?_
      refine z_i2l dX4_join_60 ?_
      cases hf
      exact z_lret rfl dX4_join_61 (Nat.zero_le _) (Nat.zero_le _) ⟨rfl, rfl⟩
    · have hf := zifn hf c1_1
      refine z_selc (fun c1_2 => ?_) (fun c1_2 => ?_)
      · have hf := zifp hf c1_2
        refine z_iload_n dX4_join_62 rfl ?_
        refine z_iload_n dX4_join_63 rfl ?_
        refine z_imul dX4_join_64 ?_
        refine z_i2l dX4_join_65 ?_
        cases hf
        exact z_lret rfl dX4_join_66 (Nat.zero_le _) (Nat.zero_le _) ⟨rfl, rfl⟩
      · have hf := zifn hf c1_2
        refine z_selc (fun c1_3 => ?_) (fun c1_3 => ?_)
        · have hf := zifp hf c1_3
          refine z_iload_n dX4_join_67 rfl ?_
          refine z_if_ne 77 dX4_join_68 (by decide) (fun c68 => ?_) (fun c68 => ?_)
          · have hf := zifn hf c68
            refine z_iload_n dX4_join_77 rfl ?_
            refine z_iload_n dX4_join_78 rfl ?_
            obtain ⟨nz1, hf⟩ := zifs hf
            refine z_idiv dX4_join_79 nz1 ?_
            refine z_i2l dX4_join_80 ?_
            cases hf
            exact z_lret rfl dX4_join_81 (Nat.zero_le _) (Nat.zero_le _) ⟨rfl, rfl⟩
          · have hf := zifp hf c68
            refine z_ldc2 dX4_join_71 lX4_43 ?_
            refine z_goto 81 dX4_join_74 (by decide) ?_
            cases hf
            exact z_lret rfl dX4_join_81 (Nat.zero_le _) (Nat.zero_le _) ⟨rfl, rfl⟩
        · have hf := zifn hf c1_3
          refine z_selc (fun c1_4 => ?_) (fun c1_4 => ?_)
          · have hf := zifp hf c1_4
            refine z_iload_n dX4_join_82 rfl ?_
            refine z_if_ne 92 dX4_join_83 (by decide) (fun c83 => ?_) (fun c83 => ?_)
            · have hf := zifn hf c83
              refine z_iload_n dX4_join_92 rfl ?_
              refine z_iload_n dX4_join_93 rfl ?_
              obtain ⟨nz2, hf⟩ := zifs hf
              refine z_irem dX4_join_94 nz2 ?_
              refine z_i2l dX4_join_95 ?_
              cases hf
              exact z_lret rfl dX4_join_96 (Nat.zero_le _) (Nat.zero_le _) ⟨rfl, rfl⟩
            · have hf := zifp hf c83
              refine z_ldc2 dX4_join_86 lX4_43 ?_
              refine z_goto 96 dX4_join_89 (by decide) ?_
              cases hf
              exact z_lret rfl dX4_join_96 (Nat.zero_le _) (Nat.zero_le _) ⟨rfl, rfl⟩
          · have hf := zifn hf c1_4
            refine z_selc (fun c1_5 => ?_) (fun c1_5 => ?_)
            · have hf := zifp hf c1_5
              refine z_iload_n dX4_join_97 rfl ?_
              refine z_iload_n dX4_join_98 rfl ?_
              refine z_bipush 31 dX4_join_99 (by decide +kernel) ?_
              refine z_iand dX4_join_101 ?_
              refine z_ishl dX4_join_102 ?_
              refine z_i2l dX4_join_103 ?_
              cases hf
              exact z_lret rfl dX4_join_104 (Nat.zero_le _) (Nat.zero_le _) ⟨rfl, rfl⟩
            · have hf := zifn hf c1_5
              refine z_selc (fun c1_6 => ?_) (fun c1_6 => ?_)
              · have hf := zifp hf c1_6
                refine z_iload_n dX4_join_105 rfl ?_
                refine z_iload_n dX4_join_106 rfl ?_
                refine z_bipush 31 dX4_join_107 (by decide +kernel) ?_
                refine z_iand dX4_join_109 ?_
                refine z_iushr dX4_join_110 ?_
                refine z_i2l dX4_join_111 ?_
                cases hf
                exact z_lret rfl dX4_join_112 (Nat.zero_le _) (Nat.zero_le _) ⟨rfl, rfl⟩
              · have hf := zifn hf c1_6
                refine z_selc (fun c1_7 => ?_) (fun c1_7 => ?_)
                · have hf := zifp hf c1_7
                  refine z_iload_n dX4_join_113 rfl ?_
                  refine z_iload_n dX4_join_114 rfl ?_
                  refine z_iand dX4_join_115 ?_
                  refine z_i2l dX4_join_116 ?_
                  cases hf
                  exact z_lret rfl dX4_join_117 (Nat.zero_le _) (Nat.zero_le _) ⟨rfl, rfl⟩
                · have hf := zifn hf c1_7
                  refine z_selc (fun c1_8 => ?_) (fun c1_8 => ?_)
                  · have hf := zifp hf c1_8
                    refine z_iload_n dX4_join_118 rfl ?_
                    refine z_iload_n dX4_join_119 rfl ?_
                    refine z_ixor dX4_join_120 ?_
                    refine z_i2l dX4_join_121 ?_
                    cases hf
                    exact z_lret rfl dX4_join_122 (Nat.zero_le _) (Nat.zero_le _) ⟨rfl, rfl⟩
                  · have hf := zifn hf c1_8
                    refine z_seln ?_
                    refine z_iload_n dX4_join_123 rfl ?_
                    refine z_iload_n dX4_join_124 rfl ?_
                    refine z_ior dX4_join_125 ?_
                    refine z_i2l dX4_join_126 ?_
                    cases hf
                    exact z_lret rfl dX4_join_127 (Nat.zero_le _) (Nat.zero_le _) ⟨rfl, rfl⟩

noncomputable def fX4_workOut_J147 (N : Nat) (p0 : Nat) (p1 : Int32) (rec : Int32 → Int32 → Int32 → Int32 → zS → Option ((Int64 × zS) ⊕ (Int32 × zS))) (v3 : Int32) (v4 : Int32) (v5 : Int32) (v6 : Int32) (v7 : Int32) (s : zS) : Option ((Int64 × zS) ⊕ (Int32 × zS)) := zbn (fX1_isTwoSided N v7 s) (fun x13 s14 => if x13 = 0 then some (.inl (1099511627776, s14)) else if v5 < 2 then some (.inl (1099511627776, s14)) else if zga (v5 - 2) (zlen 29) = true then if zga (v5 - 1) (zlen 29) = true then zbn (fX4_join N v7 (s14.2.1 29 (v5 - 2).toNatClampNeg) (s14.2.1 29 (v5 - 1).toNatClampNeg) s14) (fun x18 s19 => if (lg_cmp x18 1099511627776) = 0 then some (.inl (1099511627776, s19)) else if zga ((v5 + (-1)) - 1) (zlen 29) = true then rec v3 v4 (v5 + (-1)) (v6 + 1) (zsr s19 29 ((v5 + (-1)) - 1) x18.toInt32) else none) else none else none)
set_option maxHeartbeats 400000 in
set_option maxRecDepth 100000 in
theorem tX4_workOut_J147 {g : zGl} (hok : zGok g) (d : Nat) (hd : 1 ≤ d) (N : Nat) (p0 : Nat) (p1 : Int32) (hp0 : zBk p0) {mc ms n0 : Nat} {Q : zO → List zE → Prop} (rec : Int32 → Int32 → Int32 → Int32 → zS → Option ((Int64 × zS) ⊕ (Int32 × zS))) (r : (Int64 × zS) ⊕ (Int32 × zS)) (k1 : ∀ w s', r = .inl (w, s') → Q (.inl (some (.long w))) (zHp s')) (k2 : ∀ (y5 : Int32) (s' : zS), r = .inr (y5, s') → zW g mX4_workOut d mc ms n0 Q 0 0 (zHp s') [some (.ref 28), some (.ref p0), some (.int p1), none, none, some (.int y5), none, none, none, none] [] 227) (hrec : ∀ (v3 : Int32) (v4 : Int32) (v5 : Int32) (v6 : Int32) (s : zS), rec v3 v4 v5 v6 s = some r → zW g mX4_workOut d mc ms n0 Q 0 0 (zHp s) [some (.ref 28), some (.ref p0), some (.int p1), some (.int v3), some (.int v4), some (.int v5), some (.int v6), none, none, none] [] 29) (v3 : Int32) (v4 : Int32) (v5 : Int32) (v6 : Int32) (v7 : Int32) (s : zS) (hf : fX4_workOut_J147 N p0 p1 rec v3 v4 v5 v6 v7 s = some r) : zW g mX4_workOut d mc ms n0 Q 0 0 (zHp s) [some (.ref 28), some (.ref p0), some (.int p1), some (.int v3), some (.int v4), some (.int v5), some (.int v6), some (.int v7), none, none] [] 147 := by
  unfold fX4_workOut_J147 at hf
  refine z_iload dX4_workOut_147 rfl ?_
  obtain ⟨x13, s14, q15, hf⟩ := zbn_of hf
  refine z_cS (as := [_]) hok dX4_workOut_149 kX4_36 (tX1_isTwoSided hok (d - 1) N v7  q15) rfl rfl (by omega) (Nat.le_of_ble_eq_true rfl) (Nat.zero_le _) (Nat.zero_le _) rfl ?_
  refine z_if_eq 217 dX4_workOut_152 (by decide) (fun c152 => ?_) (fun c152 => ?_)
  · have hf := zifp hf c152
    refine z_ldc2 dX4_workOut_217 lX4_43 ?_
    cases hf
    exact z_lret rfl dX4_workOut_220 (Nat.zero_le _) (Nat.zero_le _) (k1 _ _ rfl)
  · have hf := zifn hf c152
    refine z_iload dX4_workOut_155 rfl ?_
    refine z_iconst 2 dX4_workOut_157 (by decide +kernel) ?_
    refine z_icmp_lt 217 dX4_workOut_158 (by decide) (fun c158 => ?_) (fun c158 => ?_)
    · have hf := zifp hf c158
      refine z_ldc2 dX4_workOut_217 lX4_43 ?_
      cases hf
      exact z_lret rfl dX4_workOut_220 (Nat.zero_le _) (Nat.zero_le _) (k1 _ _ rfl)
    · have hf := zifn hf c158
      refine z_iload dX4_workOut_161 rfl ?_
      refine z_aload_n dX4_workOut_163 rfl ?_
      refine z_getf dX4_workOut_164 fX4_9 (at_Reckoner s14) rfl ?_
      refine z_iload dX4_workOut_167 rfl ?_
      refine z_iconst 2 dX4_workOut_169 (by decide +kernel) ?_
      refine z_isub dX4_workOut_170 ?_
      obtain ⟨hi16, hf⟩ := zifs hf
      refine z_iald dX4_workOut_171 (at_arr s14 29 (by decide)) (zga_in hi16) ?_
      refine z_aload_n dX4_workOut_172 rfl ?_
      refine z_getf dX4_workOut_173 fX4_9 (at_Reckoner s14) rfl ?_
      refine z_iload dX4_workOut_176 rfl ?_
      refine z_iconst 1 dX4_workOut_178 (by decide +kernel) ?_
      refine z_isub dX4_workOut_179 ?_
      obtain ⟨hi17, hf⟩ := zifs hf
      refine z_iald dX4_workOut_180 (at_arr s14 29 (by decide)) (zga_in hi17) ?_
      obtain ⟨x18, s19, q20, hf⟩ := zbn_of hf
      refine z_cS (as := [_, _, _]) hok dX4_workOut_181 kX4_39 (tX4_join hok (d - 1) N v7 (s14.2.1 29 (v5 - 2).toNatClampNeg) (s14.2.1 29 (v5 - 1).toNatClampNeg)  q20) rfl rfl (by omega) (Nat.le_of_ble_eq_true rfl) (Nat.zero_le _) (Nat.zero_le _) rfl ?_
      refine z_lstore (ls' := [_, _, _, _, _, _, _, _, _, _]) dX4_workOut_184 (by decide) rfl ?_
      refine z_lload dX4_workOut_186 rfl ?_
      refine z_ldc2 dX4_workOut_188 lX4_43 ?_
      refine z_lcmp dX4_workOut_191 ?_
      refine z_if_ne 199 dX4_workOut_192 (by decide) (fun c192 => ?_) (fun c192 => ?_)
      · have hf := zifn hf c192
        refine z_iinc (ls' := [_, _, _, _, _, _, _, _, _, _]) (v5 + (-1)) dX4_workOut_199 rfl rfl (by decide) rfl ?_
        refine z_aload_n dX4_workOut_202 rfl ?_
        refine z_getf dX4_workOut_203 fX4_9 (at_Reckoner s19) rfl ?_
        refine z_iload dX4_workOut_206 rfl ?_
        refine z_iconst 1 dX4_workOut_208 (by decide +kernel) ?_
        refine z_isub dX4_workOut_209 ?_
        refine z_lload dX4_workOut_210 rfl ?_
        refine z_l2i dX4_workOut_212 ?_
        obtain ⟨hi21, hf⟩ := zifs hf
        refine z_iastore dX4_workOut_213 (at_arr s19 29 (by decide)) (zga_in hi21) (st_arr s19 29 (by decide) ((v5 + (-1)) - 1) x18.toInt32) ?_
        refine z_goto 221 dX4_workOut_214 (by decide) ?_
        refine z_iinc (ls' := [_, _, _, _, _, _, _, _, _, _]) (v6 + 1) dX4_workOut_221 rfl rfl (by decide) rfl ?_
        refine z_goto 29 dX4_workOut_224 (by decide) ?_
        refine z_mask (ls' := [_, _, _, _, _, _, _, _, _, _]) [true, true, true, true, true, true, true, false, false, false] rfl ?_
        exact hrec v3 v4 (v5 + (-1)) (v6 + 1) (zsr s19 29 ((v5 + (-1)) - 1) x18.toInt32) hf
      · have hf := zifp hf c192
        refine z_ldc2 dX4_workOut_195 lX4_43 ?_
        cases hf
        exact z_lret rfl dX4_workOut_198 (Nat.zero_le _) (Nat.zero_le _) (k1 _ _ rfl)
noncomputable def fX4_workOut_J90 (N : Nat) (p0 : Nat) (p1 : Int32) (rec : Int32 → Int32 → Int32 → Int32 → zS → Option ((Int64 × zS) ⊕ (Int32 × zS))) (v3 : Int32) (v4 : Int32) (v5 : Int32) (v6 : Int32) (v7 : Int32) (s : zS) : Option ((Int64 × zS) ⊕ (Int32 × zS)) := zbn (fX1_isAhead N v7 s) (fun x10 s11 => if x10 = 0 then fX4_workOut_J147 N p0 p1 rec v3 v4 v5 v6 v7 s11 else if v5 < 1 then fX4_workOut_J147 N p0 p1 rec v3 v4 v5 v6 v7 s11 else if v7 = 11 then if zga (v5 - 1) (zlen 29) = true then if zga (v5 - 1) (zlen 29) = true then rec v3 v4 v5 (v6 + 1) (zsr s11 29 (v5 - 1) ((s11.2.1 29 (v5 - 1).toNatClampNeg) ^^^ (-1))) else none else none else if zga (v5 - 1) (zlen 29) = true then if zga (v5 - 1) (zlen 29) = true then rec v3 v4 v5 (v6 + 1) (zsr s11 29 (v5 - 1) (-(s11.2.1 29 (v5 - 1).toNatClampNeg))) else none else none)
set_option maxHeartbeats 400000 in
set_option maxRecDepth 100000 in
theorem tX4_workOut_J90 {g : zGl} (hok : zGok g) (d : Nat) (hd : 1 ≤ d) (N : Nat) (p0 : Nat) (p1 : Int32) (hp0 : zBk p0) {mc ms n0 : Nat} {Q : zO → List zE → Prop} (rec : Int32 → Int32 → Int32 → Int32 → zS → Option ((Int64 × zS) ⊕ (Int32 × zS))) (r : (Int64 × zS) ⊕ (Int32 × zS)) (k1 : ∀ w s', r = .inl (w, s') → Q (.inl (some (.long w))) (zHp s')) (k2 : ∀ (y5 : Int32) (s' : zS), r = .inr (y5, s') → zW g mX4_workOut d mc ms n0 Q 0 0 (zHp s') [some (.ref 28), some (.ref p0), some (.int p1), none, none, some (.int y5), none, none, none, none] [] 227) (hrec : ∀ (v3 : Int32) (v4 : Int32) (v5 : Int32) (v6 : Int32) (s : zS), rec v3 v4 v5 v6 s = some r → zW g mX4_workOut d mc ms n0 Q 0 0 (zHp s) [some (.ref 28), some (.ref p0), some (.int p1), some (.int v3), some (.int v4), some (.int v5), some (.int v6), none, none, none] [] 29) (v3 : Int32) (v4 : Int32) (v5 : Int32) (v6 : Int32) (v7 : Int32) (s : zS) (hf : fX4_workOut_J90 N p0 p1 rec v3 v4 v5 v6 v7 s = some r) : zW g mX4_workOut d mc ms n0 Q 0 0 (zHp s) [some (.ref 28), some (.ref p0), some (.int p1), some (.int v3), some (.int v4), some (.int v5), some (.int v6), some (.int v7), none, none] [] 90 := by
  unfold fX4_workOut_J90 at hf
  refine z_iload dX4_workOut_90 rfl ?_
  obtain ⟨x10, s11, q12, hf⟩ := zbn_of hf
  refine z_cS (as := [_]) hok dX4_workOut_92 kX4_32 (tX1_isAhead hok (d - 1) N v7  q12) rfl rfl (by omega) (Nat.le_of_ble_eq_true rfl) (Nat.zero_le _) (Nat.zero_le _) rfl ?_
  refine z_if_eq 147 dX4_workOut_95 (by decide) (fun c95 => ?_) (fun c95 => ?_)
  · have hf := zifp hf c95
    refine z_mask (ls' := [_, _, _, _, _, _, _, _, _, _]) [true, true, true, true, true, true, true, true, false, false] rfl ?_
    exact tX4_workOut_J147 hok d (by omega) N p0 p1 hp0 _ r k1 k2 hrec v3 v4 v5 v6 v7 s11 hf
  · have hf := zifn hf c95
    refine z_iload dX4_workOut_98 rfl ?_
    refine z_iconst 1 dX4_workOut_100 (by decide +kernel) ?_
    refine z_icmp_lt 147 dX4_workOut_101 (by decide) (fun c101 => ?_) (fun c101 => ?_)
    · have hf := zifp hf c101
      refine z_mask (ls' := [_, _, _, _, _, _, _, _, _, _]) [true, true, true, true, true, true, true, true, false, false] rfl ?_
      exact tX4_workOut_J147 hok d (by omega) N p0 p1 hp0 _ r k1 k2 hrec v3 v4 v5 v6 v7 s11 hf
    · have hf := zifn hf c101
      refine z_aload_n dX4_workOut_104 rfl ?_
      refine z_getf dX4_workOut_105 fX4_9 (at_Reckoner s11) rfl ?_
      refine z_iload dX4_workOut_108 rfl ?_
      refine z_iconst 1 dX4_workOut_110 (by decide +kernel) ?_
      refine z_isub dX4_workOut_111 ?_
      refine z_iload dX4_workOut_112 rfl ?_
      refine z_bipush 11 dX4_workOut_114 (by decide +kernel) ?_
      refine z_icmp_ne 133 dX4_workOut_116 (by decide) (fun c116 => ?_) (fun c116 => ?_)
      · have hf := zifn hf c116
        refine z_aload_n dX4_workOut_133 rfl ?_
        refine z_getf dX4_workOut_134 fX4_9 (at_Reckoner s11) rfl ?_
        refine z_iload dX4_workOut_137 rfl ?_
        refine z_iconst 1 dX4_workOut_139 (by decide +kernel) ?_
        refine z_isub dX4_workOut_140 ?_
        obtain ⟨hi22, hf⟩ := zifs hf
        refine z_iald dX4_workOut_141 (at_arr s11 29 (by decide)) (zga_in hi22) ?_
        refine z_ineg dX4_workOut_142 ?_
        obtain ⟨hi23, hf⟩ := zifs hf
        refine z_iastore dX4_workOut_143 (at_arr s11 29 (by decide)) (zga_in hi23) (st_arr s11 29 (by decide) (v5 - 1) (-(s11.2.1 29 (v5 - 1).toNatClampNeg))) ?_
        refine z_goto 221 dX4_workOut_144 (by decide) ?_
        refine z_iinc (ls' := [_, _, _, _, _, _, _, _, _, _]) (v6 + 1) dX4_workOut_221 rfl rfl (by decide) rfl ?_
        refine z_goto 29 dX4_workOut_224 (by decide) ?_
        refine z_mask (ls' := [_, _, _, _, _, _, _, _, _, _]) [true, true, true, true, true, true, true, false, false, false] rfl ?_
        exact hrec v3 v4 v5 (v6 + 1) (zsr s11 29 (v5 - 1) (-(s11.2.1 29 (v5 - 1).toNatClampNeg))) hf
      · have hf := zifp hf c116
        refine z_aload_n dX4_workOut_119 rfl ?_
        refine z_getf dX4_workOut_120 fX4_9 (at_Reckoner s11) rfl ?_
        refine z_iload dX4_workOut_123 rfl ?_
        refine z_iconst 1 dX4_workOut_125 (by decide +kernel) ?_
        refine z_isub dX4_workOut_126 ?_
        obtain ⟨hi24, hf⟩ := zifs hf
        refine z_iald dX4_workOut_127 (at_arr s11 29 (by decide)) (zga_in hi24) ?_
        refine z_iconst (-1) dX4_workOut_128 (by decide +kernel) ?_
        refine z_ixor dX4_workOut_129 ?_
        refine z_goto 143 dX4_workOut_130 (by decide) ?_
        obtain ⟨hi25, hf⟩ := zifs hf
        refine z_iastore dX4_workOut_143 (at_arr s11 29 (by decide)) (zga_in hi25) (st_arr s11 29 (by decide) (v5 - 1) ((s11.2.1 29 (v5 - 1).toNatClampNeg) ^^^ (-1))) ?_
        refine z_goto 221 dX4_workOut_144 (by decide) ?_
        refine z_iinc (ls' := [_, _, _, _, _, _, _, _, _, _]) (v6 + 1) dX4_workOut_221 rfl rfl (by decide) rfl ?_
        refine z_goto 29 dX4_workOut_224 (by decide) ?_
        refine z_mask (ls' := [_, _, _, _, _, _, _, _, _, _]) [true, true, true, true, true, true, true, false, false, false] rfl ?_
        exact hrec v3 v4 v5 (v6 + 1) (zsr s11 29 (v5 - 1) ((s11.2.1 29 (v5 - 1).toNatClampNeg) ^^^ (-1))) hf
noncomputable def fX4_workOut_L29S (N : Nat) (p0 : Nat) (p1 : Int32) (rec : Int32 → Int32 → Int32 → Int32 → zS → Option ((Int64 × zS) ⊕ (Int32 × zS))) (v3 : Int32) (v4 : Int32) (v5 : Int32) (v6 : Int32) (s : zS) : Option ((Int64 × zS) ⊕ (Int32 × zS)) := if (v3 + v4) ≤ v6 then some (.inr (v5, s)) else zbn (fX6_cell N (p0 + 5) v6 0 3 s) (fun x7 s8 => if x7 = 0 then if (nI (zlen 29)) ≤ v5 then fX4_workOut_J90 N p0 p1 rec v3 v4 v5 v6 x7 s8 else zbn (fX6_cell N (p0 + 5) v6 1 0 s8) (fun x26 s27 => if zga v5 (zlen 29) = true then rec v3 v4 (v5 + 1) (v6 + 1) (zsr s27 29 v5 x26) else none) else fX4_workOut_J90 N p0 p1 rec v3 v4 v5 v6 x7 s8)
noncomputable def fX4_workOut_L29 (N : Nat) (p0 : Nat) (p1 : Int32) (n : Nat) : Int32 → Int32 → Int32 → Int32 → zS → Option ((Int64 × zS) ⊕ (Int32 × zS)) := Nat.rec (motive := fun _ => Int32 → Int32 → Int32 → Int32 → zS → Option ((Int64 × zS) ⊕ (Int32 × zS))) (fun _ _ _ _ _ => none) (fun _ rec => fX4_workOut_L29S N p0 p1 rec) n
set_option maxHeartbeats 400000 in
set_option maxRecDepth 100000 in
theorem tX4_workOut_L29 {g : zGl} (hok : zGok g) (d : Nat) (hd : 1 ≤ d) (N : Nat) (p0 : Nat) (p1 : Int32) (hp0 : zBk p0) {mc ms n0 : Nat} {Q : zO → List zE → Prop} (n : Nat) : ∀ (v3 : Int32) (v4 : Int32) (v5 : Int32) (v6 : Int32) (s : zS) (r : (Int64 × zS) ⊕ (Int32 × zS)) (hf : fX4_workOut_L29 N p0 p1 n v3 v4 v5 v6 s = some r) (k1 : ∀ w s', r = .inl (w, s') → Q (.inl (some (.long w))) (zHp s')) (k2 : ∀ (y5 : Int32) (s' : zS), r = .inr (y5, s') → zW g mX4_workOut d mc ms n0 Q 0 0 (zHp s') [some (.ref 28), some (.ref p0), some (.int p1), none, none, some (.int y5), none, none, none, none] [] 227), zW g mX4_workOut d mc ms n0 Q 0 0 (zHp s) [some (.ref 28), some (.ref p0), some (.int p1), some (.int v3), some (.int v4), some (.int v5), some (.int v6), none, none, none] [] 29 := by
  induction n with
  | zero => intro v3 v4 v5 v6 s r hf; cases hf
  | succ n ih =>
    intro v3 v4 v5 v6 s r hf k1 k2
    have hrec : ∀ (v3 : Int32) (v4 : Int32) (v5 : Int32) (v6 : Int32) (s : zS) (r1 : (Int64 × zS) ⊕ (Int32 × zS)), fX4_workOut_L29 N p0 p1 n v3 v4 v5 v6 s = some r1 → r1 = r → zW g mX4_workOut d mc ms n0 Q 0 0 (zHp s) [some (.ref 28), some (.ref p0), some (.int p1), some (.int v3), some (.int v4), some (.int v5), some (.int v6), none, none, none] [] 29 := fun v3 v4 v5 v6 s r1 h e => ih v3 v4 v5 v6 s r1 h (by subst e; exact k1) (by subst e; exact k2)
    have hrec : ∀ (v3 : Int32) (v4 : Int32) (v5 : Int32) (v6 : Int32) (s : zS), fX4_workOut_L29 N p0 p1 n v3 v4 v5 v6 s = some r → zW g mX4_workOut d mc ms n0 Q 0 0 (zHp s) [some (.ref 28), some (.ref p0), some (.int p1), some (.int v3), some (.int v4), some (.int v5), some (.int v6), none, none, none] [] 29 := fun v3 v4 v5 v6 s h => hrec v3 v4 v5 v6 s r h rfl
    have hf : fX4_workOut_L29S N p0 p1 (fX4_workOut_L29 N p0 p1 n) v3 v4 v5 v6 s = some r := hf
    unfold fX4_workOut_L29S at hf
    refine z_iload dX4_workOut_29 rfl ?_
    refine z_iload_n dX4_workOut_31 rfl ?_
    refine z_iload dX4_workOut_32 rfl ?_
    refine z_iadd dX4_workOut_34 ?_
    refine z_icmp_ge 227 dX4_workOut_35 (by decide) (fun c35 => ?_) (fun c35 => ?_)
    · have hf := zifp hf c35
      cases hf
      refine z_mask (ls' := [_, _, _, _, _, _, _, _, _, _]) [true, true, true, false, false, true, false, false, false, false] rfl ?_
      exact k2 _ _ rfl
    · have hf := zifn hf c35
      refine z_aload_n dX4_workOut_38 rfl ?_
      refine z_getN hok dX4_workOut_39 fX4_27 (at_Book s p0 hp0) rfl ?_
      refine z_iload dX4_workOut_42 rfl ?_
      refine z_iconst 0 dX4_workOut_44 (by decide +kernel) ?_
      refine z_iconst 3 dX4_workOut_45 (by decide +kernel) ?_
      obtain ⟨x7, s8, q9, hf⟩ := zbn_of hf
      refine z_cV (as := [_, _, _]) hok dX4_workOut_46 kX4_21 (tX6_cell hok (d - 1) N (p0 + 5) v6 0 3 (zBk_t p0 hp0).2.2.1 q9) rfl (at_Table s (p0 + 5) (zBk_t p0 hp0).2.2.1) rfl rfl (by omega) (Nat.le_of_ble_eq_true rfl) (Nat.zero_le _) (Nat.zero_le _) rfl ?_
      refine z_istore (ls' := [_, _, _, _, _, _, _, _, _, _]) dX4_workOut_49 (by decide) rfl ?_
      refine z_iload dX4_workOut_51 rfl ?_
      refine z_if_ne 90 dX4_workOut_53 (by decide) (fun c53 => ?_) (fun c53 => ?_)
      · have hf := zifn hf c53
        refine z_mask (ls' := [_, _, _, _, _, _, _, _, _, _]) [true, true, true, true, true, true, true, true, false, false] rfl ?_
        exact tX4_workOut_J90 hok d (by omega) N p0 p1 hp0 _ r k1 k2 hrec v3 v4 v5 v6 x7 s8 hf
      · have hf := zifp hf c53
        refine z_iload dX4_workOut_56 rfl ?_
        refine z_aload_n dX4_workOut_58 rfl ?_
        refine z_getf dX4_workOut_59 fX4_9 (at_Reckoner s8) rfl ?_
        refine z_alen dX4_workOut_62 (at_arr s8 29 (by decide)) ?_
        refine z_icmp_ge 90 dX4_workOut_63 (by decide) (fun c63 => ?_) (fun c63 => ?_)
        · have hf := zifp hf c63
          refine z_mask (ls' := [_, _, _, _, _, _, _, _, _, _]) [true, true, true, true, true, true, true, true, false, false] rfl ?_
          exact tX4_workOut_J90 hok d (by omega) N p0 p1 hp0 _ r k1 k2 hrec v3 v4 v5 v6 x7 s8 hf
        · have hf := zifn hf c63
          refine z_aload_n dX4_workOut_66 rfl ?_
          refine z_getf dX4_workOut_67 fX4_9 (at_Reckoner s8) rfl ?_
          refine z_iload dX4_workOut_70 rfl ?_
          refine z_aload_n dX4_workOut_72 rfl ?_
          refine z_getN hok dX4_workOut_73 fX4_27 (at_Book s8 p0 hp0) rfl ?_
          refine z_iload dX4_workOut_76 rfl ?_
          refine z_iconst 1 dX4_workOut_78 (by decide +kernel) ?_
          refine z_iconst 0 dX4_workOut_79 (by decide +kernel) ?_
          obtain ⟨x26, s27, q28, hf⟩ := zbn_of hf
          refine z_cV (as := [_, _, _]) hok dX4_workOut_80 kX4_21 (tX6_cell hok (d - 1) N (p0 + 5) v6 1 0 (zBk_t p0 hp0).2.2.1 q28) rfl (at_Table s8 (p0 + 5) (zBk_t p0 hp0).2.2.1) rfl rfl (by omega) (Nat.le_of_ble_eq_true rfl) (Nat.zero_le _) (Nat.zero_le _) rfl ?_
          obtain ⟨hi29, hf⟩ := zifs hf
          refine z_iastore dX4_workOut_83 (at_arr s27 29 (by decide)) (zga_in hi29) (st_arr s27 29 (by decide) v5 x26) ?_
          refine z_iinc (ls' := [_, _, _, _, _, _, _, _, _, _]) (v5 + 1) dX4_workOut_84 rfl rfl (by decide) rfl ?_
          refine z_goto 221 dX4_workOut_87 (by decide) ?_
          refine z_iinc (ls' := [_, _, _, _, _, _, _, _, _, _]) (v6 + 1) dX4_workOut_221 rfl rfl (by decide) rfl ?_
          refine z_goto 29 dX4_workOut_224 (by decide) ?_
          refine z_mask (ls' := [_, _, _, _, _, _, _, _, _, _]) [true, true, true, true, true, true, true, false, false, false] rfl ?_
          exact hrec v3 v4 (v5 + 1) (v6 + 1) (zsr s27 29 v5 x26) hf
noncomputable def fX4_workOut (N : Nat) (p0 : Nat) (p1 : Int32) (s : zS) : Option (Int64 × zS) := zbn (fX6_cell N (p0 + 3) p1 3 0 s) (fun x1 s2 => zbn (fX6_cell N (p0 + 3) p1 4 0 s2) (fun x4 s5 => zbl (fX4_workOut_L29 N p0 p1 N x1 x4 0 x1 s5) (fun x => some x) (fun lq30 => match lq30 with | (y33, s34) => if y33 = 1 then if zga 0 (zlen 29) = true then some ((s34.2.1 29 (0 : Int32).toNatClampNeg).toInt64, s34) else none else some (1099511627776, s34))))
set_option maxHeartbeats 400000 in
set_option maxRecDepth 100000 in
theorem tX4_workOut {g : zGl} (hok : zGok g) (d : Nat) (hd : 1 ≤ d) (N : Nat) (p0 : Nat) (p1 : Int32) (hp0 : zBk p0) {s s' : zS} {w : Int64} (hf : fX4_workOut N p0 p1 s = some (w, s')) : zMet g mX4_workOut d 0 0 [.ref 28, .ref p0, .int p1] (zHp s) (zret (some (.long w)) (zHp s')) := by
  refine zMet.ofW (by decide +kernel) (Nat.le_of_ble_eq_true rfl) ?_
  show zW g mX4_workOut d 0 0 51 _ 0 0 (zHp s) [some (.ref 28), some (.ref p0), some (.int p1), none, none, none, none, none, none, none] [] 0
  unfold fX4_workOut at hf
  refine z_aload_n dX4_workOut_0 rfl ?_
  refine z_getN hok dX4_workOut_1 fX4_15 (at_Book s p0 hp0) rfl ?_
  refine z_iload_n dX4_workOut_4 rfl ?_
  refine z_iconst 3 dX4_workOut_5 (by decide +kernel) ?_
  refine z_iconst 0 dX4_workOut_6 (by decide +kernel) ?_
  obtain ⟨x1, s2, q3, hf⟩ := zbn_of hf
  refine z_cV (as := [_, _, _]) hok dX4_workOut_7 kX4_21 (tX6_cell hok (d - 1) N (p0 + 3) p1 3 0 (zBk_t p0 hp0).2.1 q3) rfl (at_Table s (p0 + 3) (zBk_t p0 hp0).2.1) rfl rfl (by omega) (Nat.le_of_ble_eq_true rfl) (Nat.zero_le _) (Nat.zero_le _) rfl ?_
  refine z_istore_n (ls' := [_, _, _, _, _, _, _, _, _, _]) dX4_workOut_10 (by decide) rfl ?_
  refine z_aload_n dX4_workOut_11 rfl ?_
  refine z_getN hok dX4_workOut_12 fX4_15 (at_Book s2 p0 hp0) rfl ?_
  refine z_iload_n dX4_workOut_15 rfl ?_
  refine z_iconst 4 dX4_workOut_16 (by decide +kernel) ?_
  refine z_iconst 0 dX4_workOut_17 (by decide +kernel) ?_
  obtain ⟨x4, s5, q6, hf⟩ := zbn_of hf
  refine z_cV (as := [_, _, _]) hok dX4_workOut_18 kX4_21 (tX6_cell hok (d - 1) N (p0 + 3) p1 4 0 (zBk_t p0 hp0).2.1 q6) rfl (at_Table s2 (p0 + 3) (zBk_t p0 hp0).2.1) rfl rfl (by omega) (Nat.le_of_ble_eq_true rfl) (Nat.zero_le _) (Nat.zero_le _) rfl ?_
  refine z_istore (ls' := [_, _, _, _, _, _, _, _, _, _]) dX4_workOut_21 (by decide) rfl ?_
  refine z_iconst 0 dX4_workOut_23 (by decide +kernel) ?_
  refine z_istore (ls' := [_, _, _, _, _, _, _, _, _, _]) dX4_workOut_24 (by decide) rfl ?_
  refine z_iload_n dX4_workOut_26 rfl ?_
  refine z_istore (ls' := [_, _, _, _, _, _, _, _, _, _]) dX4_workOut_27 (by decide) rfl ?_
  refine z_mask (ls' := [_, _, _, _, _, _, _, _, _, _]) [true, true, true, true, true, true, true, false, false, false] rfl ?_
  rcases zbl_of hf with ⟨lr31, le32, hf⟩ | ⟨lr31, le32, hf⟩
  · cases hf
    exact tX4_workOut_L29 hok d (by omega) N p0 p1 hp0 N x1 x4 0 x1 s5 _ le32 (fun w1 s1 hh => by cases hh; exact ⟨rfl, rfl⟩) (fun _ _ hh => by cases hh)
  · obtain ⟨y33, s34⟩ := lr31
    refine tX4_workOut_L29 hok d (by omega) N p0 p1 hp0 N x1 x4 0 x1 s5 _ le32 (fun w1 s1 hh => by cases hh) (fun _ _ hh => ?_)
    cases hh
    refine z_iload dX4_workOut_227 rfl ?_
    refine z_iconst 1 dX4_workOut_229 (by decide +kernel) ?_
    refine z_icmp_ne 243 dX4_workOut_230 (by decide) (fun c230 => ?_) (fun c230 => ?_)
    · have hf := zifn hf c230
      refine z_ldc2 dX4_workOut_243 lX4_43 ?_
      cases hf
      exact z_lret rfl dX4_workOut_246 (Nat.zero_le _) (Nat.zero_le _) ⟨rfl, rfl⟩
    · have hf := zifp hf c230
      refine z_aload_n dX4_workOut_233 rfl ?_
      refine z_getf dX4_workOut_234 fX4_9 (at_Reckoner s34) rfl ?_
      refine z_iconst 0 dX4_workOut_237 (by decide +kernel) ?_
      obtain ⟨hi35, hf⟩ := zifs hf
      refine z_iald dX4_workOut_238 (at_arr s34 29 (by decide)) (zga_in hi35) ?_
      refine z_i2l dX4_workOut_239 ?_
      refine z_goto 246 dX4_workOut_240 (by decide) ?_
      cases hf
      exact z_lret rfl dX4_workOut_246 (Nat.zero_le _) (Nat.zero_le _) ⟨rfl, rfl⟩

