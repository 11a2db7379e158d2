noncomputable def fX10_operator (N : Nat)  (s : zS) : Option (Int32 × zS) := if (s.1 3315) = 5 then if (s.1 3316) = 37 then some (16, s) else if (s.1 3316) = 38 then some (19, s) else if (s.1 3316) = 42 then some (14, s) else if (s.1 3316) = 43 then some (12, s) else if (s.1 3316) = 45 then some (13, s) else if (s.1 3316) = 47 then some (15, s) else if (s.1 3316) = 94 then some (20, s) else if (s.1 3316) = 124 then some (21, s) else if (s.1 3316) = 300 then some (17, s) else if (s.1 3316) = 301 then some (18, s) else some (0, s) else some (0, s)
set_option maxHeartbeats 400000 in
set_option maxRecDepth 100000 in
theorem tX10_operator {g : zGl} (hok : zGok g) (d : Nat)  (N : Nat)   {s s' : zS} {w : Int32} (hf : fX10_operator N  s = some (w, s')) : zMet g mX10_operator d 0 0 [.ref 33] (zHp s) (zret (some (.int w)) (zHp s')) := by
  refine zMet.ofW (by decide +kernel) (Nat.le_of_ble_eq_true rfl) ?_
  show zW g mX10_operator d 0 0 51 _ 0 0 (zHp s) [some (.ref 33)] [] 0
  unfold fX10_operator at hf
  refine z_aload_n dX10_operator_0 rfl ?_
  refine z_getf dX10_operator_1 fX10_79 (at_Model s) rfl ?_
  refine z_iconst 5 dX10_operator_4 (by decide +kernel) ?_
  refine z_icmp_eq 10 dX10_operator_5 (by decide) (fun c5 => ?_) (fun c5 => ?_)
  · have hf := zifp hf c5
    refine z_aload_n dX10_operator_10 rfl ?_
    refine z_getf dX10_operator_11 fX10_82 (at_Model s) rfl ?_
    refine z_look [(37, 116), (38, 125), (42, 110), (43, 104), (45, 107), (47, 113), (94, 128), (124, 131), (300, 119), (301, 122)] 134 dX10_operator_14 (by decide +kernel) (by decide +kernel) (by decide +kernel) ?_
    refine z_selc (fun c14_0 => ?_) (fun c14_0 => ?_)
    · have hf := zifp hf c14_0
      refine z_bipush 16 dX10_operator_116 (by decide +kernel) ?_
      cases hf
      exact z_iret rfl dX10_operator_118 (Nat.zero_le _) (Nat.zero_le _) ⟨rfl, rfl⟩
    · have hf := zifn hf c14_0
      refine z_selc (fun c14_1 => ?_) (fun c14_1 => ?_)
      · have hf := zifp hf c14_1
        refine z_bipush 19 dX10_operator_125 (by decide +kernel) ?_
        cases hf
        exact z_iret rfl dX10_operator_127 (Nat.zero_le _) (Nat.zero_le _) ⟨rfl, rfl⟩
      · have hf := zifn hf c14_1
        refine z_selc (fun c14_2 => ?_) (fun c14_2 => ?_)
        · have hf := zifp hf c14_2
          refine z_bipush 14 dX10_operator_110 (by decide +kernel) ?_
          cases hf
          exact z_iret rfl dX10_operator_112 (Nat.zero_le _) (Nat.zero_le _) ⟨rfl, rfl⟩
        · have hf := zifn hf c14_2
          refine z_selc (fun c14_3 => ?_) (fun c14_3 => ?_)
          · have hf := zifp hf c14_3
            refine z_bipush 12 dX10_operator_104 (by decide +kernel) ?_
            cases hf
            exact z_iret rfl dX10_operator_106 (Nat.zero_le _) (Nat.zero_le _) ⟨rfl, rfl⟩
          · have hf := zifn hf c14_3
            refine z_selc (fun c14_4 => ?_) (fun c14_4 => ?_)
            · have hf := zifp hf c14_4
              refine z_bipush 13 dX10_operator_107 (by decide +kernel) ?_
              cases hf
              exact z_iret rfl dX10_operator_109 (Nat.zero_le _) (Nat.zero_le _) ⟨rfl, rfl⟩
            · have hf := zifn hf c14_4
              refine z_selc (fun c14_5 => ?_) (fun c14_5 => ?_)
              · have hf := zifp hf c14_5
                refine z_bipush 15 dX10_operator_113 (by decide +kernel) ?_
                cases hf
                exact z_iret rfl dX10_operator_115 (Nat.zero_le _) (Nat.zero_le _) ⟨rfl, rfl⟩
              · have hf := zifn hf c14_5
                refine z_selc (fun c14_6 => ?_) (fun c14_6 => ?_)
                · have hf := zifp hf c14_6
                  refine z_bipush 20 dX10_operator_128 (by decide +kernel) ?_
                  cases hf
                  exact z_iret rfl dX10_operator_130 (Nat.zero_le _) (Nat.zero_le _) ⟨rfl, rfl⟩
                · have hf := zifn hf c14_6
                  refine z_selc (fun c14_7 => ?_) (fun c14_7 => ?_)
                  · have hf := zifp hf c14_7
                    refine z_bipush 21 dX10_operator_131 (by decide +kernel) ?_
                    cases hf
                    exact z_iret rfl dX10_operator_133 (Nat.zero_le _) (Nat.zero_le _) ⟨rfl, rfl⟩
                  · have hf := zifn hf c14_7
                    refine z_selc (fun c14_8 => ?_) (fun c14_8 => ?_)
                    · have hf := zifp hf c14_8
                      refine z_bipush 17 dX10_operator_119 (by decide +kernel) ?_
                      cases hf
                      exact z_iret rfl dX10_operator_121 (Nat.zero_le _) (Nat.zero_le _) ⟨rfl, rfl⟩
                    · have hf := zifn hf c14_8
                      refine z_selc (fun c14_9 => ?_) (fun c14_9 => ?_)
                      · have hf := zifp hf c14_9
                        refine z_bipush 18 dX10_operator_122 (by decide +kernel) ?_
                        cases hf
                        exact z_iret rfl dX10_operator_124 (Nat.zero_le _) (Nat.zero_le _) ⟨rfl, rfl⟩
                      · have hf := zifn hf c14_9
                        refine z_seln ?_
                        refine z_iconst 0 dX10_operator_134 (by decide +kernel) ?_
                        cases hf
                        exact z_iret rfl dX10_operator_135 (Nat.zero_le _) (Nat.zero_le _) ⟨rfl, rfl⟩
  · have hf := zifn hf c5
    refine z_iconst 0 dX10_operator_8 (by decide +kernel) ?_
    cases hf
    exact z_iret rfl dX10_operator_9 (Nat.zero_le _) (Nat.zero_le _) ⟨rfl, rfl⟩

noncomputable def fX10_binds (N : Nat) (p0 : Int32) (s : zS) : Option (Int32 × zS) := if p0 = 12 then some (5, s) else if p0 = 13 then some (5, s) else if p0 = 14 then some (6, s) else if p0 = 15 then some (6, s) else if p0 = 16 then some (6, s) else if p0 = 17 then some (4, s) else if p0 = 18 then some (4, s) else if p0 = 19 then some (3, s) else if p0 = 20 then some (2, s) else if p0 = 21 then some (1, s) else some (7, s)
set_option maxHeartbeats 400000 in
set_option maxRecDepth 100000 in
theorem tX10_binds {g : zGl} (hok : zGok g) (d : Nat)  (N : Nat) (p0 : Int32)  {s s' : zS} {w : Int32} (hf : fX10_binds N p0 s = some (w, s')) : zMet g mX10_binds d 0 0 [.int p0] (zHp s) (zret (some (.int w)) (zHp s')) := by
  refine zMet.ofW (by decide +kernel) (Nat.le_of_ble_eq_true rfl) ?_
  show zW g mX10_binds d 0 0 51 _ 0 0 (zHp s) [some (.int p0)] [] 0
  unfold fX10_binds at hf
  refine z_iload_n dX10_binds_0 rfl ?_
  refine z_tab [(12, 64), (13, 64), (14, 66), (15, 66), (16, 66), (17, 62), (18, 62), (19, 60), (20, 58), (21, 56)] 69 dX10_binds_1 (by decide +kernel) (by decide +kernel) (by decide +kernel) (by decide +kernel) ?_
  refine z_selc (fun c1_0 => ?_) (fun c1_0 => ?_)
  · have hf := zifp hf c1_0
    refine z_iconst 5 dX10_binds_64 (by decide +kernel) ?_
    cases hf
    exact z_iret rfl dX10_binds_65 (Nat.zero_le _) (Nat.zero_le _) ⟨rfl, rfl⟩
  · have hf := zifn hf c1_0
    refine z_selc (fun c1_1 => ?_) (fun c1_1 => ?_)
    · have hf := zifp hf c1_1
      refine z_iconst 5 dX10_binds_64 (by decide +kernel) ?_
      cases hf
      exact z_iret rfl dX10_binds_65 (Nat.zero_le _) (Nat.zero_le _) ⟨rfl, rfl⟩
    · have hf := zifn hf c1_1
      refine z_selc (fun c1_2 => ?_) (fun c1_2 => ?_)
      · have hf := zifp hf c1_2
        refine z_bipush 6 dX10_binds_66 (by decide +kernel) ?_
        cases hf
        exact z_iret rfl dX10_binds_68 (Nat.zero_le _) (Nat.zero_le _) ⟨rfl, rfl⟩
      · have hf := zifn hf c1_2
        refine z_selc (fun c1_3 => ?_) (fun c1_3 => ?_)
        · have hf := zifp hf c1_3
          refine z_bipush 6 dX10_binds_66 (by decide +kernel) ?_
          cases hf
          exact z_iret rfl dX10_binds_68 (Nat.zero_le _) (Nat.zero_le _) ⟨rfl, rfl⟩
        · have hf := zifn hf c1_3
          refine z_selc (fun c1_4 => ?_) (fun c1_4 => ?_)
          · have hf := zifp hf c1_4
            refine z_bipush 6 dX10_binds_66 (by decide +kernel) ?_
            cases hf
            exact z_iret rfl dX10_binds_68 (Nat.zero_le _) (Nat.zero_le _) ⟨rfl, rfl⟩
          · have hf := zifn hf c1_4
            refine z_selc (fun c1_5 => ?_) (fun c1_5 => ?_)
            · have hf := zifp hf c1_5
              refine z_iconst 4 dX10_binds_62 (by decide +kernel) ?_
              cases hf
              exact z_iret rfl dX10_binds_63 (Nat.zero_le _) (Nat.zero_le _) ⟨rfl, rfl⟩
            · have hf := zifn hf c1_5
              refine z_selc (fun c1_6 => ?_) (fun c1_6 => ?_)
              · have hf := zifp hf c1_6
                refine z_iconst 4 dX10_binds_62 (by decide +kernel) ?_
                cases hf
                exact z_iret rfl dX10_binds_63 (Nat.zero_le _) (Nat.zero_le _) ⟨rfl, rfl⟩
              · have hf := zifn hf c1_6
                refine z_selc (fun c1_7 => ?_) (fun c1_7 => ?_)
                · have hf := zifp hf c1_7
                  refine z_iconst 3 dX10_binds_60 (by decide +kernel) ?_
                  cases hf
                  exact z_iret rfl dX10_binds_61 (Nat.zero_le _) (Nat.zero_le _) ⟨rfl, rfl⟩
                · have hf := zifn hf c1_7
                  refine z_selc (fun c1_8 => ?_) (fun c1_8 => ?_)
                  · have hf := zifp hf c1_8
                    refine z_iconst 2 dX10_binds_58 (by decide +kernel) ?_
                    cases hf
                    exact z_iret rfl dX10_binds_59 (Nat.zero_le _) (Nat.zero_le _) ⟨rfl, rfl⟩
                  · have hf := zifn hf c1_8
                    refine z_selc (fun c1_9 => ?_) (fun c1_9 => ?_)
                    · have hf := zifp hf c1_9
                      refine z_iconst 1 dX10_binds_56 (by decide +kernel) ?_
                      cases hf
                      exact z_iret rfl dX10_binds_57 (Nat.zero_le _) (Nat.zero_le _) ⟨rfl, rfl⟩
                    · have hf := zifn hf c1_9
                      refine z_seln ?_
                      refine z_bipush 7 dX10_binds_69 (by decide +kernel) ?_
                      cases hf
                      exact z_iret rfl dX10_binds_71 (Nat.zero_le _) (Nat.zero_le _) ⟨rfl, rfl⟩

noncomputable def fX10_reduce_L0S (N : Nat) (p0 : Int32) (rec : zS → Option ((Unit × zS) ⊕ (zS)))  (s : zS) : Option ((Unit × zS) ⊕ (zS)) := if (s.1 3323) ≤ 0 then some (.inr (s)) else if zga ((s.1 3323) - 1) (zlen 43) = true then if (s.2.1 43 ((s.1 3323) - 1).toNatClampNeg) ≤ 11 then some (.inr (s)) else if zga ((s.1 3323) - 1) (zlen 43) = true then zbn (fX10_binds N (s.2.1 43 ((s.1 3323) - 1).toNatClampNeg) s) (fun x3 s4 => if x3 < p0 then some (.inr (s4)) else if zga ((s4.1 3323) - 1) (zlen 43) = true then zbn (fX10_emit N (s4.2.1 43 ((s4.1 3323) - 1).toNatClampNeg) 0 (zsc s4 3323 ((s4.1 3323) - 1))) (fun x7 s8 => rec  s8) else none) else none else none
noncomputable def fX10_reduce_L0 (N : Nat) (p0 : Int32) (n : Nat) : zS → Option ((Unit × zS) ⊕ (zS)) := Nat.rec (motive := fun _ => zS → Option ((Unit × zS) ⊕ (zS))) (fun  _ => none) (fun _ rec => fX10_reduce_L0S N p0 rec) n
set_option maxHeartbeats 400000 in
set_option maxRecDepth 100000 in
theorem tX10_reduce_L0 {g : zGl} (hok : zGok g) (d : Nat) (hd : 1 ≤ d) (N : Nat) (p0 : Int32)  {mc ms n0 : Nat} {Q : zO → List zE → Prop} (n : Nat) : ∀  (s : zS) (r : (Unit × zS) ⊕ (zS)) (hf : fX10_reduce_L0 N p0 n  s = some r) (k1 : ∀ w s', r = .inl (w, s') → Q (.inl none) (zHp s')) (k2 : ∀  (s' : zS), r = .inr (s') → zW g mX10_reduce d mc ms n0 Q 0 0 (zHp s') [some (.ref 33), some (.int p0)] [] 68), zW g mX10_reduce d mc ms n0 Q 0 0 (zHp s) [some (.ref 33), some (.int p0)] [] 0 := by
  induction n with
  | zero => intro  s r hf; cases hf
  | succ n ih =>
    intro  s r hf k1 k2
    have hrec : ∀  (s : zS) (r1 : (Unit × zS) ⊕ (zS)), fX10_reduce_L0 N p0 n  s = some r1 → r1 = r → zW g mX10_reduce d mc ms n0 Q 0 0 (zHp s) [some (.ref 33), some (.int p0)] [] 0 := fun  s r1 h e => ih  s r1 h (by subst e; exact k1) (by subst e; exact k2)
    have hrec : ∀  (s : zS), fX10_reduce_L0 N p0 n  s = some r → zW g mX10_reduce d mc ms n0 Q 0 0 (zHp s) [some (.ref 33), some (.int p0)] [] 0 := fun  s h => hrec  s r h rfl
    have hf : fX10_reduce_L0S N p0 (fX10_reduce_L0 N p0 n)  s = some r := hf
    unfold fX10_reduce_L0S at hf
    refine z_aload_n dX10_reduce_0 rfl ?_
    refine z_getf dX10_reduce_1 fX10_155 (at_Model s) rfl ?_
    refine z_if_le 68 dX10_reduce_4 (by decide) (fun c4 => ?_) (fun c4 => ?_)
    · have hf := zifp hf c4
      cases hf
      refine z_mask (ls' := [_, _]) [true, true] rfl ?_
      exact k2  _ rfl
    · have hf := zifn hf c4
      refine z_aload_n dX10_reduce_7 rfl ?_
      refine z_getf dX10_reduce_8 fX10_41 (at_Model s) rfl ?_
      refine z_aload_n dX10_reduce_11 rfl ?_
      refine z_getf dX10_reduce_12 fX10_155 (at_Model s) rfl ?_
      refine z_iconst 1 dX10_reduce_15 (by decide +kernel) ?_
      refine z_isub dX10_reduce_16 ?_
      obtain ⟨hi1, hf⟩ := zifs hf
      refine z_iald dX10_reduce_17 (at_arr s 43 (by decide)) (zga_in hi1) ?_
      refine z_bipush 11 dX10_reduce_18 (by decide +kernel) ?_
      refine z_icmp_le 68 dX10_reduce_20 (by decide) (fun c20 => ?_) (fun c20 => ?_)
      · have hf := zifp hf c20
        cases hf
        refine z_mask (ls' := [_, _]) [true, true] rfl ?_
        exact k2  _ rfl
      · have hf := zifn hf c20
        refine z_aload_n dX10_reduce_23 rfl ?_
        refine z_getf dX10_reduce_24 fX10_41 (at_Model s) rfl ?_
        refine z_aload_n dX10_reduce_27 rfl ?_
        refine z_getf dX10_reduce_28 fX10_155 (at_Model s) rfl ?_
        refine z_iconst 1 dX10_reduce_31 (by decide +kernel) ?_
        refine z_isub dX10_reduce_32 ?_
        obtain ⟨hi2, hf⟩ := zifs hf
        refine z_iald dX10_reduce_33 (at_arr s 43 (by decide)) (zga_in hi2) ?_
        obtain ⟨x3, s4, q5, hf⟩ := zbn_of hf
        refine z_cS (as := [_]) hok dX10_reduce_34 kX10_164 (tX10_binds hok (d - 1) N (s.2.1 43 ((s.1 3323) - 1).toNatClampNeg)  q5) rfl rfl (by omega) (Nat.le_of_ble_eq_true rfl) (Nat.zero_le _) (Nat.zero_le _) rfl ?_
        refine z_iload_n dX10_reduce_37 rfl ?_
        refine z_icmp_lt 68 dX10_reduce_38 (by decide) (fun c38 => ?_) (fun c38 => ?_)
        · have hf := zifp hf c38
          cases hf
          refine z_mask (ls' := [_, _]) [true, true] rfl ?_
          exact k2  _ rfl
        · have hf := zifn hf c38
          refine z_aload_n dX10_reduce_41 rfl ?_
          refine z_dup dX10_reduce_42 rfl ?_
          refine z_getf dX10_reduce_43 fX10_155 (at_Model s4) rfl ?_
          refine z_iconst 1 dX10_reduce_46 (by decide +kernel) ?_
          refine z_isub dX10_reduce_47 ?_
          refine z_putf dX10_reduce_48 fX10_155 wX10_23 (at_Model s4) (Nat.le_of_ble_eq_true rfl) (fun _ => rfl) (fun _ => rfl) (st_Model_23 s4 ((s4.1 3323) - 1)) ?_
          refine z_aload_n dX10_reduce_51 rfl ?_
          refine z_aload_n dX10_reduce_52 rfl ?_
          refine z_getf dX10_reduce_53 fX10_41 (at_Model (zsc s4 3323 ((s4.1 3323) - 1))) rfl ?_
          refine z_aload_n dX10_reduce_56 rfl ?_
          refine z_getf dX10_reduce_57 fX10_155 (at_Model (zsc s4 3323 ((s4.1 3323) - 1))) rfl ?_
          obtain ⟨hi6, hf⟩ := zifs hf
          refine z_iald dX10_reduce_60 (at_arr (zsc s4 3323 ((s4.1 3323) - 1)) 43 (by decide)) (zga_in hi6) ?_
          refine z_iconst 0 dX10_reduce_61 (by decide +kernel) ?_
          obtain ⟨x7, s8, q9, hf⟩ := zbn_of hf
          refine z_cV (as := [_, _]) hok dX10_reduce_62 kX10_158 (tX10_emit hok (d - 1) N (s4.2.1 43 ((s4.1 3323) - 1).toNatClampNeg) 0  q9) rfl (at_Model (zsc s4 3323 ((s4.1 3323) - 1))) rfl rfl (by omega) (Nat.le_of_ble_eq_true rfl) (Nat.zero_le _) (Nat.zero_le _) rfl ?_
          refine z_goto 0 dX10_reduce_65 (by decide) ?_
          refine z_mask (ls' := [_, _]) [true, true] rfl ?_
          exact hrec  s8 hf
noncomputable def fX10_reduce (N : Nat) (p0 : Int32) (s : zS) : Option (Unit × zS) := zbl (fX10_reduce_L0 N p0 N  s) (fun x => some x) (fun s13 => some ((), s13))
set_option maxHeartbeats 400000 in
set_option maxRecDepth 100000 in
theorem tX10_reduce {g : zGl} (hok : zGok g) (d : Nat) (hd : 1 ≤ d) (N : Nat) (p0 : Int32)  {s s' : zS} {w : Unit} (hf : fX10_reduce N p0 s = some (w, s')) : zMet g mX10_reduce d 0 0 [.ref 33, .int p0] (zHp s) (zret none (zHp s')) := by
  refine zMet.ofW (by decide +kernel) (Nat.le_of_ble_eq_true rfl) ?_
  show zW g mX10_reduce d 0 0 51 _ 0 0 (zHp s) [some (.ref 33), some (.int p0)] [] 0
  unfold fX10_reduce at hf
  refine z_mask (ls' := [_, _]) [true, true] rfl ?_
  rcases zbl_of hf with ⟨lr11, le12, hf⟩ | ⟨lr11, le12, hf⟩
  · cases hf
    exact tX10_reduce_L0 hok d (by omega) N p0  N  s _ le12 (fun w1 s1 hh => by cases hh; exact ⟨rfl, rfl⟩) (fun  _ hh => by cases hh)
  · obtain ⟨s13, rfl⟩ : ∃ z, z = lr11 := ⟨_, rfl⟩
    refine tX10_reduce_L0 hok d (by omega) N p0  N  s _ le12 (fun w1 s1 hh => by cases hh) (fun  _ hh => ?_)
    cases hh
    cases hf
    exact z_vret rfl dX10_reduce_68 (Nat.zero_le _) (Nat.zero_le _) ⟨rfl, rfl⟩

noncomputable def fX10_expression_L19S (N : Nat)  (rec : Int32 → Int32 → zS → Option ((Int32 × zS) ⊕ (zS))) (v1 : Int32) (v2 : Int32) (s : zS) : Option ((Int32 × zS) ⊕ (zS)) := if v2 = 0 then some (.inr (s)) else if v1 = 0 then zbn (fX10_operator N  s) (fun x1 s2 => if x1 ≤ 0 then zbn (fX10_isSign N 41 s2) (fun x4 s5 => if x4 = 0 then if 0 < (s5.1 3327) then zbn (fX10_fail N 5 s5) (fun x7 s8 => if zbo x7 = true then some (.inl (x7, s8)) else none) else if (s5.1 3315) = 6 then zbn (fX10_fail N 5 s5) (fun x11 s12 => if zbo x11 = true then some (.inl (x11, s12)) else none) else rec v1 0 s5 else if (s5.1 3327) ≤ 0 then if 0 < (s5.1 3327) then zbn (fX10_fail N 5 s5) (fun x15 s16 => if zbo x15 = true then some (.inl (x15, s16)) else none) else if (s5.1 3315) = 6 then zbn (fX10_fail N 5 s5) (fun x19 s20 => if zbo x19 = true then some (.inl (x19, s20)) else none) else rec v1 0 s5 else zbn (fX10_reduce N 0 s5) (fun x23 s24 => zbn (fX10_ahead N  (zsc (zsc (zsc s24 3323 ((s24.1 3323) - 1)) 3327 ((s24.1 3327) - 1)) 3326 ((s24.1 3326) - 1))) (fun x26 s27 => zbn (fX10_next N  s27) (fun x29 s30 => rec v1 v2 s30)))) else zbn (fX10_binds N x1 s2) (fun x32 s33 => zbn (fX10_reduce N x32 s33) (fun x35 s36 => zbn (fX10_tally N  s36) (fun x38 s39 => if x38 = 0 then some (.inl (0, s39)) else if zga (s39.1 3323) (zlen 43) = true then zbn (fX10_next N  (zsc (zsr s39 43 (s39.1 3323) x1) 3323 ((s39.1 3323) + 1))) (fun x42 s43 => rec 1 v2 s43) else none)))) else zbn (fX10_wanted N  s) (fun x45 s46 => if x45 = 0 then some (.inl (0, s46)) else if x45 = 2 then rec 1 v2 s46 else rec 0 v2 s46)
noncomputable def fX10_expression_L19 (N : Nat)  (n : Nat) : Int32 → Int32 → zS → Option ((Int32 × zS) ⊕ (zS)) := Nat.rec (motive := fun _ => Int32 → Int32 → zS → Option ((Int32 × zS) ⊕ (zS))) (fun _ _ _ => none) (fun _ rec => fX10_expression_L19S N  rec) n
set_option maxHeartbeats 400000 in
set_option maxRecDepth 100000 in
theorem tX10_expression_L19 {g : zGl} (hok : zGok g) (d : Nat) (hd : 5 ≤ d) (N : Nat)   {mc ms n0 : Nat} {Q : zO → List zE → Prop} (n : Nat) : ∀ (v1 : Int32) (v2 : Int32) (s : zS) (r : (Int32 × zS) ⊕ (zS)) (hf : fX10_expression_L19 N  n v1 v2 s = some r) (k1 : ∀ w s', r = .inl (w, s') → Q (.inl (some (.int w))) (zHp s')) (k2 : ∀  (s' : zS), r = .inr (s') → zW g mX10_expression d mc ms n0 Q 0 0 (zHp s') [some (.ref 33), none, none, none] [] 196), zW g mX10_expression d mc ms n0 Q 0 0 (zHp s) [some (.ref 33), some (.int v1), some (.int v2), none] [] 19 := by
  induction n with
  | zero => intro v1 v2 s r hf; cases hf
  | succ n ih =>
    intro v1 v2 s r hf k1 k2
    have hrec : ∀ (v1 : Int32) (v2 : Int32) (s : zS) (r1 : (Int32 × zS) ⊕ (zS)), fX10_expression_L19 N  n v1 v2 s = some r1 → r1 = r → zW g mX10_expression d mc ms n0 Q 0 0 (zHp s) [some (.ref 33), some (.int v1), some (.int v2), none] [] 19 := fun v1 v2 s r1 h e => ih v1 v2 s r1 h (by subst e; exact k1) (by subst e; exact k2)
    have hrec : ∀ (v1 : Int32) (v2 : Int32) (s : zS), fX10_expression_L19 N  n v1 v2 s = some r → zW g mX10_expression d mc ms n0 Q 0 0 (zHp s) [some (.ref 33), some (.int v1), some (.int v2), none] [] 19 := fun v1 v2 s h => hrec v1 v2 s r h rfl
    have hf : fX10_expression_L19S N  (fX10_expression_L19 N  n) v1 v2 s = some r := hf
    unfold fX10_expression_L19S at hf
    refine z_iload_n dX10_expression_19 rfl ?_
    refine z_if_eq 196 dX10_expression_20 (by decide) (fun c20 => ?_) (fun c20 => ?_)
    · have hf := zifp hf c20
      cases hf
      refine z_mask (ls' := [_, _, _, _]) [true, false, false, false] rfl ?_
      exact k2  _ rfl
    · have hf := zifn hf c20
      refine z_iload_n dX10_expression_23 rfl ?_
      refine z_if_eq 52 dX10_expression_24 (by decide) (fun c24 => ?_) (fun c24 => ?_)
      · have hf := zifp hf c24
        refine z_aload_n dX10_expression_52 rfl ?_
        obtain ⟨x1, s2, q3, hf⟩ := zbn_of hf
        refine z_cV (as := []) hok dX10_expression_53 kX10_193 (tX10_operator hok (d - 1) N   q3) rfl (at_Model s) rfl rfl (by omega) (Nat.le_of_ble_eq_true rfl) (Nat.zero_le _) (Nat.zero_le _) rfl ?_
        refine z_istore_n (ls' := [_, _, _, _]) dX10_expression_56 (by decide) rfl ?_
        refine z_iload_n dX10_expression_57 rfl ?_
        refine z_if_le 107 dX10_expression_58 (by decide) (fun c58 => ?_) (fun c58 => ?_)
        · have hf := zifp hf c58
          refine z_aload_n dX10_expression_107 rfl ?_
          refine z_bipush 41 dX10_expression_108 (by decide +kernel) ?_
          obtain ⟨x4, s5, q6, hf⟩ := zbn_of hf
          refine z_cV (as := [_]) hok dX10_expression_110 kX10_167 (tX10_isSign hok (d - 1) N 41  q6) rfl (at_Model s2) rfl rfl (by omega) (Nat.le_of_ble_eq_true rfl) (Nat.zero_le _) (Nat.zero_le _) rfl ?_
          refine z_if_eq 169 dX10_expression_113 (by decide) (fun c113 => ?_) (fun c113 => ?_)
          · have hf := zifp hf c113
            refine z_aload_n dX10_expression_169 rfl ?_
            refine z_getf dX10_expression_170 fX10_174 (at_Model s5) rfl ?_
            refine z_if_gt 185 dX10_expression_173 (by decide) (fun c173 => ?_) (fun c173 => ?_)
            · have hf := zifp hf c173
              refine z_aload_n dX10_expression_185 rfl ?_
              refine z_iconst 5 dX10_expression_186 (by decide +kernel) ?_
              obtain ⟨x7, s8, q9, hf⟩ := zbn_of hf
              refine z_cV (as := [_]) hok dX10_expression_187 kX10_152 (tX10_fail hok (d - 1) N 5  q9) rfl (at_Model s5) rfl rfl (by omega) (Nat.le_of_ble_eq_true rfl) (Nat.zero_le _) (Nat.zero_le _) rfl ?_
              obtain ⟨bo10, hf⟩ := zifs hf
              cases hf
              exact z_zret rfl (zbo_n bo10) dX10_expression_190 (Nat.zero_le _) (Nat.zero_le _) (k1 _ _ rfl)
            · have hf := zifn hf c173
              refine z_aload_n dX10_expression_176 rfl ?_
              refine z_getf dX10_expression_177 fX10_79 (at_Model s5) rfl ?_
              refine z_bipush 6 dX10_expression_180 (by decide +kernel) ?_
              refine z_icmp_ne 191 dX10_expression_182 (by decide) (fun c182 => ?_) (fun c182 => ?_)
              · have hf := zifn hf c182
                refine z_iconst 0 dX10_expression_191 (by decide +kernel) ?_
                refine z_istore_n (ls' := [_, _, _, _]) dX10_expression_192 (by decide) rfl ?_
                refine z_goto 19 dX10_expression_193 (by decide) ?_
                refine z_mask (ls' := [_, _, _, _]) [true, true, true, false] rfl ?_
                exact hrec v1 0 s5 hf
              · have hf := zifp hf c182
                refine z_aload_n dX10_expression_185 rfl ?_
                refine z_iconst 5 dX10_expression_186 (by decide +kernel) ?_
                obtain ⟨x11, s12, q13, hf⟩ := zbn_of hf
                refine z_cV (as := [_]) hok dX10_expression_187 kX10_152 (tX10_fail hok (d - 1) N 5  q13) rfl (at_Model s5) rfl rfl (by omega) (Nat.le_of_ble_eq_true rfl) (Nat.zero_le _) (Nat.zero_le _) rfl ?_
                obtain ⟨bo14, hf⟩ := zifs hf
                cases hf
                exact z_zret rfl (zbo_n bo14) dX10_expression_190 (Nat.zero_le _) (Nat.zero_le _) (k1 _ _ rfl)
          · have hf := zifn hf c113
            refine z_aload_n dX10_expression_116 rfl ?_
            refine z_getf dX10_expression_117 fX10_174 (at_Model s5) rfl ?_
            refine z_if_le 169 dX10_expression_120 (by decide) (fun c120 => ?_) (fun c120 => ?_)
            · have hf := zifp hf c120
              refine z_aload_n dX10_expression_169 rfl ?_
              refine z_getf dX10_expression_170 fX10_174 (at_Model s5) rfl ?_
              refine z_if_gt 185 dX10_expression_173 (by decide) (fun c173 => ?_) (fun c173 => ?_)
              · have hf := zifp hf c173
                refine z_aload_n dX10_expression_185 rfl ?_
                refine z_iconst 5 dX10_expression_186 (by decide +kernel) ?_
                obtain ⟨x15, s16, q17, hf⟩ := zbn_of hf
                refine z_cV (as := [_]) hok dX10_expression_187 kX10_152 (tX10_fail hok (d - 1) N 5  q17) rfl (at_Model s5) rfl rfl (by omega) (Nat.le_of_ble_eq_true rfl) (Nat.zero_le _) (Nat.zero_le _) rfl ?_
                obtain ⟨bo18, hf⟩ := zifs hf
                cases hf
                exact z_zret rfl (zbo_n bo18) dX10_expression_190 (Nat.zero_le _) (Nat.zero_le _) (k1 _ _ rfl)
              · have hf := zifn hf c173
                refine z_aload_n dX10_expression_176 rfl ?_
                refine z_getf dX10_expression_177 fX10_79 (at_Model s5) rfl ?_
                refine z_bipush 6 dX10_expression_180 (by decide +kernel) ?_
                refine z_icmp_ne 191 dX10_expression_182 (by decide) (fun c182 => ?_) (fun c182 => ?_)
                · have hf := zifn hf c182
                  refine z_iconst 0 dX10_expression_191 (by decide +kernel) ?_
                  refine z_istore_n (ls' := [_, _, _, _]) dX10_expression_192 (by decide) rfl ?_
                  refine z_goto 19 dX10_expression_193 (by decide) ?_
                  refine z_mask (ls' := [_, _, _, _]) [true, true, true, false] rfl ?_
                  exact hrec v1 0 s5 hf
                · have hf := zifp hf c182
                  refine z_aload_n dX10_expression_185 rfl ?_
                  refine z_iconst 5 dX10_expression_186 (by decide +kernel) ?_
                  obtain ⟨x19, s20, q21, hf⟩ := zbn_of hf
                  refine z_cV (as := [_]) hok dX10_expression_187 kX10_152 (tX10_fail hok (d - 1) N 5  q21) rfl (at_Model s5) rfl rfl (by omega) (Nat.le_of_ble_eq_true rfl) (Nat.zero_le _) (Nat.zero_le _) rfl ?_
                  obtain ⟨bo22, hf⟩ := zifs hf
                  cases hf
                  exact z_zret rfl (zbo_n bo22) dX10_expression_190 (Nat.zero_le _) (Nat.zero_le _) (k1 _ _ rfl)
            · have hf := zifn hf c120
              refine z_aload_n dX10_expression_123 rfl ?_
              refine z_iconst 0 dX10_expression_124 (by decide +kernel) ?_
              obtain ⟨x23, s24, q25, hf⟩ := zbn_of hf
              refine z_cV (as := [_]) hok dX10_expression_125 kX10_196 (tX10_reduce hok (d - 1) (by omega) N 0  q25) rfl (at_Model s5) rfl rfl (by omega) (Nat.le_of_ble_eq_true rfl) (Nat.zero_le _) (Nat.zero_le _) rfl ?_
              refine z_aload_n dX10_expression_128 rfl ?_
              refine z_dup dX10_expression_129 rfl ?_
              refine z_getf dX10_expression_130 fX10_155 (at_Model s24) rfl ?_
              refine z_iconst 1 dX10_expression_133 (by decide +kernel) ?_
              refine z_isub dX10_expression_134 ?_
              refine z_putf dX10_expression_135 fX10_155 wX10_23 (at_Model s24) (Nat.le_of_ble_eq_true rfl) (fun _ => rfl) (fun _ => rfl) (st_Model_23 s24 ((s24.1 3323) - 1)) ?_
              refine z_aload_n dX10_expression_138 rfl ?_
              refine z_dup dX10_expression_139 rfl ?_
              refine z_getf dX10_expression_140 fX10_174 (at_Model (zsc s24 3323 ((s24.1 3323) - 1))) rfl ?_
              refine z_iconst 1 dX10_expression_143 (by decide +kernel) ?_
              refine z_isub dX10_expression_144 ?_
              refine z_putf dX10_expression_145 fX10_174 wX10_27 (at_Model (zsc s24 3323 ((s24.1 3323) - 1))) (Nat.le_of_ble_eq_true rfl) (fun _ => rfl) (fun _ => rfl) (st_Model_27 (zsc s24 3323 ((s24.1 3323) - 1)) ((s24.1 3327) - 1)) ?_
              refine z_aload_n dX10_expression_148 rfl ?_
              refine z_dup dX10_expression_149 rfl ?_
              refine z_getf dX10_expression_150 fX10_161 (at_Model (zsc (zsc s24 3323 ((s24.1 3323) - 1)) 3327 ((s24.1 3327) - 1))) rfl ?_
              refine z_iconst 1 dX10_expression_153 (by decide +kernel) ?_
              refine z_isub dX10_expression_154 ?_
              refine z_putf dX10_expression_155 fX10_161 wX10_26 (at_Model (zsc (zsc s24 3323 ((s24.1 3323) - 1)) 3327 ((s24.1 3327) - 1))) (Nat.le_of_ble_eq_true rfl) (fun _ => rfl) (fun _ => rfl) (st_Model_26 (zsc (zsc s24 3323 ((s24.1 3323) - 1)) 3327 ((s24.1 3327) - 1)) ((s24.1 3326) - 1)) ?_
              refine z_aload_n dX10_expression_158 rfl ?_
              obtain ⟨x26, s27, q28, hf⟩ := zbn_of hf
              refine z_cV (as := []) hok dX10_expression_159 kX10_187 (tX10_ahead hok (d - 1) (by omega) N   q28) rfl (at_Model (zsc (zsc (zsc s24 3323 ((s24.1 3323) - 1)) 3327 ((s24.1 3327) - 1)) 3326 ((s24.1 3326) - 1))) rfl rfl (by omega) (Nat.le_of_ble_eq_true rfl) (Nat.zero_le _) (Nat.zero_le _) rfl ?_
              refine z_aload_n dX10_expression_162 rfl ?_
              obtain ⟨x29, s30, q31, hf⟩ := zbn_of hf
              refine z_cV (as := []) hok dX10_expression_163 kX10_177 (tX10_next hok (d - 1) (by omega) N   q31) rfl (at_Model s27) rfl rfl (by omega) (Nat.le_of_ble_eq_true rfl) (Nat.zero_le _) (Nat.zero_le _) rfl ?_
              refine z_goto 193 dX10_expression_166 (by decide) ?_
              refine z_goto 19 dX10_expression_193 (by decide) ?_
              refine z_mask (ls' := [_, _, _, _]) [true, true, true, false] rfl ?_
              exact hrec v1 v2 s30 hf
        · have hf := zifn hf c58
          refine z_aload_n dX10_expression_61 rfl ?_
          refine z_iload_n dX10_expression_62 rfl ?_
          obtain ⟨x32, s33, q34, hf⟩ := zbn_of hf
          refine z_cS (as := [_]) hok dX10_expression_63 kX10_164 (tX10_binds hok (d - 1) N x1  q34) rfl rfl (by omega) (Nat.le_of_ble_eq_true rfl) (Nat.zero_le _) (Nat.zero_le _) rfl ?_
          obtain ⟨x35, s36, q37, hf⟩ := zbn_of hf
          refine z_cV (as := [_]) hok dX10_expression_66 kX10_196 (tX10_reduce hok (d - 1) (by omega) N x32  q37) rfl (at_Model s33) rfl rfl (by omega) (Nat.le_of_ble_eq_true rfl) (Nat.zero_le _) (Nat.zero_le _) rfl ?_
          refine z_aload_n dX10_expression_69 rfl ?_
          obtain ⟨x38, s39, q40, hf⟩ := zbn_of hf
          refine z_cV (as := []) hok dX10_expression_70 kX10_180 (tX10_tally hok (d - 1) (by omega) N   q40) rfl (at_Model s36) rfl rfl (by omega) (Nat.le_of_ble_eq_true rfl) (Nat.zero_le _) (Nat.zero_le _) rfl ?_
          refine z_if_ne 78 dX10_expression_73 (by decide) (fun c73 => ?_) (fun c73 => ?_)
          · have hf := zifn hf c73
            refine z_aload_n dX10_expression_78 rfl ?_
            refine z_getf dX10_expression_79 fX10_41 (at_Model s39) rfl ?_
            refine z_aload_n dX10_expression_82 rfl ?_
            refine z_getf dX10_expression_83 fX10_155 (at_Model s39) rfl ?_
            refine z_iload_n dX10_expression_86 rfl ?_
            obtain ⟨hi41, hf⟩ := zifs hf
            refine z_iastore dX10_expression_87 (at_arr s39 43 (by decide)) (zga_in hi41) (st_arr s39 43 (by decide) (s39.1 3323) x1) ?_
            refine z_aload_n dX10_expression_88 rfl ?_
            refine z_dup dX10_expression_89 rfl ?_
            refine z_getf dX10_expression_90 fX10_155 (at_Model (zsr s39 43 (s39.1 3323) x1)) rfl ?_
            refine z_iconst 1 dX10_expression_93 (by decide +kernel) ?_
            refine z_iadd dX10_expression_94 ?_
            refine z_putf dX10_expression_95 fX10_155 wX10_23 (at_Model (zsr s39 43 (s39.1 3323) x1)) (Nat.le_of_ble_eq_true rfl) (fun _ => rfl) (fun _ => rfl) (st_Model_23 (zsr s39 43 (s39.1 3323) x1) ((s39.1 3323) + 1)) ?_
            refine z_aload_n dX10_expression_98 rfl ?_
            obtain ⟨x42, s43, q44, hf⟩ := zbn_of hf
            refine z_cV (as := []) hok dX10_expression_99 kX10_177 (tX10_next hok (d - 1) (by omega) N   q44) rfl (at_Model (zsc (zsr s39 43 (s39.1 3323) x1) 3323 ((s39.1 3323) + 1))) rfl rfl (by omega) (Nat.le_of_ble_eq_true rfl) (Nat.zero_le _) (Nat.zero_le _) rfl ?_
            refine z_iconst 1 dX10_expression_102 (by decide +kernel) ?_
            refine z_istore_n (ls' := [_, _, _, _]) dX10_expression_103 (by decide) rfl ?_
            refine z_goto 193 dX10_expression_104 (by decide) ?_
            refine z_goto 19 dX10_expression_193 (by decide) ?_
            refine z_mask (ls' := [_, _, _, _]) [true, true, true, false] rfl ?_
            exact hrec 1 v2 s43 hf
          · have hf := zifp hf c73
            refine z_iconst 0 dX10_expression_76 (by decide +kernel) ?_
            cases hf
            exact z_zret rfl (by decide) dX10_expression_77 (Nat.zero_le _) (Nat.zero_le _) (k1 _ _ rfl)
      · have hf := zifn hf c24
        refine z_aload_n dX10_expression_27 rfl ?_
        obtain ⟨x45, s46, q47, hf⟩ := zbn_of hf
        refine z_cV (as := []) hok dX10_expression_28 kX10_190 (tX10_wanted hok (d - 1) (by omega) N   q47) rfl (at_Model s) rfl rfl (by omega) (Nat.le_of_ble_eq_true rfl) (Nat.zero_le _) (Nat.zero_le _) rfl ?_
        refine z_istore_n (ls' := [_, _, _, _]) dX10_expression_31 (by decide) rfl ?_
        refine z_iload_n dX10_expression_32 rfl ?_
        refine z_if_ne 38 dX10_expression_33 (by decide) (fun c33 => ?_) (fun c33 => ?_)
        · have hf := zifn hf c33
          refine z_iload_n dX10_expression_38 rfl ?_
          refine z_iconst 2 dX10_expression_39 (by decide +kernel) ?_
          refine z_icmp_ne 47 dX10_expression_40 (by decide) (fun c40 => ?_) (fun c40 => ?_)
          · have hf := zifn hf c40
            refine z_iconst 0 dX10_expression_47 (by decide +kernel) ?_
            refine z_istore_n (ls' := [_, _, _, _]) dX10_expression_48 (by decide) rfl ?_
            refine z_goto 19 dX10_expression_49 (by decide) ?_
            refine z_mask (ls' := [_, _, _, _]) [true, true, true, false] rfl ?_
            exact hrec 0 v2 s46 hf
          · have hf := zifp hf c40
            refine z_iconst 1 dX10_expression_43 (by decide +kernel) ?_
            refine z_goto 48 dX10_expression_44 (by decide) ?_
            refine z_istore_n (ls' := [_, _, _, _]) dX10_expression_48 (by decide) rfl ?_
            refine z_goto 19 dX10_expression_49 (by decide) ?_
            refine z_mask (ls' := [_, _, _, _]) [true, true, true, false] rfl ?_
            exact hrec 1 v2 s46 hf
        · have hf := zifp hf c33
          refine z_iconst 0 dX10_expression_36 (by decide +kernel) ?_
          cases hf
          exact z_zret rfl (by decide) dX10_expression_37 (Nat.zero_le _) (Nat.zero_le _) (k1 _ _ rfl)
noncomputable def fX10_expression (N : Nat)  (s : zS) : Option (Int32 × zS) := zbl (fX10_expression_L19 N  N 1 1 (zsc (zsc (zsc s 3323 0) 3327 0) 3326 1)) (fun x => some x) (fun s51 => zbn (fX10_reduce N 0 s51) (fun x52 s53 => some (1, s53)))
set_option maxHeartbeats 400000 in
set_option maxRecDepth 100000 in
theorem tX10_expression {g : zGl} (hok : zGok g) (d : Nat) (hd : 5 ≤ d) (N : Nat)   {s s' : zS} {w : Int32} (hf : fX10_expression N  s = some (w, s')) : zMet g mX10_expression d 0 0 [.ref 33] (zHp s) (zret (some (.int w)) (zHp s')) := by
  refine zMet.ofW (by decide +kernel) (Nat.le_of_ble_eq_true rfl) ?_
  show zW g mX10_expression d 0 0 51 _ 0 0 (zHp s) [some (.ref 33), none, none, none] [] 0
  unfold fX10_expression at hf
  refine z_aload_n dX10_expression_0 rfl ?_
  refine z_iconst 0 dX10_expression_1 (by decide +kernel) ?_
  refine z_putf dX10_expression_2 fX10_155 wX10_23 (at_Model s) (Nat.le_of_ble_eq_true rfl) (fun _ => rfl) (fun _ => rfl) (st_Model_23 s 0) ?_
  refine z_aload_n dX10_expression_5 rfl ?_
  refine z_iconst 0 dX10_expression_6 (by decide +kernel) ?_
  refine z_putf dX10_expression_7 fX10_174 wX10_27 (at_Model (zsc s 3323 0)) (Nat.le_of_ble_eq_true rfl) (fun _ => rfl) (fun _ => rfl) (st_Model_27 (zsc s 3323 0) 0) ?_
  refine z_aload_n dX10_expression_10 rfl ?_
  refine z_iconst 1 dX10_expression_11 (by decide +kernel) ?_
  refine z_putf dX10_expression_12 fX10_161 wX10_26 (at_Model (zsc (zsc s 3323 0) 3327 0)) (Nat.le_of_ble_eq_true rfl) (fun _ => rfl) (fun _ => rfl) (st_Model_26 (zsc (zsc s 3323 0) 3327 0) 1) ?_
  refine z_iconst 1 dX10_expression_15 (by decide +kernel) ?_
  refine z_istore_n (ls' := [_, _, _, _]) dX10_expression_16 (by decide) rfl ?_
  refine z_iconst 1 dX10_expression_17 (by decide +kernel) ?_
  refine z_istore_n (ls' := [_, _, _, _]) dX10_expression_18 (by decide) rfl ?_
  refine z_mask (ls' := [_, _, _, _]) [true, true, true, false] rfl ?_
  rcases zbl_of hf with ⟨lr49, le50, hf⟩ | ⟨lr49, le50, hf⟩
  · cases hf
    exact tX10_expression_L19 hok d (by omega) N   N 1 1 (zsc (zsc (zsc s 3323 0) 3327 0) 3326 1) _ le50 (fun w1 s1 hh => by cases hh; exact ⟨rfl, rfl⟩) (fun  _ hh => by cases hh)
  · obtain ⟨s51, rfl⟩ : ∃ z, z = lr49 := ⟨_, rfl⟩
    refine tX10_expression_L19 hok d (by omega) N   N 1 1 (zsc (zsc (zsc s 3323 0) 3327 0) 3326 1) _ le50 (fun w1 s1 hh => by cases hh) (fun  _ hh => ?_)
    cases hh
    refine z_aload_n dX10_expression_196 rfl ?_
    refine z_iconst 0 dX10_expression_197 (by decide +kernel) ?_
    obtain ⟨x52, s53, q54, hf⟩ := zbn_of hf
    refine z_cV (as := [_]) hok dX10_expression_198 kX10_196 (tX10_reduce hok (d - 1) (by omega) N 0  q54) rfl (at_Model s51) rfl rfl (by omega) (Nat.le_of_ble_eq_true rfl) (Nat.zero_le _) (Nat.zero_le _) rfl ?_
    refine z_iconst 1 dX10_expression_201 (by decide +kernel) ?_
    cases hf
    exact z_zret rfl (by decide) dX10_expression_202 (Nat.zero_le _) (Nat.zero_le _) ⟨rfl, rfl⟩

noncomputable def fX10_marked_J27 (N : Nat) (p0 : Int32)  (s : zS) : Option (Int32 × zS) := zbn (fX10_mark N  s) (fun x4 s5 => if x4 = 0 then zbn (fX10_fail N 6 s5) (fun x27 s28 => if zbo x27 = true then some (x27, s28) else none) else if zga (p0 + 2) (zlen 38) = true then zbn (fX10_next N  (zsr s5 38 (p0 + 2) x4)) (fun x8 s9 => zbn (fX10_isSign N 40 s9) (fun x11 s12 => if x11 = 0 then zbn (fX10_fail N 5 s12) (fun x23 s24 => if zbo x23 = true then some (x23, s24) else none) else zbn (fX10_next N  s12) (fun x14 s15 => zbn (fX10_expression N  s15) (fun x17 s18 => if x17 = 0 then some (0, s18) else zbn (fX10_closes N  s18) (fun x20 s21 => if x20 = 0 then some (0, s21) else some (1, s21)))))) else none)
set_option maxHeartbeats 400000 in
set_option maxRecDepth 100000 in
theorem tX10_marked_J27 {g : zGl} (hok : zGok g) (d : Nat) (hd : 6 ≤ d) (N : Nat) (p0 : Int32)  {mc ms n0 : Nat}  {s s' : zS} {w : Int32} (hf : fX10_marked_J27 N p0  s = some (w, s')) : zW g mX10_marked d mc ms n0 (zret (some (.int w)) (zHp s')) 0 0 (zHp s) [some (.ref 33), some (.int p0), none] [] 27 := by
  unfold fX10_marked_J27 at hf
  refine z_aload_n dX10_marked_27 rfl ?_
  obtain ⟨x4, s5, q6, hf⟩ := zbn_of hf
  refine z_cV (as := []) hok dX10_marked_28 kX10_202 (tX10_mark hok (d - 1) (by omega) N   q6) rfl (at_Model s) rfl rfl (by omega) (Nat.le_of_ble_eq_true rfl) (Nat.zero_le _) (Nat.zero_le _) rfl ?_
  refine z_istore_n (ls' := [_, _, _]) dX10_marked_31 (by decide) rfl ?_
  refine z_iload_n dX10_marked_32 rfl ?_
  refine z_if_ne 43 dX10_marked_33 (by decide) (fun c33 => ?_) (fun c33 => ?_)
  · have hf := zifn hf c33
    refine z_aload_n dX10_marked_43 rfl ?_
    refine z_getf dX10_marked_44 fX10_22 (at_Model s5) rfl ?_
    refine z_iload_n dX10_marked_47 rfl ?_
    refine z_iconst 2 dX10_marked_48 (by decide +kernel) ?_
    refine z_iadd dX10_marked_49 ?_
    refine z_iload_n dX10_marked_50 rfl ?_
    obtain ⟨hi7, hf⟩ := zifs hf
    refine z_iastore dX10_marked_51 (at_arr s5 38 (by decide)) (zga_in hi7) (st_arr s5 38 (by decide) (p0 + 2) x4) ?_
    refine z_aload_n dX10_marked_52 rfl ?_
    obtain ⟨x8, s9, q10, hf⟩ := zbn_of hf
    refine z_cV (as := []) hok dX10_marked_53 kX10_177 (tX10_next hok (d - 1) (by omega) N   q10) rfl (at_Model (zsr s5 38 (p0 + 2) x4)) rfl rfl (by omega) (Nat.le_of_ble_eq_true rfl) (Nat.zero_le _) (Nat.zero_le _) rfl ?_
    refine z_aload_n dX10_marked_56 rfl ?_
    refine z_bipush 40 dX10_marked_57 (by decide +kernel) ?_
    obtain ⟨x11, s12, q13, hf⟩ := zbn_of hf
    refine z_cV (as := [_]) hok dX10_marked_59 kX10_167 (tX10_isSign hok (d - 1) N 40  q13) rfl (at_Model s9) rfl rfl (by omega) (Nat.le_of_ble_eq_true rfl) (Nat.zero_le _) (Nat.zero_le _) rfl ?_
    refine z_if_ne 71 dX10_marked_62 (by decide) (fun c62 => ?_) (fun c62 => ?_)
    · have hf := zifn hf c62
      refine z_aload_n dX10_marked_71 rfl ?_
      obtain ⟨x14, s15, q16, hf⟩ := zbn_of hf
      refine z_cV (as := []) hok dX10_marked_72 kX10_177 (tX10_next hok (d - 1) (by omega) N   q16) rfl (at_Model s12) rfl rfl (by omega) (Nat.le_of_ble_eq_true rfl) (Nat.zero_le _) (Nat.zero_le _) rfl ?_
      refine z_aload_n dX10_marked_75 rfl ?_
      obtain ⟨x17, s18, q19, hf⟩ := zbn_of hf
      refine z_cV (as := []) hok dX10_marked_76 kX10_205 (tX10_expression hok (d - 1) (by omega) N   q19) rfl (at_Model s15) rfl rfl (by omega) (Nat.le_of_ble_eq_true rfl) (Nat.zero_le _) (Nat.zero_le _) rfl ?_
      refine z_if_eq 93 dX10_marked_79 (by decide) (fun c79 => ?_) (fun c79 => ?_)
      · have hf := zifp hf c79
        refine z_iconst 0 dX10_marked_93 (by decide +kernel) ?_
        cases hf
        exact z_zret rfl (by decide) dX10_marked_94 (Nat.zero_le _) (Nat.zero_le _) ⟨rfl, rfl⟩
      · have hf := zifn hf c79
        refine z_aload_n dX10_marked_82 rfl ?_
        obtain ⟨x20, s21, q22, hf⟩ := zbn_of hf
        refine z_cV (as := []) hok dX10_marked_83 kX10_199 (tX10_closes hok (d - 1) (by omega) N   q22) rfl (at_Model s18) rfl rfl (by omega) (Nat.le_of_ble_eq_true rfl) (Nat.zero_le _) (Nat.zero_le _) rfl ?_
        refine z_if_eq 93 dX10_marked_86 (by decide) (fun c86 => ?_) (fun c86 => ?_)
        · have hf := zifp hf c86
          refine z_iconst 0 dX10_marked_93 (by decide +kernel) ?_
          cases hf
          exact z_zret rfl (by decide) dX10_marked_94 (Nat.zero_le _) (Nat.zero_le _) ⟨rfl, rfl⟩
        · have hf := zifn hf c86
          refine z_iconst 1 dX10_marked_89 (by decide +kernel) ?_
          refine z_goto 94 dX10_marked_90 (by decide) ?_
          cases hf
          exact z_zret rfl (by decide) dX10_marked_94 (Nat.zero_le _) (Nat.zero_le _) ⟨rfl, rfl⟩
    · have hf := zifp hf c62
      refine z_aload_n dX10_marked_65 rfl ?_
      refine z_iconst 5 dX10_marked_66 (by decide +kernel) ?_
      obtain ⟨x23, s24, q25, hf⟩ := zbn_of hf
      refine z_cV (as := [_]) hok dX10_marked_67 kX10_152 (tX10_fail hok (d - 1) N 5  q25) rfl (at_Model s12) rfl rfl (by omega) (Nat.le_of_ble_eq_true rfl) (Nat.zero_le _) (Nat.zero_le _) rfl ?_
      obtain ⟨bo26, hf⟩ := zifs hf
      cases hf
      exact z_zret rfl (zbo_n bo26) dX10_marked_70 (Nat.zero_le _) (Nat.zero_le _) ⟨rfl, rfl⟩
  · have hf := zifp hf c33
    refine z_aload_n dX10_marked_36 rfl ?_
    refine z_bipush 6 dX10_marked_37 (by decide +kernel) ?_
    obtain ⟨x27, s28, q29, hf⟩ := zbn_of hf
    refine z_cV (as := [_]) hok dX10_marked_39 kX10_152 (tX10_fail hok (d - 1) N 6  q29) rfl (at_Model s5) rfl rfl (by omega) (Nat.le_of_ble_eq_true rfl) (Nat.zero_le _) (Nat.zero_le _) rfl ?_
    obtain ⟨bo30, hf⟩ := zifs hf
    cases hf
    exact z_zret rfl (zbo_n bo30) dX10_marked_42 (Nat.zero_le _) (Nat.zero_le _) ⟨rfl, rfl⟩
noncomputable def fX10_marked (N : Nat) (p0 : Int32) (s : zS) : Option (Int32 × zS) := zbn (fX10_next N  s) (fun x1 s2 => if (s2.1 3315) = 1 then fX10_marked_J27 N p0  s2 else if (s2.1 3315) = 7 then fX10_marked_J27 N p0  s2 else zbn (fX10_fail N 5 s2) (fun x31 s32 => if zbo x31 = true then some (x31, s32) else none))
set_option maxHeartbeats 400000 in
set_option maxRecDepth 100000 in
theorem tX10_marked {g : zGl} (hok : zGok g) (d : Nat) (hd : 6 ≤ d) (N : Nat) (p0 : Int32)  {s s' : zS} {w : Int32} (hf : fX10_marked N p0 s = some (w, s')) : zMet g mX10_marked d 0 0 [.ref 33, .int p0] (zHp s) (zret (some (.int w)) (zHp s')) := by
  refine zMet.ofW (by decide +kernel) (Nat.le_of_ble_eq_true rfl) ?_
  show zW g mX10_marked d 0 0 51 _ 0 0 (zHp s) [some (.ref 33), some (.int p0), none] [] 0
  unfold fX10_marked at hf
  refine z_aload_n dX10_marked_0 rfl ?_
  obtain ⟨x1, s2, q3, hf⟩ := zbn_of hf
  refine z_cV (as := []) hok dX10_marked_1 kX10_177 (tX10_next hok (d - 1) (by omega) N   q3) rfl (at_Model s) rfl rfl (by omega) (Nat.le_of_ble_eq_true rfl) (Nat.zero_le _) (Nat.zero_le _) rfl ?_
  refine z_aload_n dX10_marked_4 rfl ?_
  refine z_getf dX10_marked_5 fX10_79 (at_Model s2) rfl ?_
  refine z_iconst 1 dX10_marked_8 (by decide +kernel) ?_
  refine z_icmp_eq 27 dX10_marked_9 (by decide) (fun c9 => ?_) (fun c9 => ?_)
  · have hf := zifp hf c9
    refine z_mask (ls' := [_, _, _]) [true, true, false] rfl ?_
    exact tX10_marked_J27 hok d (by omega) N p0   hf
  · have hf := zifn hf c9
    refine z_aload_n dX10_marked_12 rfl ?_
    refine z_getf dX10_marked_13 fX10_79 (at_Model s2) rfl ?_
    refine z_bipush 7 dX10_marked_16 (by decide +kernel) ?_
    refine z_icmp_eq 27 dX10_marked_18 (by decide) (fun c18 => ?_) (fun c18 => ?_)
    · have hf := zifp hf c18
      refine z_mask (ls' := [_, _, _]) [true, true, false] rfl ?_
      exact tX10_marked_J27 hok d (by omega) N p0   hf
    · have hf := zifn hf c18
      refine z_aload_n dX10_marked_21 rfl ?_
      refine z_iconst 5 dX10_marked_22 (by decide +kernel) ?_
      obtain ⟨x31, s32, q33, hf⟩ := zbn_of hf
      refine z_cV (as := [_]) hok dX10_marked_23 kX10_152 (tX10_fail hok (d - 1) N 5  q33) rfl (at_Model s2) rfl rfl (by omega) (Nat.le_of_ble_eq_true rfl) (Nat.zero_le _) (Nat.zero_le _) rfl ?_
      obtain ⟨bo34, hf⟩ := zifs hf
      cases hf
      exact z_zret rfl (zbo_n bo34) dX10_marked_26 (Nat.zero_le _) (Nat.zero_le _) ⟨rfl, rfl⟩

noncomputable def fX10_takeOperand_J421 (N : Nat)  (v2 : Int32) (s : zS) : Option (Int32 × zS) := if zga 2 (zlen 36) = true then if zga (v2 + 3) (zlen 38) = true then if zga (v2 + 4) (zlen 38) = true then some (1, (zsr s 38 (v2 + 4) ((s.2.1 36 (2 : Int32).toNatClampNeg) - (s.2.1 38 (v2 + 3).toNatClampNeg)))) else none else none else none
set_option maxHeartbeats 400000 in
set_option maxRecDepth 100000 in
theorem tX10_takeOperand_J421 {g : zGl} (hok : zGok g) (d : Nat) (hd : 6 ≤ d) (N : Nat)   {mc ms n0 : Nat} (v2 : Int32) {s s' : zS} {w : Int32} (hf : fX10_takeOperand_J421 N  v2 s = some (w, s')) : zW g mX10_takeOperand d mc ms n0 (zret (some (.int w)) (zHp s')) 0 0 (zHp s) [some (.ref 33), none, some (.int v2), none, none] [] 421 := by
  unfold fX10_takeOperand_J421 at hf
  refine z_aload_n dX10_takeOperand_421 rfl ?_
  refine z_getf dX10_takeOperand_422 fX10_22 (at_Model s) rfl ?_
  refine z_iload_n dX10_takeOperand_425 rfl ?_
  refine z_iconst 4 dX10_takeOperand_426 (by decide +kernel) ?_
  refine z_iadd dX10_takeOperand_427 ?_
  refine z_aload_n dX10_takeOperand_428 rfl ?_
  refine z_getf dX10_takeOperand_429 fX10_16 (at_Model s) rfl ?_
  refine z_iconst 2 dX10_takeOperand_432 (by decide +kernel) ?_
  obtain ⟨hi27, hf⟩ := zifs hf
  refine z_iald dX10_takeOperand_433 (at_arr s 36 (by decide)) (zga_in hi27) ?_
  refine z_aload_n dX10_takeOperand_434 rfl ?_
  refine z_getf dX10_takeOperand_435 fX10_22 (at_Model s) rfl ?_
  refine z_iload_n dX10_takeOperand_438 rfl ?_
  refine z_iconst 3 dX10_takeOperand_439 (by decide +kernel) ?_
  refine z_iadd dX10_takeOperand_440 ?_
  obtain ⟨hi28, hf⟩ := zifs hf
  refine z_iald dX10_takeOperand_441 (at_arr s 38 (by decide)) (zga_in hi28) ?_
  refine z_isub dX10_takeOperand_442 ?_
  obtain ⟨hi29, hf⟩ := zifs hf
  refine z_iastore dX10_takeOperand_443 (at_arr s 38 (by decide)) (zga_in hi29) (st_arr s 38 (by decide) (v2 + 4) ((s.2.1 36 (2 : Int32).toNatClampNeg) - (s.2.1 38 (v2 + 3).toNatClampNeg))) ?_
  refine z_iconst 1 dX10_takeOperand_444 (by decide +kernel) ?_
  cases hf
  exact z_zret rfl (by decide) dX10_takeOperand_445 (Nat.zero_le _) (Nat.zero_le _) ⟨rfl, rfl⟩
noncomputable def fX10_takeOperand_J395 (N : Nat)  (v2 : Int32) (k0 : Int32) (s : zS) : Option (Int32 × zS) := if k0 = 0 then some (0, s) else zbn (fX10_isSign N 40 s) (fun x24 s25 => if x24 = 0 then fX10_takeOperand_J421 N  v2 s25 else zbn (fX10_based N v2 s25) (fun x30 s31 => if x30 = 0 then some (0, s31) else fX10_takeOperand_J421 N  v2 s31))
set_option maxHeartbeats 400000 in
set_option maxRecDepth 100000 in
theorem tX10_takeOperand_J395 {g : zGl} (hok : zGok g) (d : Nat) (hd : 6 ≤ d) (N : Nat)   {mc ms n0 : Nat} (v2 : Int32) (k0 : Int32) {s s' : zS} {w : Int32} (hf : fX10_takeOperand_J395 N  v2 k0 s = some (w, s')) : zW g mX10_takeOperand d mc ms n0 (zret (some (.int w)) (zHp s')) 0 0 (zHp s) [some (.ref 33), none, some (.int v2), none, none] [.int k0] 395 := by
  unfold fX10_takeOperand_J395 at hf
  refine z_istore (ls' := [_, _, _, _, _]) dX10_takeOperand_395 (by decide) rfl ?_
  refine z_iload dX10_takeOperand_397 rfl ?_
  refine z_if_eq 419 dX10_takeOperand_399 (by decide) (fun c399 => ?_) (fun c399 => ?_)
  · have hf := zifp hf c399
    refine z_iconst 0 dX10_takeOperand_419 (by decide +kernel) ?_
    cases hf
    exact z_zret rfl (by decide) dX10_takeOperand_420 (Nat.zero_le _) (Nat.zero_le _) ⟨rfl, rfl⟩
  · have hf := zifn hf c399
    refine z_aload_n dX10_takeOperand_402 rfl ?_
    refine z_bipush 40 dX10_takeOperand_403 (by decide +kernel) ?_
    obtain ⟨x24, s25, q26, hf⟩ := zbn_of hf
    refine z_cV (as := [_]) hok dX10_takeOperand_405 kX10_167 (tX10_isSign hok (d - 1) N 40  q26) rfl (at_Model s) rfl rfl (by omega) (Nat.le_of_ble_eq_true rfl) (Nat.zero_le _) (Nat.zero_le _) rfl ?_
    refine z_if_eq 421 dX10_takeOperand_408 (by decide) (fun c408 => ?_) (fun c408 => ?_)
    · have hf := zifp hf c408
      refine z_mask (ls' := [_, _, _, _, _]) [true, false, true, false, false] rfl ?_
      exact tX10_takeOperand_J421 hok d (by omega) N   v2 hf
    · have hf := zifn hf c408
      refine z_aload_n dX10_takeOperand_411 rfl ?_
      refine z_iload_n dX10_takeOperand_412 rfl ?_
      obtain ⟨x30, s31, q32, hf⟩ := zbn_of hf
      refine z_cV (as := [_]) hok dX10_takeOperand_413 kX10_214 (tX10_based hok (d - 1) (by omega) N v2  q32) rfl (at_Model s25) rfl rfl (by omega) (Nat.le_of_ble_eq_true rfl) (Nat.zero_le _) (Nat.zero_le _) rfl ?_
      refine z_if_ne 421 dX10_takeOperand_416 (by decide) (fun c416 => ?_) (fun c416 => ?_)
      · have hf := zifn hf c416
        refine z_mask (ls' := [_, _, _, _, _]) [true, false, true, false, false] rfl ?_
        exact tX10_takeOperand_J421 hok d (by omega) N   v2 hf
      · have hf := zifp hf c416
        refine z_iconst 0 dX10_takeOperand_419 (by decide +kernel) ?_
        cases hf
        exact z_zret rfl (by decide) dX10_takeOperand_420 (Nat.zero_le _) (Nat.zero_le _) ⟨rfl, rfl⟩
noncomputable def fX10_takeOperand_L260S (N : Nat)  (rec : Int32 → Int32 → zS → Option ((Int32 × zS) ⊕ (Int32 × zS))) (v2 : Int32) (v4 : Int32) (s : zS) : Option ((Int32 × zS) ⊕ (Int32 × zS)) := if (s.1 3311) ≤ v4 then some (.inr (v2, s)) else if zga v4 (zlen 48) = true then if zga ((s.1 3312) + v4) (zlen 42) = true then rec v2 (v4 + 1) (zsr s 42 ((s.1 3312) + v4) (s.2.1 48 v4.toNatClampNeg)) else none else none
noncomputable def fX10_takeOperand_L260 (N : Nat)  (n : Nat) : Int32 → Int32 → zS → Option ((Int32 × zS) ⊕ (Int32 × zS)) := Nat.rec (motive := fun _ => Int32 → Int32 → zS → Option ((Int32 × zS) ⊕ (Int32 × zS))) (fun _ _ _ => none) (fun _ rec => fX10_takeOperand_L260S N  rec) n
set_option maxHeartbeats 400000 in
set_option maxRecDepth 100000 in
theorem tX10_takeOperand_L260 {g : zGl} (hok : zGok g) (d : Nat) (hd : 7 ≤ d) (N : Nat)   {mc ms n0 : Nat} {Q : zO → List zE → Prop} (n : Nat) : ∀ (v2 : Int32) (v4 : Int32) (s : zS) (r : (Int32 × zS) ⊕ (Int32 × zS)) (hf : fX10_takeOperand_L260 N  n v2 v4 s = some r) (k1 : ∀ w s', r = .inl (w, s') → Q (.inl (some (.int w))) (zHp s')) (k2 : ∀ (y2 : Int32) (s' : zS), r = .inr (y2, s') → zW g mX10_takeOperand d mc ms n0 Q 0 0 (zHp s') [some (.ref 33), none, some (.int y2), none, none] [] 294), zW g mX10_takeOperand d mc ms n0 Q 0 0 (zHp s) [some (.ref 33), none, some (.int v2), none, some (.int v4)] [] 260 := by
  induction n with
  | zero => intro v2 v4 s r hf; cases hf
  | succ n ih =>
    intro v2 v4 s r hf k1 k2
    have hrec : ∀ (v2 : Int32) (v4 : Int32) (s : zS) (r1 : (Int32 × zS) ⊕ (Int32 × zS)), fX10_takeOperand_L260 N  n v2 v4 s = some r1 → r1 = r → zW g mX10_takeOperand d mc ms n0 Q 0 0 (zHp s) [some (.ref 33), none, some (.int v2), none, some (.int v4)] [] 260 := fun v2 v4 s r1 h e => ih v2 v4 s r1 h (by subst e; exact k1) (by subst e; exact k2)
    have hrec : ∀ (v2 : Int32) (v4 : Int32) (s : zS), fX10_takeOperand_L260 N  n v2 v4 s = some r → zW g mX10_takeOperand d mc ms n0 Q 0 0 (zHp s) [some (.ref 33), none, some (.int v2), none, some (.int v4)] [] 260 := fun v2 v4 s h => hrec v2 v4 s r h rfl
    have hf : fX10_takeOperand_L260S N  (fX10_takeOperand_L260 N  n) v2 v4 s = some r := hf
    unfold fX10_takeOperand_L260S at hf
    refine z_iload dX10_takeOperand_260 rfl ?_
    refine z_aload_n dX10_takeOperand_262 rfl ?_
    refine z_getf dX10_takeOperand_263 fX10_126 (at_Model s) rfl ?_
    refine z_icmp_ge 294 dX10_takeOperand_266 (by decide) (fun c266 => ?_) (fun c266 => ?_)
    · have hf := zifp hf c266
      cases hf
      refine z_mask (ls' := [_, _, _, _, _]) [true, false, true, false, false] rfl ?_
      exact k2 _ _ rfl
    · have hf := zifn hf c266
      refine z_aload_n dX10_takeOperand_269 rfl ?_
      refine z_getf dX10_takeOperand_270 fX10_34 (at_Model s) rfl ?_
      refine z_aload_n dX10_takeOperand_273 rfl ?_
      refine z_getf dX10_takeOperand_274 fX10_208 (at_Model s) rfl ?_
      refine z_iload dX10_takeOperand_277 rfl ?_
      refine z_iadd dX10_takeOperand_279 ?_
      refine z_aload_n dX10_takeOperand_280 rfl ?_
      refine z_getf dX10_takeOperand_281 fX10_56 (at_Model s) rfl ?_
      refine z_iload dX10_takeOperand_284 rfl ?_
      obtain ⟨hi55, hf⟩ := zifs hf
      refine z_iald dX10_takeOperand_286 (at_arr s 48 (by decide)) (zga_in hi55) ?_
      obtain ⟨hi56, hf⟩ := zifs hf
      refine z_iastore dX10_takeOperand_287 (at_arr s 42 (by decide)) (zga_in hi56) (st_arr s 42 (by decide) ((s.1 3312) + v4) (s.2.1 48 v4.toNatClampNeg)) ?_
      refine z_iinc (ls' := [_, _, _, _, _]) (v4 + 1) dX10_takeOperand_288 rfl rfl (by decide) rfl ?_
      refine z_goto 260 dX10_takeOperand_291 (by decide) ?_
      refine z_mask (ls' := [_, _, _, _, _]) [true, false, true, false, true] rfl ?_
      exact hrec v2 (v4 + 1) (zsr s 42 ((s.1 3312) + v4) (s.2.1 48 v4.toNatClampNeg)) hf
noncomputable def fX10_takeOperand_J82 (N : Nat)  (k0 : Int32) (s : zS) : Option (Int32 × zS) := if k0 = 0 then zbn (fX10_fail N 5 s) (fun x69 s70 => if zbo x69 = true then some (x69, s70) else none) else if zga 1 (zlen 36) = true then if (s.2.1 36 (1 : Int32).toNatClampNeg) = 800 then zbn (fX10_fail N 8 s) (fun x65 s66 => if zbo x65 = true then some (x65, s66) else none) else if zga 1 (zlen 36) = true then if zga 1 (zlen 36) = true then if zga 1 (zlen 36) = true then if zga (7 * (s.2.1 36 (1 : Int32).toNatClampNeg)) (zlen 38) = true then if zga ((7 * (s.2.1 36 (1 : Int32).toNatClampNeg)) + 1) (zlen 38) = true then if zga ((7 * (s.2.1 36 (1 : Int32).toNatClampNeg)) + 2) (zlen 38) = true then if zga 2 (zlen 36) = true then if zga ((7 * (s.2.1 36 (1 : Int32).toNatClampNeg)) + 3) (zlen 38) = true then if zga ((7 * (s.2.1 36 (1 : Int32).toNatClampNeg)) + 5) (zlen 38) = true then if zga ((7 * (s.2.1 36 (1 : Int32).toNatClampNeg)) + 6) (zlen 38) = true then zbn (fX10_register N  (zsr (zsr (zsr (zsr (zsr (zsr (zsr (zsc s 3325 0) 36 1 ((s.2.1 36 (1 : Int32).toNatClampNeg) + 1)) 38 (7 * (s.2.1 36 (1 : Int32).toNatClampNeg)) 0) 38 ((7 * (s.2.1 36 (1 : Int32).toNatClampNeg)) + 1) (-1)) 38 ((7 * (s.2.1 36 (1 : Int32).toNatClampNeg)) + 2) 0) 38 ((7 * (s.2.1 36 (1 : Int32).toNatClampNeg)) + 3) ((zsr (zsr (zsr (zsr (zsc s 3325 0) 36 1 ((s.2.1 36 (1 : Int32).toNatClampNeg) + 1)) 38 (7 * (s.2.1 36 (1 : Int32).toNatClampNeg)) 0) 38 ((7 * (s.2.1 36 (1 : Int32).toNatClampNeg)) + 1) (-1)) 38 ((7 * (s.2.1 36 (1 : Int32).toNatClampNeg)) + 2) 0).2.1 36 (2 : Int32).toNatClampNeg)) 38 ((7 * (s.2.1 36 (1 : Int32).toNatClampNeg)) + 5) (s.1 3317)) 38 ((7 * (s.2.1 36 (1 : Int32).toNatClampNeg)) + 6) 0)) (fun x12 s13 => if (s13.1 3315) = 4 then if zga (7 * (s.2.1 36 (1 : Int32).toNatClampNeg)) (zlen 38) = true then if zga ((7 * (s.2.1 36 (1 : Int32).toNatClampNeg)) + 1) (zlen 38) = true then if zga ((7 * (s.2.1 36 (1 : Int32).toNatClampNeg)) + 6) (zlen 38) = true then if zga 1 (zlen 36) = true then if zga ((s13.2.1 36 (1 : Int32).toNatClampNeg) - 1) (zlen 49) = true then zbl (fX10_takeOperand_L260 N  N (7 * (s.2.1 36 (1 : Int32).toNatClampNeg)) 0 (zsr (zsr (zsr (zsr s13 38 (7 * (s.2.1 36 (1 : Int32).toNatClampNeg)) 3) 38 ((7 * (s.2.1 36 (1 : Int32).toNatClampNeg)) + 1) (-1)) 38 ((7 * (s.2.1 36 (1 : Int32).toNatClampNeg)) + 6) (s13.1 3311)) 49 ((s13.2.1 36 (1 : Int32).toNatClampNeg) - 1) (s13.1 3312))) (fun x => some x) (fun lq57 => match lq57 with | (y60, s61) => zbn (fX10_next N  (zsc s61 3312 ((s61.1 3312) + (s61.1 3311)))) (fun x62 s63 => fX10_takeOperand_J421 N  y60 s63)) else none else none else none else none else none else if x12 = (-1) then zbn (fX10_isBase N  s13) (fun x15 s16 => if x15 = 0 then zbn (fX10_isSign N 37 s16) (fun x18 s19 => if x18 = 0 then zbn (fX10_expression N  s19) (fun x21 s22 => fX10_takeOperand_J395 N  (7 * (s.2.1 36 (1 : Int32).toNatClampNeg)) x21 s22) else zbn (fX10_marked N (7 * (s.2.1 36 (1 : Int32).toNatClampNeg)) s19) (fun x33 s34 => fX10_takeOperand_J395 N  (7 * (s.2.1 36 (1 : Int32).toNatClampNeg)) x33 s34)) else zbn (fX10_tally N  s16) (fun x36 s37 => if x36 = 0 then some (0, s37) else zbn (fX10_emit N 0 0 s37) (fun x39 s40 => zbn (fX10_based N (7 * (s.2.1 36 (1 : Int32).toNatClampNeg)) s40) (fun x42 s43 => if x42 = 0 then some (0, s43) else fX10_takeOperand_J421 N  (7 * (s.2.1 36 (1 : Int32).toNatClampNeg)) s43)))) else if zga (7 * (s.2.1 36 (1 : Int32).toNatClampNeg)) (zlen 38) = true then if zga ((7 * (s.2.1 36 (1 : Int32).toNatClampNeg)) + 1) (zlen 38) = true then zbn (fX10_next N  (zsr (zsr s13 38 (7 * (s.2.1 36 (1 : Int32).toNatClampNeg)) 1) 38 ((7 * (s.2.1 36 (1 : Int32).toNatClampNeg)) + 1) x12)) (fun x47 s48 => fX10_takeOperand_J421 N  (7 * (s.2.1 36 (1 : Int32).toNatClampNeg)) s48) else none else none) else none else none else none else none else none else none else none else none else none else none else none
set_option maxHeartbeats 400000 in
set_option maxRecDepth 100000 in
theorem tX10_takeOperand_J82 {g : zGl} (hok : zGok g) (d : Nat) (hd : 7 ≤ d) (N : Nat)   {mc ms n0 : Nat} (k0 : Int32) {s s' : zS} {w : Int32} (hf : fX10_takeOperand_J82 N  k0 s = some (w, s')) : zW g mX10_takeOperand d mc ms n0 (zret (some (.int w)) (zHp s')) 0 0 (zHp s) [some (.ref 33), none, none, none, none] [.int k0] 82 := by
  unfold fX10_takeOperand_J82 at hf
  refine z_istore_n (ls' := [_, _, _, _, _]) dX10_takeOperand_82 (by decide) rfl ?_
  refine z_iload_n dX10_takeOperand_83 rfl ?_
  refine z_if_ne 93 dX10_takeOperand_84 (by decide) (fun c84 => ?_) (fun c84 => ?_)
  · have hf := zifn hf c84
    refine z_aload_n dX10_takeOperand_93 rfl ?_
    refine z_getf dX10_takeOperand_94 fX10_16 (at_Model s) rfl ?_
    refine z_iconst 1 dX10_takeOperand_97 (by decide +kernel) ?_
    obtain ⟨hi1, hf⟩ := zifs hf
    refine z_iald dX10_takeOperand_98 (at_arr s 36 (by decide)) (zga_in hi1) ?_
    refine z_sipush 800 dX10_takeOperand_99 (by decide +kernel) ?_
    refine z_icmp_ne 112 dX10_takeOperand_102 (by decide) (fun c102 => ?_) (fun c102 => ?_)
    · have hf := zifn hf c102
      refine z_aload_n dX10_takeOperand_112 rfl ?_
      refine z_iconst 0 dX10_takeOperand_113 (by decide +kernel) ?_
      refine z_putf dX10_takeOperand_114 fX10_149 wX10_25 (at_Model s) (Nat.le_of_ble_eq_true rfl) (fun _ => rfl) (fun _ => rfl) (st_Model_25 s 0) ?_
      refine z_bipush 7 dX10_takeOperand_117 (by decide +kernel) ?_
      refine z_aload_n dX10_takeOperand_119 rfl ?_
      refine z_getf dX10_takeOperand_120 fX10_16 (at_Model (zsc s 3325 0)) rfl ?_
      refine z_iconst 1 dX10_takeOperand_123 (by decide +kernel) ?_
      obtain ⟨hi2, hf⟩ := zifs hf
      refine z_iald dX10_takeOperand_124 (at_arr (zsc s 3325 0) 36 (by decide)) (zga_in hi2) ?_
      refine z_imul dX10_takeOperand_125 ?_
      refine z_istore_n (ls' := [_, _, _, _, _]) dX10_takeOperand_126 (by decide) rfl ?_
      refine z_aload_n dX10_takeOperand_127 rfl ?_
      refine z_getf dX10_takeOperand_128 fX10_16 (at_Model (zsc s 3325 0)) rfl ?_
      refine z_iconst 1 dX10_takeOperand_131 (by decide +kernel) ?_
      refine z_dup2_11 dX10_takeOperand_132 rfl rfl ?_
      obtain ⟨hi3, hf⟩ := zifs hf
      refine z_iald dX10_takeOperand_133 (at_arr (zsc s 3325 0) 36 (by decide)) (zga_in hi3) ?_
      refine z_iconst 1 dX10_takeOperand_134 (by decide +kernel) ?_
      refine z_iadd dX10_takeOperand_135 ?_
      obtain ⟨hi4, hf⟩ := zifs hf
      refine z_iastore dX10_takeOperand_136 (at_arr (zsc s 3325 0) 36 (by decide)) (zga_in hi4) (st_arr (zsc s 3325 0) 36 (by decide) 1 ((s.2.1 36 (1 : Int32).toNatClampNeg) + 1)) ?_
      refine z_aload_n dX10_takeOperand_137 rfl ?_
      refine z_getf dX10_takeOperand_138 fX10_22 (at_Model (zsr (zsc s 3325 0) 36 1 ((s.2.1 36 (1 : Int32).toNatClampNeg) + 1))) rfl ?_
      refine z_iload_n dX10_takeOperand_141 rfl ?_
      refine z_iconst 0 dX10_takeOperand_142 (by decide +kernel) ?_
      obtain ⟨hi5, hf⟩ := zifs hf
      refine z_iastore dX10_takeOperand_143 (at_arr (zsr (zsc s 3325 0) 36 1 ((s.2.1 36 (1 : Int32).toNatClampNeg) + 1)) 38 (by decide)) (zga_in hi5) (st_arr (zsr (zsc s 3325 0) 36 1 ((s.2.1 36 (1 : Int32).toNatClampNeg) + 1)) 38 (by decide) (7 * (s.2.1 36 (1 : Int32).toNatClampNeg)) 0) ?_
      refine z_aload_n dX10_takeOperand_144 rfl ?_
      refine z_getf dX10_takeOperand_145 fX10_22 (at_Model (zsr (zsr (zsc s 3325 0) 36 1 ((s.2.1 36 (1 : Int32).toNatClampNeg) + 1)) 38 (7 * (s.2.1 36 (1 : Int32).toNatClampNeg)) 0)) rfl ?_
      refine z_iload_n dX10_takeOperand_148 rfl ?_
      refine z_iconst 1 dX10_takeOperand_149 (by decide +kernel) ?_
      refine z_iadd dX10_takeOperand_150 ?_
      refine z_iconst (-1) dX10_takeOperand_151 (by decide +kernel) ?_
      obtain ⟨hi6, hf⟩ := zifs hf
      refine z_iastore dX10_takeOperand_152 (at_arr (zsr (zsr (zsc s 3325 0) 36 1 ((s.2.1 36 (1 : Int32).toNatClampNeg) + 1)) 38 (7 * (s.2.1 36 (1 : Int32).toNatClampNeg)) 0) 38 (by decide)) (zga_in hi6) (st_arr (zsr (zsr (zsc s 3325 0) 36 1 ((s.2.1 36 (1 : Int32).toNatClampNeg) + 1)) 38 (7 * (s.2.1 36 (1 : Int32).toNatClampNeg)) 0) 38 (by decide) ((7 * (s.2.1 36 (1 : Int32).toNatClampNeg)) + 1) (-1)) ?_
      refine z_aload_n dX10_takeOperand_153 rfl ?_
      refine z_getf dX10_takeOperand_154 fX10_22 (at_Model (zsr (zsr (zsr (zsc s 3325 0) 36 1 ((s.2.1 36 (1 : Int32).toNatClampNeg) + 1)) 38 (7 * (s.2.1 36 (1 : Int32).toNatClampNeg)) 0) 38 ((7 * (s.2.1 36 (1 : Int32).toNatClampNeg)) + 1) (-1))) rfl ?_
      refine z_iload_n dX10_takeOperand_157 rfl ?_
      refine z_iconst 2 dX10_takeOperand_158 (by decide +kernel) ?_
      refine z_iadd dX10_takeOperand_159 ?_
      refine z_iconst 0 dX10_takeOperand_160 (by decide +kernel) ?_
      obtain ⟨hi7, hf⟩ := zifs hf
      refine z_iastore dX10_takeOperand_161 (at_arr (zsr (zsr (zsr (zsc s 3325 0) 36 1 ((s.2.1 36 (1 : Int32).toNatClampNeg) + 1)) 38 (7 * (s.2.1 36 (1 : Int32).toNatClampNeg)) 0) 38 ((7 * (s.2.1 36 (1 : Int32).toNatClampNeg)) + 1) (-1)) 38 (by decide)) (zga_in hi7) (st_arr (zsr (zsr (zsr (zsc s 3325 0) 36 1 ((s.2.1 36 (1 : Int32).toNatClampNeg) + 1)) 38 (7 * (s.2.1 36 (1 : Int32).toNatClampNeg)) 0) 38 ((7 * (s.2.1 36 (1 : Int32).toNatClampNeg)) + 1) (-1)) 38 (by decide) ((7 * (s.2.1 36 (1 : Int32).toNatClampNeg)) + 2) 0) ?_
      refine z_aload_n dX10_takeOperand_162 rfl ?_
      refine z_getf dX10_takeOperand_163 fX10_22 (at_Model (zsr (zsr (zsr (zsr (zsc s 3325 0) 36 1 ((s.2.1 36 (1 : Int32).toNatClampNeg) + 1)) 38 (7 * (s.2.1 36 (1 : Int32).toNatClampNeg)) 0) 38 ((7 * (s.2.1 36 (1 : Int32).toNatClampNeg)) + 1) (-1)) 38 ((7 * (s.2.1 36 (1 : Int32).toNatClampNeg)) + 2) 0)) rfl ?_
      refine z_iload_n dX10_takeOperand_166 rfl ?_
      refine z_iconst 3 dX10_takeOperand_167 (by decide +kernel) ?_
      refine z_iadd dX10_takeOperand_168 ?_
      refine z_aload_n dX10_takeOperand_169 rfl ?_
      refine z_getf dX10_takeOperand_170 fX10_16 (at_Model (zsr (zsr (zsr (zsr (zsc s 3325 0) 36 1 ((s.2.1 36 (1 : Int32).toNatClampNeg) + 1)) 38 (7 * (s.2.1 36 (1 : Int32).toNatClampNeg)) 0) 38 ((7 * (s.2.1 36 (1 : Int32).toNatClampNeg)) + 1) (-1)) 38 ((7 * (s.2.1 36 (1 : Int32).toNatClampNeg)) + 2) 0)) rfl ?_
      refine z_iconst 2 dX10_takeOperand_173 (by decide +kernel) ?_
      obtain ⟨hi8, hf⟩ := zifs hf
      refine z_iald dX10_takeOperand_174 (at_arr (zsr (zsr (zsr (zsr (zsc s 3325 0) 36 1 ((s.2.1 36 (1 : Int32).toNatClampNeg) + 1)) 38 (7 * (s.2.1 36 (1 : Int32).toNatClampNeg)) 0) 38 ((7 * (s.2.1 36 (1 : Int32).toNatClampNeg)) + 1) (-1)) 38 ((7 * (s.2.1 36 (1 : Int32).toNatClampNeg)) + 2) 0) 36 (by decide)) (zga_in hi8) ?_
      obtain ⟨hi9, hf⟩ := zifs hf
      refine z_iastore dX10_takeOperand_175 (at_arr (zsr (zsr (zsr (zsr (zsc s 3325 0) 36 1 ((s.2.1 36 (1 : Int32).toNatClampNeg) + 1)) 38 (7 * (s.2.1 36 (1 : Int32).toNatClampNeg)) 0) 38 ((7 * (s.2.1 36 (1 : Int32).toNatClampNeg)) + 1) (-1)) 38 ((7 * (s.2.1 36 (1 : Int32).toNatClampNeg)) + 2) 0) 38 (by decide)) (zga_in hi9) (st_arr (zsr (zsr (zsr (zsr (zsc s 3325 0) 36 1 ((s.2.1 36 (1 : Int32).toNatClampNeg) + 1)) 38 (7 * (s.2.1 36 (1 : Int32).toNatClampNeg)) 0) 38 ((7 * (s.2.1 36 (1 : Int32).toNatClampNeg)) + 1) (-1)) 38 ((7 * (s.2.1 36 (1 : Int32).toNatClampNeg)) + 2) 0) 38 (by decide) ((7 * (s.2.1 36 (1 : Int32).toNatClampNeg)) + 3) ((zsr (zsr (zsr (zsr (zsc s 3325 0) 36 1 ((s.2.1 36 (1 : Int32).toNatClampNeg) + 1)) 38 (7 * (s.2.1 36 (1 : Int32).toNatClampNeg)) 0) 38 ((7 * (s.2.1 36 (1 : Int32).toNatClampNeg)) + 1) (-1)) 38 ((7 * (s.2.1 36 (1 : Int32).toNatClampNeg)) + 2) 0).2.1 36 (2 : Int32).toNatClampNeg)) ?_
      refine z_aload_n dX10_takeOperand_176 rfl ?_
      refine z_getf dX10_takeOperand_177 fX10_22 (at_Model (zsr (zsr (zsr (zsr (zsr (zsc s 3325 0) 36 1 ((s.2.1 36 (1 : Int32).toNatClampNeg) + 1)) 38 (7 * (s.2.1 36 (1 : Int32).toNatClampNeg)) 0) 38 ((7 * (s.2.1 36 (1 : Int32).toNatClampNeg)) + 1) (-1)) 38 ((7 * (s.2.1 36 (1 : Int32).toNatClampNeg)) + 2) 0) 38 ((7 * (s.2.1 36 (1 : Int32).toNatClampNeg)) + 3) ((zsr (zsr (zsr (zsr (zsc s 3325 0) 36 1 ((s.2.1 36 (1 : Int32).toNatClampNeg) + 1)) 38 (7 * (s.2.1 36 (1 : Int32).toNatClampNeg)) 0) 38 ((7 * (s.2.1 36 (1 : Int32).toNatClampNeg)) + 1) (-1)) 38 ((7 * (s.2.1 36 (1 : Int32).toNatClampNeg)) + 2) 0).2.1 36 (2 : Int32).toNatClampNeg))) rfl ?_
      refine z_iload_n dX10_takeOperand_180 rfl ?_
      refine z_iconst 5 dX10_takeOperand_181 (by decide +kernel) ?_
      refine z_iadd dX10_takeOperand_182 ?_
      refine z_aload_n dX10_takeOperand_183 rfl ?_
      refine z_getf dX10_takeOperand_184 fX10_85 (at_Model (zsr (zsr (zsr (zsr (zsr (zsc s 3325 0) 36 1 ((s.2.1 36 (1 : Int32).toNatClampNeg) + 1)) 38 (7 * (s.2.1 36 (1 : Int32).toNatClampNeg)) 0) 38 ((7 * (s.2.1 36 (1 : Int32).toNatClampNeg)) + 1) (-1)) 38 ((7 * (s.2.1 36 (1 : Int32).toNatClampNeg)) + 2) 0) 38 ((7 * (s.2.1 36 (1 : Int32).toNatClampNeg)) + 3) ((zsr (zsr (zsr (zsr (zsc s 3325 0) 36 1 ((s.2.1 36 (1 : Int32).toNatClampNeg) + 1)) 38 (7 * (s.2.1 36 (1 : Int32).toNatClampNeg)) 0) 38 ((7 * (s.2.1 36 (1 : Int32).toNatClampNeg)) + 1) (-1)) 38 ((7 * (s.2.1 36 (1 : Int32).toNatClampNeg)) + 2) 0).2.1 36 (2 : Int32).toNatClampNeg))) rfl ?_
      obtain ⟨hi10, hf⟩ := zifs hf
      refine z_iastore dX10_takeOperand_187 (at_arr (zsr (zsr (zsr (zsr (zsr (zsc s 3325 0) 36 1 ((s.2.1 36 (1 : Int32).toNatClampNeg) + 1)) 38 (7 * (s.2.1 36 (1 : Int32).toNatClampNeg)) 0) 38 ((7 * (s.2.1 36 (1 : Int32).toNatClampNeg)) + 1) (-1)) 38 ((7 * (s.2.1 36 (1 : Int32).toNatClampNeg)) + 2) 0) 38 ((7 * (s.2.1 36 (1 : Int32).toNatClampNeg)) + 3) ((zsr (zsr (zsr (zsr (zsc s 3325 0) 36 1 ((s.2.1 36 (1 : Int32).toNatClampNeg) + 1)) 38 (7 * (s.2.1 36 (1 : Int32).toNatClampNeg)) 0) 38 ((7 * (s.2.1 36 (1 : Int32).toNatClampNeg)) + 1) (-1)) 38 ((7 * (s.2.1 36 (1 : Int32).toNatClampNeg)) + 2) 0).2.1 36 (2 : Int32).toNatClampNeg)) 38 (by decide)) (zga_in hi10) (st_arr (zsr (zsr (zsr (zsr (zsr (zsc s 3325 0) 36 1 ((s.2.1 36 (1 : Int32).toNatClampNeg) + 1)) 38 (7 * (s.2.1 36 (1 : Int32).toNatClampNeg)) 0) 38 ((7 * (s.2.1 36 (1 : Int32).toNatClampNeg)) + 1) (-1)) 38 ((7 * (s.2.1 36 (1 : Int32).toNatClampNeg)) + 2) 0) 38 ((7 * (s.2.1 36 (1 : Int32).toNatClampNeg)) + 3) ((zsr (zsr (zsr (zsr (zsc s 3325 0) 36 1 ((s.2.1 36 (1 : Int32).toNatClampNeg) + 1)) 38 (7 * (s.2.1 36 (1 : Int32).toNatClampNeg)) 0) 38 ((7 * (s.2.1 36 (1 : Int32).toNatClampNeg)) + 1) (-1)) 38 ((7 * (s.2.1 36 (1 : Int32).toNatClampNeg)) + 2) 0).2.1 36 (2 : Int32).toNatClampNeg)) 38 (by decide) ((7 * (s.2.1 36 (1 : Int32).toNatClampNeg)) + 5) (s.1 3317)) ?_
      refine z_aload_n dX10_takeOperand_188 rfl ?_
      refine z_getf dX10_takeOperand_189 fX10_22 (at_Model (zsr (zsr (zsr (zsr (zsr (zsr (zsc s 3325 0) 36 1 ((s.2.1 36 (1 : Int32).toNatClampNeg) + 1)) 38 (7 * (s.2.1 36 (1 : Int32).toNatClampNeg)) 0) 38 ((7 * (s.2.1 36 (1 : Int32).toNatClampNeg)) + 1) (-1)) 38 ((7 * (s.2.1 36 (1 : Int32).toNatClampNeg)) + 2) 0) 38 ((7 * (s.2.1 36 (1 : Int32).toNatClampNeg)) + 3) ((zsr (zsr (zsr (zsr (zsc s 3325 0) 36 1 ((s.2.1 36 (1 : Int32).toNatClampNeg) + 1)) 38 (7 * (s.2.1 36 (1 : Int32).toNatClampNeg)) 0) 38 ((7 * (s.2.1 36 (1 : Int32).toNatClampNeg)) + 1) (-1)) 38 ((7 * (s.2.1 36 (1 : Int32).toNatClampNeg)) + 2) 0).2.1 36 (2 : Int32).toNatClampNeg)) 38 ((7 * (s.2.1 36 (1 : Int32).toNatClampNeg)) + 5) (s.1 3317))) rfl ?_
      refine z_iload_n dX10_takeOperand_192 rfl ?_
      refine z_bipush 6 dX10_takeOperand_193 (by decide +kernel) ?_
      refine z_iadd dX10_takeOperand_195 ?_
      refine z_iconst 0 dX10_takeOperand_196 (by decide +kernel) ?_
      obtain ⟨hi11, hf⟩ := zifs hf
      refine z_iastore dX10_takeOperand_197 (at_arr (zsr (zsr (zsr (zsr (zsr (zsr (zsc s 3325 0) 36 1 ((s.2.1 36 (1 : Int32).toNatClampNeg) + 1)) 38 (7 * (s.2.1 36 (1 : Int32).toNatClampNeg)) 0) 38 ((7 * (s.2.1 36 (1 : Int32).toNatClampNeg)) + 1) (-1)) 38 ((7 * (s.2.1 36 (1 : Int32).toNatClampNeg)) + 2) 0) 38 ((7 * (s.2.1 36 (1 : Int32).toNatClampNeg)) + 3) ((zsr (zsr (zsr (zsr (zsc s 3325 0) 36 1 ((s.2.1 36 (1 : Int32).toNatClampNeg) + 1)) 38 (7 * (s.2.1 36 (1 : Int32).toNatClampNeg)) 0) 38 ((7 * (s.2.1 36 (1 : Int32).toNatClampNeg)) + 1) (-1)) 38 ((7 * (s.2.1 36 (1 : Int32).toNatClampNeg)) + 2) 0).2.1 36 (2 : Int32).toNatClampNeg)) 38 ((7 * (s.2.1 36 (1 : Int32).toNatClampNeg)) + 5) (s.1 3317)) 38 (by decide)) (zga_in hi11) (st_arr (zsr (zsr (zsr (zsr (zsr (zsr (zsc s 3325 0) 36 1 ((s.2.1 36 (1 : Int32).toNatClampNeg) + 1)) 38 (7 * (s.2.1 36 (1 : Int32).toNatClampNeg)) 0) 38 ((7 * (s.2.1 36 (1 : Int32).toNatClampNeg)) + 1) (-1)) 38 ((7 * (s.2.1 36 (1 : Int32).toNatClampNeg)) + 2) 0) 38 ((7 * (s.2.1 36 (1 : Int32).toNatClampNeg)) + 3) ((zsr (zsr (zsr (zsr (zsc s 3325 0) 36 1 ((s.2.1 36 (1 : Int32).toNatClampNeg) + 1)) 38 (7 * (s.2.1 36 (1 : Int32).toNatClampNeg)) 0) 38 ((7 * (s.2.1 36 (1 : Int32).toNatClampNeg)) + 1) (-1)) 38 ((7 * (s.2.1 36 (1 : Int32).toNatClampNeg)) + 2) 0).2.1 36 (2 : Int32).toNatClampNeg)) 38 ((7 * (s.2.1 36 (1 : Int32).toNatClampNeg)) + 5) (s.1 3317)) 38 (by decide) ((7 * (s.2.1 36 (1 : Int32).toNatClampNeg)) + 6) 0) ?_
      refine z_aload_n dX10_takeOperand_198 rfl ?_
      obtain ⟨x12, s13, q14, hf⟩ := zbn_of hf
      refine z_cV (as := []) hok dX10_takeOperand_199 kX10_170 (tX10_register hok (d - 1) (by omega) N   q14) rfl (at_Model (zsr (zsr (zsr (zsr (zsr (zsr (zsr (zsc s 3325 0) 36 1 ((s.2.1 36 (1 : Int32).toNatClampNeg) + 1)) 38 (7 * (s.2.1 36 (1 : Int32).toNatClampNeg)) 0) 38 ((7 * (s.2.1 36 (1 : Int32).toNatClampNeg)) + 1) (-1)) 38 ((7 * (s.2.1 36 (1 : Int32).toNatClampNeg)) + 2) 0) 38 ((7 * (s.2.1 36 (1 : Int32).toNatClampNeg)) + 3) ((zsr (zsr (zsr (zsr (zsc s 3325 0) 36 1 ((s.2.1 36 (1 : Int32).toNatClampNeg) + 1)) 38 (7 * (s.2.1 36 (1 : Int32).toNatClampNeg)) 0) 38 ((7 * (s.2.1 36 (1 : Int32).toNatClampNeg)) + 1) (-1)) 38 ((7 * (s.2.1 36 (1 : Int32).toNatClampNeg)) + 2) 0).2.1 36 (2 : Int32).toNatClampNeg)) 38 ((7 * (s.2.1 36 (1 : Int32).toNatClampNeg)) + 5) (s.1 3317)) 38 ((7 * (s.2.1 36 (1 : Int32).toNatClampNeg)) + 6) 0)) rfl rfl (by omega) (Nat.le_of_ble_eq_true rfl) (Nat.zero_le _) (Nat.zero_le _) rfl ?_
      refine z_istore_n (ls' := [_, _, _, _, _]) dX10_takeOperand_202 (by decide) rfl ?_
      refine z_aload_n dX10_takeOperand_203 rfl ?_
      refine z_getf dX10_takeOperand_204 fX10_79 (at_Model s13) rfl ?_
      refine z_iconst 4 dX10_takeOperand_207 (by decide +kernel) ?_
      refine z_icmp_ne 314 dX10_takeOperand_208 (by decide) (fun c208 => ?_) (fun c208 => ?_)
      · have hf := zifn hf c208
        refine z_iload_n dX10_takeOperand_314 rfl ?_
        refine z_iconst (-1) dX10_takeOperand_315 (by decide +kernel) ?_
        refine z_icmp_eq 342 dX10_takeOperand_316 (by decide) (fun c316 => ?_) (fun c316 => ?_)
        · have hf := zifp hf c316
          refine z_aload_n dX10_takeOperand_342 rfl ?_
          obtain ⟨x15, s16, q17, hf⟩ := zbn_of hf
          refine z_cV (as := []) hok dX10_takeOperand_343 kX10_211 (tX10_isBase hok (d - 1) (by omega) N   q17) rfl (at_Model s13) rfl rfl (by omega) (Nat.le_of_ble_eq_true rfl) (Nat.zero_le _) (Nat.zero_le _) rfl ?_
          refine z_if_eq 374 dX10_takeOperand_346 (by decide) (fun c346 => ?_) (fun c346 => ?_)
          · have hf := zifp hf c346
            refine z_aload_n dX10_takeOperand_374 rfl ?_
            refine z_bipush 37 dX10_takeOperand_375 (by decide +kernel) ?_
            obtain ⟨x18, s19, q20, hf⟩ := zbn_of hf
            refine z_cV (as := [_]) hok dX10_takeOperand_377 kX10_167 (tX10_isSign hok (d - 1) N 37  q20) rfl (at_Model s16) rfl rfl (by omega) (Nat.le_of_ble_eq_true rfl) (Nat.zero_le _) (Nat.zero_le _) rfl ?_
            refine z_if_eq 391 dX10_takeOperand_380 (by decide) (fun c380 => ?_) (fun c380 => ?_)
            · have hf := zifp hf c380
              refine z_aload_n dX10_takeOperand_391 rfl ?_
              obtain ⟨x21, s22, q23, hf⟩ := zbn_of hf
              refine z_cV (as := []) hok dX10_takeOperand_392 kX10_205 (tX10_expression hok (d - 1) (by omega) N   q23) rfl (at_Model s19) rfl rfl (by omega) (Nat.le_of_ble_eq_true rfl) (Nat.zero_le _) (Nat.zero_le _) rfl ?_
              refine z_mask (ls' := [_, _, _, _, _]) [true, false, true, false, false] rfl ?_
              exact tX10_takeOperand_J395 hok d (by omega) N   (7 * (s.2.1 36 (1 : Int32).toNatClampNeg)) x21 hf
            · have hf := zifn hf c380
              refine z_aload_n dX10_takeOperand_383 rfl ?_
              refine z_iload_n dX10_takeOperand_384 rfl ?_
              obtain ⟨x33, s34, q35, hf⟩ := zbn_of hf
              refine z_cV (as := [_]) hok dX10_takeOperand_385 kX10_217 (tX10_marked hok (d - 1) (by omega) N (7 * (s.2.1 36 (1 : Int32).toNatClampNeg))  q35) rfl (at_Model s19) rfl rfl (by omega) (Nat.le_of_ble_eq_true rfl) (Nat.zero_le _) (Nat.zero_le _) rfl ?_
              refine z_goto 395 dX10_takeOperand_388 (by decide) ?_
              refine z_mask (ls' := [_, _, _, _, _]) [true, false, true, false, false] rfl ?_
              exact tX10_takeOperand_J395 hok d (by omega) N   (7 * (s.2.1 36 (1 : Int32).toNatClampNeg)) x33 hf
          · have hf := zifn hf c346
            refine z_aload_n dX10_takeOperand_349 rfl ?_
            obtain ⟨x36, s37, q38, hf⟩ := zbn_of hf
            refine z_cV (as := []) hok dX10_takeOperand_350 kX10_180 (tX10_tally hok (d - 1) (by omega) N   q38) rfl (at_Model s16) rfl rfl (by omega) (Nat.le_of_ble_eq_true rfl) (Nat.zero_le _) (Nat.zero_le _) rfl ?_
            refine z_if_ne 358 dX10_takeOperand_353 (by decide) (fun c353 => ?_) (fun c353 => ?_)
            · have hf := zifn hf c353
              refine z_aload_n dX10_takeOperand_358 rfl ?_
              refine z_iconst 0 dX10_takeOperand_359 (by decide +kernel) ?_
              refine z_iconst 0 dX10_takeOperand_360 (by decide +kernel) ?_
              obtain ⟨x39, s40, q41, hf⟩ := zbn_of hf
              refine z_cV (as := [_, _]) hok dX10_takeOperand_361 kX10_158 (tX10_emit hok (d - 1) N 0 0  q41) rfl (at_Model s37) rfl rfl (by omega) (Nat.le_of_ble_eq_true rfl) (Nat.zero_le _) (Nat.zero_le _) rfl ?_
              refine z_aload_n dX10_takeOperand_364 rfl ?_
              refine z_iload_n dX10_takeOperand_365 rfl ?_
              obtain ⟨x42, s43, q44, hf⟩ := zbn_of hf
              refine z_cV (as := [_]) hok dX10_takeOperand_366 kX10_214 (tX10_based hok (d - 1) (by omega) N (7 * (s.2.1 36 (1 : Int32).toNatClampNeg))  q44) rfl (at_Model s40) rfl rfl (by omega) (Nat.le_of_ble_eq_true rfl) (Nat.zero_le _) (Nat.zero_le _) rfl ?_
              refine z_if_ne 421 dX10_takeOperand_369 (by decide) (fun c369 => ?_) (fun c369 => ?_)
              · have hf := zifn hf c369
                refine z_mask (ls' := [_, _, _, _, _]) [true, false, true, false, false] rfl ?_
                exact tX10_takeOperand_J421 hok d (by omega) N   (7 * (s.2.1 36 (1 : Int32).toNatClampNeg)) hf
              · have hf := zifp hf c369
                refine z_iconst 0 dX10_takeOperand_372 (by decide +kernel) ?_
                cases hf
                exact z_zret rfl (by decide) dX10_takeOperand_373 (Nat.zero_le _) (Nat.zero_le _) ⟨rfl, rfl⟩
            · have hf := zifp hf c353
              refine z_iconst 0 dX10_takeOperand_356 (by decide +kernel) ?_
              cases hf
              exact z_zret rfl (by decide) dX10_takeOperand_357 (Nat.zero_le _) (Nat.zero_le _) ⟨rfl, rfl⟩
        · have hf := zifn hf c316
          refine z_aload_n dX10_takeOperand_319 rfl ?_
          refine z_getf dX10_takeOperand_320 fX10_22 (at_Model s13) rfl ?_
          refine z_iload_n dX10_takeOperand_323 rfl ?_
          refine z_iconst 1 dX10_takeOperand_324 (by decide +kernel) ?_
          obtain ⟨hi45, hf⟩ := zifs hf
          refine z_iastore dX10_takeOperand_325 (at_arr s13 38 (by decide)) (zga_in hi45) (st_arr s13 38 (by decide) (7 * (s.2.1 36 (1 : Int32).toNatClampNeg)) 1) ?_
          refine z_aload_n dX10_takeOperand_326 rfl ?_
          refine z_getf dX10_takeOperand_327 fX10_22 (at_Model (zsr s13 38 (7 * (s.2.1 36 (1 : Int32).toNatClampNeg)) 1)) rfl ?_
          refine z_iload_n dX10_takeOperand_330 rfl ?_
          refine z_iconst 1 dX10_takeOperand_331 (by decide +kernel) ?_
          refine z_iadd dX10_takeOperand_332 ?_
          refine z_iload_n dX10_takeOperand_333 rfl ?_
          obtain ⟨hi46, hf⟩ := zifs hf
          refine z_iastore dX10_takeOperand_334 (at_arr (zsr s13 38 (7 * (s.2.1 36 (1 : Int32).toNatClampNeg)) 1) 38 (by decide)) (zga_in hi46) (st_arr (zsr s13 38 (7 * (s.2.1 36 (1 : Int32).toNatClampNeg)) 1) 38 (by decide) ((7 * (s.2.1 36 (1 : Int32).toNatClampNeg)) + 1) x12) ?_
          refine z_aload_n dX10_takeOperand_335 rfl ?_
          obtain ⟨x47, s48, q49, hf⟩ := zbn_of hf
          refine z_cV (as := []) hok dX10_takeOperand_336 kX10_177 (tX10_next hok (d - 1) (by omega) N   q49) rfl (at_Model (zsr (zsr s13 38 (7 * (s.2.1 36 (1 : Int32).toNatClampNeg)) 1) 38 ((7 * (s.2.1 36 (1 : Int32).toNatClampNeg)) + 1) x12)) rfl rfl (by omega) (Nat.le_of_ble_eq_true rfl) (Nat.zero_le _) (Nat.zero_le _) rfl ?_
          refine z_goto 421 dX10_takeOperand_339 (by decide) ?_
          refine z_mask (ls' := [_, _, _, _, _]) [true, false, true, false, false] rfl ?_
          exact tX10_takeOperand_J421 hok d (by omega) N   (7 * (s.2.1 36 (1 : Int32).toNatClampNeg)) hf
      · have hf := zifp hf c208
        refine z_aload_n dX10_takeOperand_211 rfl ?_
        refine z_getf dX10_takeOperand_212 fX10_22 (at_Model s13) rfl ?_
        refine z_iload_n dX10_takeOperand_215 rfl ?_
        refine z_iconst 3 dX10_takeOperand_216 (by decide +kernel) ?_
        obtain ⟨hi50, hf⟩ := zifs hf
        refine z_iastore dX10_takeOperand_217 (at_arr s13 38 (by decide)) (zga_in hi50) (st_arr s13 38 (by decide) (7 * (s.2.1 36 (1 : Int32).toNatClampNeg)) 3) ?_
        refine z_aload_n dX10_takeOperand_218 rfl ?_
        refine z_getf dX10_takeOperand_219 fX10_22 (at_Model (zsr s13 38 (7 * (s.2.1 36 (1 : Int32).toNatClampNeg)) 3)) rfl ?_
        refine z_iload_n dX10_takeOperand_222 rfl ?_
        refine z_iconst 1 dX10_takeOperand_223 (by decide +kernel) ?_
        refine z_iadd dX10_takeOperand_224 ?_
        refine z_iconst (-1) dX10_takeOperand_225 (by decide +kernel) ?_
        obtain ⟨hi51, hf⟩ := zifs hf
        refine z_iastore dX10_takeOperand_226 (at_arr (zsr s13 38 (7 * (s.2.1 36 (1 : Int32).toNatClampNeg)) 3) 38 (by decide)) (zga_in hi51) (st_arr (zsr s13 38 (7 * (s.2.1 36 (1 : Int32).toNatClampNeg)) 3) 38 (by decide) ((7 * (s.2.1 36 (1 : Int32).toNatClampNeg)) + 1) (-1)) ?_
        refine z_aload_n dX10_takeOperand_227 rfl ?_
        refine z_getf dX10_takeOperand_228 fX10_22 (at_Model (zsr (zsr s13 38 (7 * (s.2.1 36 (1 : Int32).toNatClampNeg)) 3) 38 ((7 * (s.2.1 36 (1 : Int32).toNatClampNeg)) + 1) (-1))) rfl ?_
        refine z_iload_n dX10_takeOperand_231 rfl ?_
        refine z_bipush 6 dX10_takeOperand_232 (by decide +kernel) ?_
        refine z_iadd dX10_takeOperand_234 ?_
        refine z_aload_n dX10_takeOperand_235 rfl ?_
        refine z_getf dX10_takeOperand_236 fX10_126 (at_Model (zsr (zsr s13 38 (7 * (s.2.1 36 (1 : Int32).toNatClampNeg)) 3) 38 ((7 * (s.2.1 36 (1 : Int32).toNatClampNeg)) + 1) (-1))) rfl ?_
        obtain ⟨hi52, hf⟩ := zifs hf
        refine z_iastore dX10_takeOperand_239 (at_arr (zsr (zsr s13 38 (7 * (s.2.1 36 (1 : Int32).toNatClampNeg)) 3) 38 ((7 * (s.2.1 36 (1 : Int32).toNatClampNeg)) + 1) (-1)) 38 (by decide)) (zga_in hi52) (st_arr (zsr (zsr s13 38 (7 * (s.2.1 36 (1 : Int32).toNatClampNeg)) 3) 38 ((7 * (s.2.1 36 (1 : Int32).toNatClampNeg)) + 1) (-1)) 38 (by decide) ((7 * (s.2.1 36 (1 : Int32).toNatClampNeg)) + 6) (s13.1 3311)) ?_
        refine z_aload_n dX10_takeOperand_240 rfl ?_
        refine z_getf dX10_takeOperand_241 fX10_59 (at_Model (zsr (zsr (zsr s13 38 (7 * (s.2.1 36 (1 : Int32).toNatClampNeg)) 3) 38 ((7 * (s.2.1 36 (1 : Int32).toNatClampNeg)) + 1) (-1)) 38 ((7 * (s.2.1 36 (1 : Int32).toNatClampNeg)) + 6) (s13.1 3311))) rfl ?_
        refine z_aload_n dX10_takeOperand_244 rfl ?_
        refine z_getf dX10_takeOperand_245 fX10_16 (at_Model (zsr (zsr (zsr s13 38 (7 * (s.2.1 36 (1 : Int32).toNatClampNeg)) 3) 38 ((7 * (s.2.1 36 (1 : Int32).toNatClampNeg)) + 1) (-1)) 38 ((7 * (s.2.1 36 (1 : Int32).toNatClampNeg)) + 6) (s13.1 3311))) rfl ?_
        refine z_iconst 1 dX10_takeOperand_248 (by decide +kernel) ?_
        obtain ⟨hi53, hf⟩ := zifs hf
        refine z_iald dX10_takeOperand_249 (at_arr (zsr (zsr (zsr s13 38 (7 * (s.2.1 36 (1 : Int32).toNatClampNeg)) 3) 38 ((7 * (s.2.1 36 (1 : Int32).toNatClampNeg)) + 1) (-1)) 38 ((7 * (s.2.1 36 (1 : Int32).toNatClampNeg)) + 6) (s13.1 3311)) 36 (by decide)) (zga_in hi53) ?_
        refine z_iconst 1 dX10_takeOperand_250 (by decide +kernel) ?_
        refine z_isub dX10_takeOperand_251 ?_
        refine z_aload_n dX10_takeOperand_252 rfl ?_
        refine z_getf dX10_takeOperand_253 fX10_208 (at_Model (zsr (zsr (zsr s13 38 (7 * (s.2.1 36 (1 : Int32).toNatClampNeg)) 3) 38 ((7 * (s.2.1 36 (1 : Int32).toNatClampNeg)) + 1) (-1)) 38 ((7 * (s.2.1 36 (1 : Int32).toNatClampNeg)) + 6) (s13.1 3311))) rfl ?_
        obtain ⟨hi54, hf⟩ := zifs hf
        refine z_iastore dX10_takeOperand_256 (at_arr (zsr (zsr (zsr s13 38 (7 * (s.2.1 36 (1 : Int32).toNatClampNeg)) 3) 38 ((7 * (s.2.1 36 (1 : Int32).toNatClampNeg)) + 1) (-1)) 38 ((7 * (s.2.1 36 (1 : Int32).toNatClampNeg)) + 6) (s13.1 3311)) 49 (by decide)) (zga_in hi54) (st_arr (zsr (zsr (zsr s13 38 (7 * (s.2.1 36 (1 : Int32).toNatClampNeg)) 3) 38 ((7 * (s.2.1 36 (1 : Int32).toNatClampNeg)) + 1) (-1)) 38 ((7 * (s.2.1 36 (1 : Int32).toNatClampNeg)) + 6) (s13.1 3311)) 49 (by decide) ((s13.2.1 36 (1 : Int32).toNatClampNeg) - 1) (s13.1 3312)) ?_
        refine z_iconst 0 dX10_takeOperand_257 (by decide +kernel) ?_
        refine z_istore (ls' := [_, _, _, _, _]) dX10_takeOperand_258 (by decide) rfl ?_
        refine z_mask (ls' := [_, _, _, _, _]) [true, false, true, false, true] rfl ?_
        rcases zbl_of hf with ⟨lr58, le59, hf⟩ | ⟨lr58, le59, hf⟩
        · cases hf
          exact tX10_takeOperand_L260 hok d (by omega) N   N (7 * (s.2.1 36 (1 : Int32).toNatClampNeg)) 0 (zsr (zsr (zsr (zsr s13 38 (7 * (s.2.1 36 (1 : Int32).toNatClampNeg)) 3) 38 ((7 * (s.2.1 36 (1 : Int32).toNatClampNeg)) + 1) (-1)) 38 ((7 * (s.2.1 36 (1 : Int32).toNatClampNeg)) + 6) (s13.1 3311)) 49 ((s13.2.1 36 (1 : Int32).toNatClampNeg) - 1) (s13.1 3312)) _ le59 (fun w1 s1 hh => by cases hh; exact ⟨rfl, rfl⟩) (fun _ _ hh => by cases hh)
        · obtain ⟨y60, s61⟩ := lr58
          refine tX10_takeOperand_L260 hok d (by omega) N   N (7 * (s.2.1 36 (1 : Int32).toNatClampNeg)) 0 (zsr (zsr (zsr (zsr s13 38 (7 * (s.2.1 36 (1 : Int32).toNatClampNeg)) 3) 38 ((7 * (s.2.1 36 (1 : Int32).toNatClampNeg)) + 1) (-1)) 38 ((7 * (s.2.1 36 (1 : Int32).toNatClampNeg)) + 6) (s13.1 3311)) 49 ((s13.2.1 36 (1 : Int32).toNatClampNeg) - 1) (s13.1 3312)) _ le59 (fun w1 s1 hh => by cases hh) (fun _ _ hh => ?_)
          cases hh
          refine z_aload_n dX10_takeOperand_294 rfl ?_
          refine z_dup dX10_takeOperand_295 rfl ?_
          refine z_getf dX10_takeOperand_296 fX10_208 (at_Model s61) rfl ?_
          refine z_aload_n dX10_takeOperand_299 rfl ?_
          refine z_getf dX10_takeOperand_300 fX10_126 (at_Model s61) rfl ?_
          refine z_iadd dX10_takeOperand_303 ?_
          refine z_putf dX10_takeOperand_304 fX10_208 wX10_12 (at_Model s61) (Nat.le_of_ble_eq_true rfl) (fun _ => rfl) (fun _ => rfl) (st_Model_12 s61 ((s61.1 3312) + (s61.1 3311))) ?_
          refine z_aload_n dX10_takeOperand_307 rfl ?_
          obtain ⟨x62, s63, q64, hf⟩ := zbn_of hf
          refine z_cV (as := []) hok dX10_takeOperand_308 kX10_177 (tX10_next hok (d - 1) (by omega) N   q64) rfl (at_Model (zsc s61 3312 ((s61.1 3312) + (s61.1 3311)))) rfl rfl (by omega) (Nat.le_of_ble_eq_true rfl) (Nat.zero_le _) (Nat.zero_le _) rfl ?_
          refine z_goto 421 dX10_takeOperand_311 (by decide) ?_
          refine z_mask (ls' := [_, _, _, _, _]) [true, false, true, false, false] rfl ?_
          exact tX10_takeOperand_J421 hok d (by omega) N   y60 hf
    · have hf := zifp hf c102
      refine z_aload_n dX10_takeOperand_105 rfl ?_
      refine z_bipush 8 dX10_takeOperand_106 (by decide +kernel) ?_
      obtain ⟨x65, s66, q67, hf⟩ := zbn_of hf
      refine z_cV (as := [_]) hok dX10_takeOperand_108 kX10_152 (tX10_fail hok (d - 1) N 8  q67) rfl (at_Model s) rfl rfl (by omega) (Nat.le_of_ble_eq_true rfl) (Nat.zero_le _) (Nat.zero_le _) rfl ?_
      obtain ⟨bo68, hf⟩ := zifs hf
      cases hf
      exact z_zret rfl (zbo_n bo68) dX10_takeOperand_111 (Nat.zero_le _) (Nat.zero_le _) ⟨rfl, rfl⟩
  · have hf := zifp hf c84
    refine z_aload_n dX10_takeOperand_87 rfl ?_
    refine z_iconst 5 dX10_takeOperand_88 (by decide +kernel) ?_
    obtain ⟨x69, s70, q71, hf⟩ := zbn_of hf
    refine z_cV (as := [_]) hok dX10_takeOperand_89 kX10_152 (tX10_fail hok (d - 1) N 5  q71) rfl (at_Model s) rfl rfl (by omega) (Nat.le_of_ble_eq_true rfl) (Nat.zero_le _) (Nat.zero_le _) rfl ?_
    obtain ⟨bo72, hf⟩ := zifs hf
    cases hf
    exact z_zret rfl (zbo_n bo72) dX10_takeOperand_92 (Nat.zero_le _) (Nat.zero_le _) ⟨rfl, rfl⟩
noncomputable def fX10_takeOperand_J77 (N : Nat)   (s : zS) : Option (Int32 × zS) := fX10_takeOperand_J82 N  1 s
set_option maxHeartbeats 400000 in
set_option maxRecDepth 100000 in
theorem tX10_takeOperand_J77 {g : zGl} (hok : zGok g) (d : Nat) (hd : 7 ≤ d) (N : Nat)   {mc ms n0 : Nat}  {s s' : zS} {w : Int32} (hf : fX10_takeOperand_J77 N   s = some (w, s')) : zW g mX10_takeOperand d mc ms n0 (zret (some (.int w)) (zHp s')) 0 0 (zHp s) [some (.ref 33), none, none, none, none] [] 77 := by
  unfold fX10_takeOperand_J77 at hf
  refine z_iconst 1 dX10_takeOperand_77 (by decide +kernel) ?_
  refine z_goto 82 dX10_takeOperand_78 (by decide) ?_
  refine z_mask (ls' := [_, _, _, _, _]) [true, false, false, false, false] rfl ?_
  exact tX10_takeOperand_J82 hok d (by omega) N   1 hf
noncomputable def fX10_takeOperand (N : Nat)  (s : zS) : Option (Int32 × zS) := if (s.1 3315) = 1 then fX10_takeOperand_J77 N   s else if (s.1 3315) = 2 then fX10_takeOperand_J77 N   s else if (s.1 3315) = 3 then fX10_takeOperand_J77 N   s else if (s.1 3315) = 7 then fX10_takeOperand_J77 N   s else if (s.1 3315) = 4 then fX10_takeOperand_J77 N   s else zbn (fX10_isSign N 37 s) (fun x73 s74 => if x73 = 0 then zbn (fX10_isSign N 40 s74) (fun x76 s77 => if x76 = 0 then zbn (fX10_isSign N 45 s77) (fun x79 s80 => if x79 = 0 then zbn (fX10_isSign N 126 s80) (fun x82 s83 => if x82 = 0 then fX10_takeOperand_J82 N  0 s83 else fX10_takeOperand_J77 N   s83) else fX10_takeOperand_J77 N   s80) else fX10_takeOperand_J77 N   s77) else fX10_takeOperand_J77 N   s74)
set_option maxHeartbeats 400000 in
set_option maxRecDepth 100000 in
theorem tX10_takeOperand {g : zGl} (hok : zGok g) (d : Nat) (hd : 7 ≤ d) (N : Nat)   {s s' : zS} {w : Int32} (hf : fX10_takeOperand N  s = some (w, s')) : zMet g mX10_takeOperand d 0 0 [.ref 33] (zHp s) (zret (some (.int w)) (zHp s')) := by
  refine zMet.ofW (by decide +kernel) (Nat.le_of_ble_eq_true rfl) ?_
  show zW g mX10_takeOperand d 0 0 51 _ 0 0 (zHp s) [some (.ref 33), none, none, none, none] [] 0
  unfold fX10_takeOperand at hf
  refine z_aload_n dX10_takeOperand_0 rfl ?_
  refine z_getf dX10_takeOperand_1 fX10_79 (at_Model s) rfl ?_
  refine z_iconst 1 dX10_takeOperand_4 (by decide +kernel) ?_
  refine z_icmp_eq 77 dX10_takeOperand_5 (by decide) (fun c5 => ?_) (fun c5 => ?_)
  · have hf := zifp hf c5
    refine z_mask (ls' := [_, _, _, _, _]) [true, false, false, false, false] rfl ?_
    exact tX10_takeOperand_J77 hok d (by omega) N    hf
  · have hf := zifn hf c5
    refine z_aload_n dX10_takeOperand_8 rfl ?_
    refine z_getf dX10_takeOperand_9 fX10_79 (at_Model s) rfl ?_
    refine z_iconst 2 dX10_takeOperand_12 (by decide +kernel) ?_
    refine z_icmp_eq 77 dX10_takeOperand_13 (by decide) (fun c13 => ?_) (fun c13 => ?_)
    · have hf := zifp hf c13
      refine z_mask (ls' := [_, _, _, _, _]) [true, false, false, false, false] rfl ?_
      exact tX10_takeOperand_J77 hok d (by omega) N    hf
    · have hf := zifn hf c13
      refine z_aload_n dX10_takeOperand_16 rfl ?_
      refine z_getf dX10_takeOperand_17 fX10_79 (at_Model s) rfl ?_
      refine z_iconst 3 dX10_takeOperand_20 (by decide +kernel) ?_
      refine z_icmp_eq 77 dX10_takeOperand_21 (by decide) (fun c21 => ?_) (fun c21 => ?_)
      · have hf := zifp hf c21
        refine z_mask (ls' := [_, _, _, _, _]) [true, false, false, false, false] rfl ?_
        exact tX10_takeOperand_J77 hok d (by omega) N    hf
      · have hf := zifn hf c21
        refine z_aload_n dX10_takeOperand_24 rfl ?_
        refine z_getf dX10_takeOperand_25 fX10_79 (at_Model s) rfl ?_
        refine z_bipush 7 dX10_takeOperand_28 (by decide +kernel) ?_
        refine z_icmp_eq 77 dX10_takeOperand_30 (by decide) (fun c30 => ?_) (fun c30 => ?_)
        · have hf := zifp hf c30
          refine z_mask (ls' := [_, _, _, _, _]) [true, false, false, false, false] rfl ?_
          exact tX10_takeOperand_J77 hok d (by omega) N    hf
        · have hf := zifn hf c30
          refine z_aload_n dX10_takeOperand_33 rfl ?_
          refine z_getf dX10_takeOperand_34 fX10_79 (at_Model s) rfl ?_
          refine z_iconst 4 dX10_takeOperand_37 (by decide +kernel) ?_
          refine z_icmp_eq 77 dX10_takeOperand_38 (by decide) (fun c38 => ?_) (fun c38 => ?_)
          · have hf := zifp hf c38
            refine z_mask (ls' := [_, _, _, _, _]) [true, false, false, false, false] rfl ?_
            exact tX10_takeOperand_J77 hok d (by omega) N    hf
          · have hf := zifn hf c38
            refine z_aload_n dX10_takeOperand_41 rfl ?_
            refine z_bipush 37 dX10_takeOperand_42 (by decide +kernel) ?_
            obtain ⟨x73, s74, q75, hf⟩ := zbn_of hf
            refine z_cV (as := [_]) hok dX10_takeOperand_44 kX10_167 (tX10_isSign hok (d - 1) N 37  q75) rfl (at_Model s) rfl rfl (by omega) (Nat.le_of_ble_eq_true rfl) (Nat.zero_le _) (Nat.zero_le _) rfl ?_
            refine z_if_ne 77 dX10_takeOperand_47 (by decide) (fun c47 => ?_) (fun c47 => ?_)
            · have hf := zifn hf c47
              refine z_mask (ls' := [_, _, _, _, _]) [true, false, false, false, false] rfl ?_
              exact tX10_takeOperand_J77 hok d (by omega) N    hf
            · have hf := zifp hf c47
              refine z_aload_n dX10_takeOperand_50 rfl ?_
              refine z_bipush 40 dX10_takeOperand_51 (by decide +kernel) ?_
              obtain ⟨x76, s77, q78, hf⟩ := zbn_of hf
              refine z_cV (as := [_]) hok dX10_takeOperand_53 kX10_167 (tX10_isSign hok (d - 1) N 40  q78) rfl (at_Model s74) rfl rfl (by omega) (Nat.le_of_ble_eq_true rfl) (Nat.zero_le _) (Nat.zero_le _) rfl ?_
              refine z_if_ne 77 dX10_takeOperand_56 (by decide) (fun c56 => ?_) (fun c56 => ?_)
              · have hf := zifn hf c56
                refine z_mask (ls' := [_, _, _, _, _]) [true, false, false, false, false] rfl ?_
                exact tX10_takeOperand_J77 hok d (by omega) N    hf
              · have hf := zifp hf c56
                refine z_aload_n dX10_takeOperand_59 rfl ?_
                refine z_bipush 45 dX10_takeOperand_60 (by decide +kernel) ?_
                obtain ⟨x79, s80, q81, hf⟩ := zbn_of hf
                refine z_cV (as := [_]) hok dX10_takeOperand_62 kX10_167 (tX10_isSign hok (d - 1) N 45  q81) rfl (at_Model s77) rfl rfl (by omega) (Nat.le_of_ble_eq_true rfl) (Nat.zero_le _) (Nat.zero_le _) rfl ?_
                refine z_if_ne 77 dX10_takeOperand_65 (by decide) (fun c65 => ?_) (fun c65 => ?_)
                · have hf := zifn hf c65
                  refine z_mask (ls' := [_, _, _, _, _]) [true, false, false, false, false] rfl ?_
                  exact tX10_takeOperand_J77 hok d (by omega) N    hf
                · have hf := zifp hf c65
                  refine z_aload_n dX10_takeOperand_68 rfl ?_
                  refine z_bipush 126 dX10_takeOperand_69 (by decide +kernel) ?_
                  obtain ⟨x82, s83, q84, hf⟩ := zbn_of hf
                  refine z_cV (as := [_]) hok dX10_takeOperand_71 kX10_167 (tX10_isSign hok (d - 1) N 126  q84) rfl (at_Model s80) rfl rfl (by omega) (Nat.le_of_ble_eq_true rfl) (Nat.zero_le _) (Nat.zero_le _) rfl ?_
                  refine z_if_eq 81 dX10_takeOperand_74 (by decide) (fun c74 => ?_) (fun c74 => ?_)
                  · have hf := zifp hf c74
                    refine z_iconst 0 dX10_takeOperand_81 (by decide +kernel) ?_
                    refine z_mask (ls' := [_, _, _, _, _]) [true, false, false, false, false] rfl ?_
                    exact tX10_takeOperand_J82 hok d (by omega) N   0 hf
                  · have hf := zifn hf c74
                    refine z_mask (ls' := [_, _, _, _, _]) [true, false, false, false, false] rfl ?_
                    exact tX10_takeOperand_J77 hok d (by omega) N    hf

