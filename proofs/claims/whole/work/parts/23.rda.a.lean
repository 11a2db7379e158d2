noncomputable def fX3_hasLine (N : Nat)  (s : zS) : Option (Int32 × zS) := zbn (fX8_size N  s) (fun x1 s2 => if x1 ≤ (s.1 303) then some (0, s2) else some (1, s2))
set_option maxHeartbeats 400000 in
set_option maxRecDepth 100000 in
theorem tX3_hasLine {g : zGl} (hok : zGok g) (d : Nat) (hd : 1 ≤ d) (N : Nat)   {s s' : zS} {w : Int32} (hf : fX3_hasLine N  s = some (w, s')) : zMet g mX3_hasLine d 0 0 [.ref 3] (zHp s) (zret (some (.int w)) (zHp s')) := by
  refine zMet.ofW (by decide +kernel) (Nat.le_of_ble_eq_true rfl) ?_
  show zW g mX3_hasLine d 0 0 51 _ 0 0 (zHp s) [some (.ref 3)] [] 0
  unfold fX3_hasLine at hf
  refine z_aload_n dX3_hasLine_0 rfl ?_
  refine z_getf dX3_hasLine_1 fX3_41 (at_Reader s) rfl ?_
  refine z_aload_n dX3_hasLine_4 rfl ?_
  refine z_getf dX3_hasLine_5 fX3_12 (at_Reader s) rfl ?_
  obtain ⟨x1, s2, q3, hf⟩ := zbn_of hf
  refine z_cV (as := []) hok dX3_hasLine_8 kX3_47 (tX8_size hok (d - 1) N   q3) rfl (at_Words s) rfl rfl (by omega) (Nat.le_of_ble_eq_true rfl) (Nat.zero_le _) (Nat.zero_le _) rfl ?_
  refine z_icmp_ge 18 dX3_hasLine_11 (by decide) (fun c11 => ?_) (fun c11 => ?_)
  · have hf := zifp hf c11
    refine z_iconst 0 dX3_hasLine_18 (by decide +kernel) ?_
    cases hf
    exact z_zret rfl (by decide) dX3_hasLine_19 (Nat.zero_le _) (Nat.zero_le _) ⟨rfl, rfl⟩
  · have hf := zifn hf c11
    refine z_iconst 1 dX3_hasLine_14 (by decide +kernel) ?_
    refine z_goto 19 dX3_hasLine_15 (by decide) ?_
    cases hf
    exact z_zret rfl (by decide) dX3_hasLine_19 (Nat.zero_le _) (Nat.zero_le _) ⟨rfl, rfl⟩

noncomputable def fX3_finish (N : Nat)  (s : zS) : Option (Int32 × zS) := if zBk (s.2.2.1 301) then if zBk (s.2.2.1 302) then if zBk (s.2.2.1 302) then some (s.1 (100 * ((s.2.2.1 302) + 1) + 3), (zse (zse s 301 (s.2.2.1 302)) 302 (s.2.2.1 301))) else none else none else none
set_option maxHeartbeats 400000 in
set_option maxRecDepth 100000 in
theorem tX3_finish {g : zGl} (hok : zGok g) (d : Nat)  (N : Nat)   {s s' : zS} {w : Int32} (hf : fX3_finish N  s = some (w, s')) : zMet g mX3_finish d 0 0 [.ref 3] (zHp s) (zret (some (.int w)) (zHp s')) := by
  refine zMet.ofW (by decide +kernel) (Nat.le_of_ble_eq_true rfl) ?_
  show zW g mX3_finish d 0 0 51 _ 0 0 (zHp s) [some (.ref 3), none] [] 0
  unfold fX3_finish at hf
  refine z_aload_n dX3_finish_0 rfl ?_
  refine z_getf dX3_finish_1 fX3_21 (at_Reader s) rfl ?_
  obtain ⟨hb1, hf⟩ := zifs hf
  refine z_astore_n (ls' := [_, _]) dX3_finish_4 (by decide) rfl ?_
  refine z_aload_n dX3_finish_5 rfl ?_
  refine z_aload_n dX3_finish_6 rfl ?_
  refine z_getf dX3_finish_7 fX3_25 (at_Reader s) rfl ?_
  obtain ⟨hb2, hf⟩ := zifs hf
  refine z_putf dX3_finish_10 fX3_21 wX3_1 (at_Reader s) (Nat.le_of_ble_eq_true rfl) (fun _ => rfl) (fun _ => rfl) (st_Reader_1 s (s.2.2.1 302)) ?_
  refine z_aload_n dX3_finish_13 rfl ?_
  refine z_aload_n dX3_finish_14 rfl ?_
  refine z_putf dX3_finish_15 fX3_25 wX3_2 (at_Reader (zse s 301 (s.2.2.1 302))) (Nat.le_of_ble_eq_true rfl) (fun _ => rfl) (fun _ => rfl) (st_Reader_2 (zse s 301 (s.2.2.1 302)) (s.2.2.1 301)) ?_
  refine z_aload_n dX3_finish_18 rfl ?_
  refine z_getf dX3_finish_19 fX3_21 (at_Reader (zse (zse s 301 (s.2.2.1 302)) 302 (s.2.2.1 301))) rfl ?_
  obtain ⟨hb3, hf⟩ := zifs hf
  refine z_getN hok dX3_finish_22 fX3_51 (at_Book (zse (zse s 301 (s.2.2.1 302)) 302 (s.2.2.1 301)) (s.2.2.1 302) hb3) rfl ?_
  refine z_getN hok dX3_finish_25 fX3_55 (at_Table (zse (zse s 301 (s.2.2.1 302)) 302 (s.2.2.1 301)) ((s.2.2.1 302) + 1) (zBk_t (s.2.2.1 302) hb3).1) rfl ?_
  cases hf
  exact z_iret rfl dX3_finish_28 (Nat.zero_le _) (Nat.zero_le _) ⟨rfl, rfl⟩

noncomputable def fX3_isAtLabel (N : Nat)  (s : zS) : Option (Int32 × zS) := if (s.1 304) = 4 then some (1, s) else if (s.1 304) = 1 then zbn (fX8_kindOf N ((s.1 303) + 1) s) (fun x1 s2 => if x1 = 22 then some (1, s2) else some (0, s2)) else some (0, s)
set_option maxHeartbeats 400000 in
set_option maxRecDepth 100000 in
theorem tX3_isAtLabel {g : zGl} (hok : zGok g) (d : Nat) (hd : 2 ≤ d) (N : Nat)   {s s' : zS} {w : Int32} (hf : fX3_isAtLabel N  s = some (w, s')) : zMet g mX3_isAtLabel d 0 0 [.ref 3] (zHp s) (zret (some (.int w)) (zHp s')) := by
  refine zMet.ofW (by decide +kernel) (Nat.le_of_ble_eq_true rfl) ?_
  show zW g mX3_isAtLabel d 0 0 51 _ 0 0 (zHp s) [some (.ref 3)] [] 0
  unfold fX3_isAtLabel at hf
  refine z_aload_n dX3_isAtLabel_0 rfl ?_
  refine z_getf dX3_isAtLabel_1 fX3_63 (at_Reader s) rfl ?_
  refine z_iconst 4 dX3_isAtLabel_4 (by decide +kernel) ?_
  refine z_icmp_eq 34 dX3_isAtLabel_5 (by decide) (fun c5 => ?_) (fun c5 => ?_)
  · have hf := zifp hf c5
    refine z_iconst 1 dX3_isAtLabel_34 (by decide +kernel) ?_
    refine z_goto 39 dX3_isAtLabel_35 (by decide) ?_
    cases hf
    exact z_zret rfl (by decide) dX3_isAtLabel_39 (Nat.zero_le _) (Nat.zero_le _) ⟨rfl, rfl⟩
  · have hf := zifn hf c5
    refine z_aload_n dX3_isAtLabel_8 rfl ?_
    refine z_getf dX3_isAtLabel_9 fX3_63 (at_Reader s) rfl ?_
    refine z_iconst 1 dX3_isAtLabel_12 (by decide +kernel) ?_
    refine z_icmp_ne 38 dX3_isAtLabel_13 (by decide) (fun c13 => ?_) (fun c13 => ?_)
    · have hf := zifn hf c13
      refine z_iconst 0 dX3_isAtLabel_38 (by decide +kernel) ?_
      cases hf
      exact z_zret rfl (by decide) dX3_isAtLabel_39 (Nat.zero_le _) (Nat.zero_le _) ⟨rfl, rfl⟩
    · have hf := zifp hf c13
      refine z_aload_n dX3_isAtLabel_16 rfl ?_
      refine z_getf dX3_isAtLabel_17 fX3_12 (at_Reader s) rfl ?_
      refine z_aload_n dX3_isAtLabel_20 rfl ?_
      refine z_getf dX3_isAtLabel_21 fX3_41 (at_Reader s) rfl ?_
      refine z_iconst 1 dX3_isAtLabel_24 (by decide +kernel) ?_
      refine z_iadd dX3_isAtLabel_25 ?_
      obtain ⟨x1, s2, q3, hf⟩ := zbn_of hf
      refine z_cV (as := [_]) hok dX3_isAtLabel_26 kX3_59 (tX8_kindOf hok (d - 1) (by omega) N ((s.1 303) + 1)  q3) rfl (at_Words s) rfl rfl (by omega) (Nat.le_of_ble_eq_true rfl) (Nat.zero_le _) (Nat.zero_le _) rfl ?_
      refine z_bipush 22 dX3_isAtLabel_29 (by decide +kernel) ?_
      refine z_icmp_ne 38 dX3_isAtLabel_31 (by decide) (fun c31 => ?_) (fun c31 => ?_)
      · have hf := zifn hf c31
        refine z_iconst 0 dX3_isAtLabel_38 (by decide +kernel) ?_
        cases hf
        exact z_zret rfl (by decide) dX3_isAtLabel_39 (Nat.zero_le _) (Nat.zero_le _) ⟨rfl, rfl⟩
      · have hf := zifp hf c31
        refine z_iconst 1 dX3_isAtLabel_34 (by decide +kernel) ?_
        refine z_goto 39 dX3_isAtLabel_35 (by decide) ?_
        cases hf
        exact z_zret rfl (by decide) dX3_isAtLabel_39 (Nat.zero_le _) (Nat.zero_le _) ⟨rfl, rfl⟩

noncomputable def fX3_canBeginExpression (N : Nat) (p0 : Int32) (s : zS) : Option (Int32 × zS) := if p0 = 1 then some (1, s) else if p0 = 2 then some (0, s) else if p0 = 3 then some (1, s) else if p0 = 4 then some (1, s) else if p0 = 5 then some (1, s) else if p0 = 6 then some (1, s) else if p0 = 7 then some (0, s) else if p0 = 8 then some (0, s) else if p0 = 9 then some (1, s) else if p0 = 10 then some (0, s) else if p0 = 11 then some (0, s) else if p0 = 12 then some (0, s) else if p0 = 13 then some (1, s) else if p0 = 14 then some (0, s) else if p0 = 15 then some (0, s) else if p0 = 16 then some (0, s) else if p0 = 17 then some (0, s) else if p0 = 18 then some (0, s) else if p0 = 19 then some (0, s) else if p0 = 20 then some (0, s) else if p0 = 21 then some (0, s) else if p0 = 22 then some (0, s) else if p0 = 23 then some (1, s) else some (0, s)
set_option maxHeartbeats 400000 in
set_option maxRecDepth 100000 in
theorem tX3_canBeginExpression {g : zGl} (hok : zGok g) (d : Nat)  (N : Nat) (p0 : Int32)  {s s' : zS} {w : Int32} (hf : fX3_canBeginExpression N p0 s = some (w, s')) : zMet g mX3_canBeginExpression d 0 0 [.int p0] (zHp s) (zret (some (.int w)) (zHp s')) := by
  refine zMet.ofW (by decide +kernel) (Nat.le_of_ble_eq_true rfl) ?_
  show zW g mX3_canBeginExpression d 0 0 51 _ 0 0 (zHp s) [some (.int p0)] [] 0
  unfold fX3_canBeginExpression at hf
  refine z_iload_n dX3_canBeginExpression_0 rfl ?_
  refine z_tab [(1, 108), (2, 110), (3, 108), (4, 108), (5, 108), (6, 108), (7, 110), (8, 110), (9, 108), (10, 110), (11, 110), (12, 110), (13, 108), (14, 110), (15, 110), (16, 110), (17, 110), (18, 110), (19, 110), (20, 110), (21, 110), (22, 110), (23, 108)] 110 dX3_canBeginExpression_1 (by decide +kernel) (by decide +kernel) (by decide +kernel) (by decide +kernel) ?_
  refine z_selc (fun c1_0 => ?_) (fun c1_0 => ?_)
  · have hf := zifp hf c1_0
    refine z_iconst 1 dX3_canBeginExpression_108 (by decide +kernel) ?_
    cases hf
    exact z_zret rfl (by decide) dX3_canBeginExpression_109 (Nat.zero_le _) (Nat.zero_le _) ⟨rfl, rfl⟩
  · have hf := zifn hf c1_0
    refine z_selc (fun c1_1 => ?_) (fun c1_1 => ?_)
    · have hf := zifp hf c1_1
      refine z_iconst 0 dX3_canBeginExpression_110 (by decide +kernel) ?_
      cases hf
      exact z_zret rfl (by decide) dX3_canBeginExpression_111 (Nat.zero_le _) (Nat.zero_le _) ⟨rfl, rfl⟩
    · have hf := zifn hf c1_1
      refine z_selc (fun c1_2 => ?_) (fun c1_2 => ?_)
      · have hf := zifp hf c1_2
        refine z_iconst 1 dX3_canBeginExpression_108 (by decide +kernel) ?_
        cases hf
        exact z_zret rfl (by decide) dX3_canBeginExpression_109 (Nat.zero_le _) (Nat.zero_le _) ⟨rfl, rfl⟩
      · have hf := zifn hf c1_2
        refine z_selc (fun c1_3 => ?_) (fun c1_3 => ?_)
        · have hf := zifp hf c1_3
          refine z_iconst 1 dX3_canBeginExpression_108 (by decide +kernel) ?_
          cases hf
          exact z_zret rfl (by decide) dX3_canBeginExpression_109 (Nat.zero_le _) (Nat.zero_le _) ⟨rfl, rfl⟩
        · have hf := zifn hf c1_3
          refine z_selc (fun c1_4 => ?_) (fun c1_4 => ?_)
          · have hf := zifp hf c1_4
            refine z_iconst 1 dX3_canBeginExpression_108 (by decide +kernel) ?_
            cases hf
            exact z_zret rfl (by decide) dX3_canBeginExpression_109 (Nat.zero_le _) (Nat.zero_le _) ⟨rfl, rfl⟩
          · have hf := zifn hf c1_4
            refine z_selc (fun c1_5 => ?_) (fun c1_5 => ?_)
            · have hf := zifp hf c1_5
              refine z_iconst 1 dX3_canBeginExpression_108 (by decide +kernel) ?_
              cases hf
              exact z_zret rfl (by decide) dX3_canBeginExpression_109 (Nat.zero_le _) (Nat.zero_le _) ⟨rfl, rfl⟩
            · have hf := zifn hf c1_5
              refine z_selc (fun c1_6 => ?_) (fun c1_6 => ?_)
              · have hf := zifp hf c1_6
                refine z_iconst 0 dX3_canBeginExpression_110 (by decide +kernel) ?_
                cases hf
                exact z_zret rfl (by decide) dX3_canBeginExpression_111 (Nat.zero_le _) (Nat.zero_le _) ⟨rfl, rfl⟩
              · have hf := zifn hf c1_6
                refine z_selc (fun c1_7 => ?_) (fun c1_7 => ?_)
                · have hf := zifp hf c1_7
                  refine z_iconst 0 dX3_canBeginExpression_110 (by decide +kernel) ?_
                  cases hf
                  exact z_zret rfl (by decide) dX3_canBeginExpression_111 (Nat.zero_le _) (Nat.zero_le _) ⟨rfl, rfl⟩
                · have hf := zifn hf c1_7
                  refine z_selc (fun c1_8 => ?_) (fun c1_8 => ?_)
                  · have hf := zifp hf c1_8
                    refine z_iconst 1 dX3_canBeginExpression_108 (by decide +kernel) ?_
                    cases hf
                    exact z_zret rfl (by decide) dX3_canBeginExpression_109 (Nat.zero_le _) (Nat.zero_le _) ⟨rfl, rfl⟩
                  · have hf := zifn hf c1_8
                    refine z_selc (fun c1_9 => ?_) (fun c1_9 => ?_)
                    · have hf := zifp hf c1_9
                      refine z_iconst 0 dX3_canBeginExpression_110 (by decide +kernel) ?_
                      cases hf
                      exact z_zret rfl (by decide) dX3_canBeginExpression_111 (Nat.zero_le _) (Nat.zero_le _) ⟨rfl, rfl⟩
                    · have hf := zifn hf c1_9
                      refine z_selc (fun c1_10 => ?_) (fun c1_10 => ?_)
                      · have hf := zifp hf c1_10
                        refine z_iconst 0 dX3_canBeginExpression_110 (by decide +kernel) ?_
                        cases hf
                        exact z_zret rfl (by decide) dX3_canBeginExpression_111 (Nat.zero_le _) (Nat.zero_le _) ⟨rfl, rfl⟩
                      · have hf := zifn hf c1_10
                        refine z_selc (fun c1_11 => ?_) (fun c1_11 => ?_)
                        · have hf := zifp hf c1_11
                          refine z_iconst 0 dX3_canBeginExpression_110 (by decide +kernel) ?_
                          cases hf
                          exact z_zret rfl (by decide) dX3_canBeginExpression_111 (Nat.zero_le _) (Nat.zero_le _) ⟨rfl, rfl⟩
                        · have hf := zifn hf c1_11
                          refine z_selc (fun c1_12 => ?_) (fun c1_12 => ?_)
                          · have hf := zifp hf c1_12
                            refine z_iconst 1 dX3_canBeginExpression_108 (by decide +kernel) ?_
                            cases hf
                            exact z_zret rfl (by decide) dX3_canBeginExpression_109 (Nat.zero_le _) (Nat.zero_le _) ⟨rfl, rfl⟩
                          · have hf := zifn hf c1_12
                            refine z_selc (fun c1_13 => ?_) (fun c1_13 => ?_)
                            · have hf := zifp hf c1_13
                              refine z_iconst 0 dX3_canBeginExpression_110 (by decide +kernel) ?_
                              cases hf
                              exact z_zret rfl (by decide) dX3_canBeginExpression_111 (Nat.zero_le _) (Nat.zero_le _) ⟨rfl, rfl⟩
                            · have hf := zifn hf c1_13
                              refine z_selc (fun c1_14 => ?_) (fun c1_14 => ?_)
                              · have hf := zifp hf c1_14
                                refine z_iconst 0 dX3_canBeginExpression_110 (by decide +kernel) ?_
                                cases hf
                                exact z_zret rfl (by decide) dX3_canBeginExpression_111 (Nat.zero_le _) (Nat.zero_le _) ⟨rfl, rfl⟩
                              · have hf := zifn hf c1_14
                                refine z_selc (fun c1_15 => ?_) (fun c1_15 => ?_)
                                · have hf := zifp hf c1_15
                                  refine z_iconst 0 dX3_canBeginExpression_110 (by decide +kernel) ?_
                                  cases hf
                                  exact z_zret rfl (by decide) dX3_canBeginExpression_111 (Nat.zero_le _) (Nat.zero_le _) ⟨rfl, rfl⟩
                                · have hf := zifn hf c1_15
                                  refine z_selc (fun c1_16 => ?_) (fun c1_16 => ?_)
                                  · have hf := zifp hf c1_16
                                    refine z_iconst 0 dX3_canBeginExpression_110 (by decide +kernel) ?_
                                    cases hf
                                    exact z_zret rfl (by decide) dX3_canBeginExpression_111 (Nat.zero_le _) (Nat.zero_le _) ⟨rfl, rfl⟩
                                  · have hf := zifn hf c1_16
                                    refine z_selc (fun c1_17 => ?_) (fun c1_17 => ?_)
                                    · have hf := zifp hf c1_17
                                      refine z_iconst 0 dX3_canBeginExpression_110 (by decide +kernel) ?_
                                      cases hf
                                      exact z_zret rfl (by decide) dX3_canBeginExpression_111 (Nat.zero_le _) (Nat.zero_le _) ⟨rfl, rfl⟩
                                    · have hf := zifn hf c1_17
                                      refine z_selc (fun c1_18 => ?_) (fun c1_18 => ?_)
                                      · have hf := zifp hf c1_18
                                        refine z_iconst 0 dX3_canBeginExpression_110 (by decide +kernel) ?_
                                        cases hf
                                        exact z_zret rfl (by decide) dX3_canBeginExpression_111 (Nat.zero_le _) (Nat.zero_le _) ⟨rfl, rfl⟩
                                      · have hf := zifn hf c1_18
                                        refine z_selc (fun c1_19 => ?_) (fun c1_19 => ?_)
                                        · have hf := zifp hf c1_19
                                          refine z_iconst 0 dX3_canBeginExpression_110 (by decide +kernel) ?_
                                          cases hf
                                          exact z_zret rfl (by decide) dX3_canBeginExpression_111 (Nat.zero_le _) (Nat.zero_le _) ⟨rfl, rfl⟩
                                        · have hf := zifn hf c1_19
                                          refine z_selc (fun c1_20 => ?_) (fun c1_20 => ?_)
                                          · have hf := zifp hf c1_20
                                            refine z_iconst 0 dX3_canBeginExpression_110 (by decide +kernel) ?_
                                            cases hf
                                            exact z_zret rfl (by decide) dX3_canBeginExpression_111 (Nat.zero_le _) (Nat.zero_le _) ⟨rfl, rfl⟩
                                          · have hf := zifn hf c1_20
                                            refine z_selc (fun c1_21 => ?_) (fun c1_21 => ?_)
                                            · have hf := zifp hf c1_21
                                              refine z_iconst 0 dX3_canBeginExpression_110 (by decide +kernel) ?_
                                              cases hf
                                              exact z_zret rfl (by decide) dX3_canBeginExpression_111 (Nat.zero_le _) (Nat.zero_le _) ⟨rfl, rfl⟩
                                            · have hf := zifn hf c1_21
                                              refine z_selc (fun c1_22 => ?_) (fun c1_22 => ?_)
                                              · have hf := zifp hf c1_22
                                                refine z_iconst 1 dX3_canBeginExpression_108 (by decide +kernel) ?_
                                                cases hf
                                                exact z_zret rfl (by decide) dX3_canBeginExpression_109 (Nat.zero_le _) (Nat.zero_le _) ⟨rfl, rfl⟩
                                              · have hf := zifn hf c1_22
                                                refine z_seln ?_
                                                refine z_iconst 0 dX3_canBeginExpression_110 (by decide +kernel) ?_
                                                cases hf
                                                exact z_zret rfl (by decide) dX3_canBeginExpression_111 (Nat.zero_le _) (Nat.zero_le _) ⟨rfl, rfl⟩

noncomputable def fX3_sortAhead (N : Nat) (p0 : Int32) (s : zS) : Option (Int32 × zS) := if p0 = 1 then some (1, s) else if p0 = 3 then some (3, s) else if p0 = 6 then some (2, s) else if p0 = 13 then some (10, s) else if p0 = 23 then some (11, s) else some (0, s)
set_option maxHeartbeats 400000 in
set_option maxRecDepth 100000 in
theorem tX3_sortAhead {g : zGl} (hok : zGok g) (d : Nat)  (N : Nat) (p0 : Int32)  {s s' : zS} {w : Int32} (hf : fX3_sortAhead N p0 s = some (w, s')) : zMet g mX3_sortAhead d 0 0 [.int p0] (zHp s) (zret (some (.int w)) (zHp s')) := by
  refine zMet.ofW (by decide +kernel) (Nat.le_of_ble_eq_true rfl) ?_
  show zW g mX3_sortAhead d 0 0 51 _ 0 0 (zHp s) [some (.int p0)] [] 0
  unfold fX3_sortAhead at hf
  refine z_iload_n dX3_sortAhead_0 rfl ?_
  refine z_look [(1, 58), (3, 62), (6, 60), (13, 52), (23, 55)] 64 dX3_sortAhead_1 (by decide +kernel) (by decide +kernel) (by decide +kernel) ?_
  refine z_selc (fun c1_0 => ?_) (fun c1_0 => ?_)
  · have hf := zifp hf c1_0
    refine z_iconst 1 dX3_sortAhead_58 (by decide +kernel) ?_
    cases hf
    exact z_iret rfl dX3_sortAhead_59 (Nat.zero_le _) (Nat.zero_le _) ⟨rfl, rfl⟩
  · have hf := zifn hf c1_0
    refine z_selc (fun c1_1 => ?_) (fun c1_1 => ?_)
    · have hf := zifp hf c1_1
      refine z_iconst 3 dX3_sortAhead_62 (by decide +kernel) ?_
      cases hf
      exact z_iret rfl dX3_sortAhead_63 (Nat.zero_le _) (Nat.zero_le _) ⟨rfl, rfl⟩
    · have hf := zifn hf c1_1
      refine z_selc (fun c1_2 => ?_) (fun c1_2 => ?_)
      · have hf := zifp hf c1_2
        refine z_iconst 2 dX3_sortAhead_60 (by decide +kernel) ?_
        cases hf
        exact z_iret rfl dX3_sortAhead_61 (Nat.zero_le _) (Nat.zero_le _) ⟨rfl, rfl⟩
      · have hf := zifn hf c1_2
        refine z_selc (fun c1_3 => ?_) (fun c1_3 => ?_)
        · have hf := zifp hf c1_3
          refine z_bipush 10 dX3_sortAhead_52 (by decide +kernel) ?_
          cases hf
          exact z_iret rfl dX3_sortAhead_54 (Nat.zero_le _) (Nat.zero_le _) ⟨rfl, rfl⟩
        · have hf := zifn hf c1_3
          refine z_selc (fun c1_4 => ?_) (fun c1_4 => ?_)
          · have hf := zifp hf c1_4
            refine z_bipush 11 dX3_sortAhead_55 (by decide +kernel) ?_
            cases hf
            exact z_iret rfl dX3_sortAhead_57 (Nat.zero_le _) (Nat.zero_le _) ⟨rfl, rfl⟩
          · have hf := zifn hf c1_4
            refine z_seln ?_
            refine z_iconst 0 dX3_sortAhead_64 (by decide +kernel) ?_
            cases hf
            exact z_iret rfl dX3_sortAhead_65 (Nat.zero_le _) (Nat.zero_le _) ⟨rfl, rfl⟩

noncomputable def fX3_step (N : Nat)  (s : zS) : Option (Option Unit × zS) := zbn (fX8_kindOf N ((s.1 303) + 1) (zsc s 303 ((s.1 303) + 1))) (fun x1 s2 => zbn (fX8_placeOf N (s2.1 303) (zsc s2 304 x1)) (fun x4 s5 => if (s5.1 304) = 24 then zbn (fX8_valueOf N (s5.1 303) (zsc s5 305 x4)) (fun x7 s8 => zbt (fX3_refuse N x7 s8) (fun sx => some (none, sx)) (fun x10 s11 => some (some (), s11))) else some (some (), (zsc s5 305 x4))))
set_option maxHeartbeats 400000 in
set_option maxRecDepth 100000 in
theorem tX3_step {g : zGl} (hok : zGok g) (d : Nat) (hd : 2 ≤ d) (N : Nat)   {s s' : zS} {w : Option Unit} (hf : fX3_step N  s = some (w, s')) : zMet g mX3_step d (zk1 w) (zk6 w) [.ref 3] (zHp s) (zendV w (zHp s')) := by
  refine zMet.ofW (by decide +kernel) (Nat.le_of_ble_eq_true rfl) ?_
  generalize emc : zk1 w = mc
  generalize ems : zk6 w = ms
  show zW g mX3_step d mc ms 51 _ 0 0 (zHp s) [some (.ref 3)] [] 0
  unfold fX3_step at hf
  refine z_aload_n dX3_step_0 rfl ?_
  refine z_dup dX3_step_1 rfl ?_
  refine z_getf dX3_step_2 fX3_41 (at_Reader s) rfl ?_
  refine z_iconst 1 dX3_step_5 (by decide +kernel) ?_
  refine z_iadd dX3_step_6 ?_
  refine z_putf dX3_step_7 fX3_41 wX3_3 (at_Reader s) (Nat.le_of_ble_eq_true rfl) (fun _ => rfl) (fun _ => rfl) (st_Reader_3 s ((s.1 303) + 1)) ?_
  refine z_aload_n dX3_step_10 rfl ?_
  refine z_aload_n dX3_step_11 rfl ?_
  refine z_getf dX3_step_12 fX3_12 (at_Reader (zsc s 303 ((s.1 303) + 1))) rfl ?_
  refine z_aload_n dX3_step_15 rfl ?_
  refine z_getf dX3_step_16 fX3_41 (at_Reader (zsc s 303 ((s.1 303) + 1))) rfl ?_
  obtain ⟨x1, s2, q3, hf⟩ := zbn_of hf
  refine z_cV (as := [_]) hok dX3_step_19 kX3_59 (tX8_kindOf hok (d - 1) (by omega) N ((s.1 303) + 1)  q3) rfl (at_Words (zsc s 303 ((s.1 303) + 1))) rfl rfl (by omega) (Nat.le_of_ble_eq_true rfl) (Nat.zero_le _) (Nat.zero_le _) rfl ?_
  refine z_putf dX3_step_22 fX3_63 wX3_4 (at_Reader s2) (Nat.le_of_ble_eq_true rfl) (fun _ => rfl) (fun _ => rfl) (st_Reader_4 s2 x1) ?_
  refine z_aload_n dX3_step_25 rfl ?_
  refine z_aload_n dX3_step_26 rfl ?_
  refine z_getf dX3_step_27 fX3_12 (at_Reader (zsc s2 304 x1)) rfl ?_
  refine z_aload_n dX3_step_30 rfl ?_
  refine z_getf dX3_step_31 fX3_41 (at_Reader (zsc s2 304 x1)) rfl ?_
  obtain ⟨x4, s5, q6, hf⟩ := zbn_of hf
  refine z_cV (as := [_]) hok dX3_step_34 kX3_66 (tX8_placeOf hok (d - 1) (by omega) N (s2.1 303)  q6) rfl (at_Words (zsc s2 304 x1)) rfl rfl (by omega) (Nat.le_of_ble_eq_true rfl) (Nat.zero_le _) (Nat.zero_le _) rfl ?_
  refine z_putf dX3_step_37 fX3_69 wX3_5 (at_Reader s5) (Nat.le_of_ble_eq_true rfl) (fun _ => rfl) (fun _ => rfl) (st_Reader_5 s5 x4) ?_
  refine z_aload_n dX3_step_40 rfl ?_
  refine z_getf dX3_step_41 fX3_63 (at_Reader (zsc s5 305 x4)) rfl ?_
  refine z_bipush 24 dX3_step_44 (by decide +kernel) ?_
  refine z_icmp_ne 64 dX3_step_46 (by decide) (fun c46 => ?_) (fun c46 => ?_)
  · have hf := zifn hf c46
    cases hf
    exact z_vret rfl dX3_step_64 (Nat.zero_le _) (Nat.zero_le _) ⟨rfl, rfl⟩
  · have hf := zifp hf c46
    refine z_aload_n dX3_step_49 rfl ?_
    refine z_aload_n dX3_step_50 rfl ?_
    refine z_getf dX3_step_51 fX3_12 (at_Reader (zsc s5 305 x4)) rfl ?_
    refine z_aload_n dX3_step_54 rfl ?_
    refine z_getf dX3_step_55 fX3_41 (at_Reader (zsc s5 305 x4)) rfl ?_
    obtain ⟨x7, s8, q9, hf⟩ := zbn_of hf
    refine z_cV (as := [_]) hok dX3_step_58 kX3_72 (tX8_valueOf hok (d - 1) (by omega) N (s5.1 303)  q9) rfl (at_Words (zsc s5 305 x4)) rfl rfl (by omega) (Nat.le_of_ble_eq_true rfl) (Nat.zero_le _) (Nat.zero_le _) rfl ?_
    rcases zbt_of hf with ⟨s11, q12, hf⟩ | ⟨x10, s11, q12, hf⟩
    · cases hf
      have e1 : mc = 1 := emc.symm
      have e2 : ms = 6 := ems.symm
      subst e1
      subst e2
      exact z_xV (as := [_]) hok dX3_step_61 kX3_75 (zcvTV (tX3_refuse hok (d - 1) N x7  q12)) rfl (at_Reader s8) rfl rfl (by omega) (Nat.le_of_ble_eq_true rfl) rfl rfl ⟨rfl, rfl⟩
    · refine z_cV (as := [_]) hok dX3_step_61 kX3_75 (zcvV (tX3_refuse hok (d - 1) N x7  q12)) rfl (at_Reader s8) rfl rfl (by omega) (Nat.le_of_ble_eq_true rfl) (Nat.zero_le _) (Nat.zero_le _) rfl ?_
      cases hf
      exact z_vret rfl dX3_step_64 (Nat.zero_le _) (Nat.zero_le _) ⟨rfl, rfl⟩

noncomputable def fX3_demand (N : Nat) (p0 : Int32) (s : zS) : Option (Option Unit × zS) := if (s.1 304) = p0 then some (some (), s) else zbt (fX3_refuse N 5 s) (fun sx => some (none, sx)) (fun x1 s2 => some (some (), s2))
set_option maxHeartbeats 400000 in
set_option maxRecDepth 100000 in
theorem tX3_demand {g : zGl} (hok : zGok g) (d : Nat) (hd : 1 ≤ d) (N : Nat) (p0 : Int32)  {s s' : zS} {w : Option Unit} (hf : fX3_demand N p0 s = some (w, s')) : zMet g mX3_demand d (zk1 w) (zk6 w) [.ref 3, .int p0] (zHp s) (zendV w (zHp s')) := by
  refine zMet.ofW (by decide +kernel) (Nat.le_of_ble_eq_true rfl) ?_
  generalize emc : zk1 w = mc
  generalize ems : zk6 w = ms
  show zW g mX3_demand d mc ms 51 _ 0 0 (zHp s) [some (.ref 3), some (.int p0)] [] 0
  unfold fX3_demand at hf
  refine z_aload_n dX3_demand_0 rfl ?_
  refine z_getf dX3_demand_1 fX3_63 (at_Reader s) rfl ?_
  refine z_iload_n dX3_demand_4 rfl ?_
  refine z_icmp_eq 13 dX3_demand_5 (by decide) (fun c5 => ?_) (fun c5 => ?_)
  · have hf := zifp hf c5
    cases hf
    exact z_vret rfl dX3_demand_13 (Nat.zero_le _) (Nat.zero_le _) ⟨rfl, rfl⟩
  · have hf := zifn hf c5
    refine z_aload_n dX3_demand_8 rfl ?_
    refine z_iconst 5 dX3_demand_9 (by decide +kernel) ?_
    rcases zbt_of hf with ⟨s2, q3, hf⟩ | ⟨x1, s2, q3, hf⟩
    · cases hf
      have e1 : mc = 1 := emc.symm
      have e2 : ms = 6 := ems.symm
      subst e1
      subst e2
      exact z_xV (as := [_]) hok dX3_demand_10 kX3_75 (zcvTV (tX3_refuse hok (d - 1) N 5  q3)) rfl (at_Reader s) rfl rfl (by omega) (Nat.le_of_ble_eq_true rfl) rfl rfl ⟨rfl, rfl⟩
    · refine z_cV (as := [_]) hok dX3_demand_10 kX3_75 (zcvV (tX3_refuse hok (d - 1) N 5  q3)) rfl (at_Reader s) rfl rfl (by omega) (Nat.le_of_ble_eq_true rfl) (Nat.zero_le _) (Nat.zero_le _) rfl ?_
      cases hf
      exact z_vret rfl dX3_demand_13 (Nat.zero_le _) (Nat.zero_le _) ⟨rfl, rfl⟩

noncomputable def fX3_addStatement_J19 (N : Nat) (p0 : Int32) (p1 : Int32) (p2 : Int32)  (s : zS) : Option (Option Int32 × zS) := if zBk (s.2.2.1 302) then zbn (fX6_addRow N ((s.2.2.1 302) + 1) s) (fun x6 s7 => if zBk (s7.2.2.1 302) then zbn (fX6_setCell N ((s7.2.2.1 302) + 1) x6 0 p0 s7) (fun x10 s11 => if zBk (s11.2.2.1 302) then zbn (fX6_setCell N ((s11.2.2.1 302) + 1) x6 1 p1 s11) (fun x14 s15 => if zBk (s15.2.2.1 302) then if zBk (s15.2.2.1 302) then zbn (fX6_setCell N ((s15.2.2.1 302) + 1) x6 2 (s15.1 (100 * ((s15.2.2.1 302) + 3) + 3)) s15) (fun x19 s20 => if zBk (s20.2.2.1 302) then zbn (fX6_setCell N ((s20.2.2.1 302) + 1) x6 4 (s20.1 305) s20) (fun x23 s24 => if zBk (s24.2.2.1 302) then zbn (fX6_setCell N ((s24.2.2.1 302) + 1) x6 5 p2 s24) (fun x27 s28 => some (some x6, s28)) else none) else none) else none else none) else none) else none) else none
set_option maxHeartbeats 400000 in
set_option maxRecDepth 100000 in
theorem tX3_addStatement_J19 {g : zGl} (hok : zGok g) (d : Nat) (hd : 1 ≤ d) (N : Nat) (p0 : Int32) (p1 : Int32) (p2 : Int32)  {mc ms n0 : Nat}  {s s' : zS} {w : Option Int32} (emc : zk1 w = mc) (ems : zk6 w = ms) (hf : fX3_addStatement_J19 N p0 p1 p2  s = some (w, s')) : zW g mX3_addStatement d mc ms n0 (zendI w (zHp s')) 0 0 (zHp s) [some (.ref 3), some (.int p0), some (.int p1), some (.int p2), none] [] 19 := by
  unfold fX3_addStatement_J19 at hf
  refine z_aload_n dX3_addStatement_19 rfl ?_
  refine z_getf dX3_addStatement_20 fX3_25 (at_Reader s) rfl ?_
  obtain ⟨hb5, hf⟩ := zifs hf
  refine z_getN hok dX3_addStatement_23 fX3_51 (at_Book s (s.2.2.1 302) hb5) rfl ?_
  obtain ⟨x6, s7, q8, hf⟩ := zbn_of hf
  refine z_cV (as := []) hok dX3_addStatement_26 kX3_113 (tX6_addRow hok (d - 1) N ((s.2.2.1 302) + 1) (zBk_t (s.2.2.1 302) hb5).1 q8) rfl (at_Table s ((s.2.2.1 302) + 1) (zBk_t (s.2.2.1 302) hb5).1) rfl rfl (by omega) (Nat.le_of_ble_eq_true rfl) (Nat.zero_le _) (Nat.zero_le _) rfl ?_
  refine z_istore (ls' := [_, _, _, _, _]) dX3_addStatement_29 (by decide) rfl ?_
  refine z_aload_n dX3_addStatement_31 rfl ?_
  refine z_getf dX3_addStatement_32 fX3_25 (at_Reader s7) rfl ?_
  obtain ⟨hb9, hf⟩ := zifs hf
  refine z_getN hok dX3_addStatement_35 fX3_51 (at_Book s7 (s7.2.2.1 302) hb9) rfl ?_
  refine z_iload dX3_addStatement_38 rfl ?_
  refine z_iconst 0 dX3_addStatement_40 (by decide +kernel) ?_
  refine z_iload_n dX3_addStatement_41 rfl ?_
  obtain ⟨x10, s11, q12, hf⟩ := zbn_of hf
  refine z_cV (as := [_, _, _]) hok dX3_addStatement_42 kX3_106 (tX6_setCell hok (d - 1) N ((s7.2.2.1 302) + 1) x6 0 p0 (zBk_t (s7.2.2.1 302) hb9).1 q12) rfl (at_Table s7 ((s7.2.2.1 302) + 1) (zBk_t (s7.2.2.1 302) hb9).1) rfl rfl (by omega) (Nat.le_of_ble_eq_true rfl) (Nat.zero_le _) (Nat.zero_le _) rfl ?_
  refine z_aload_n dX3_addStatement_45 rfl ?_
  refine z_getf dX3_addStatement_46 fX3_25 (at_Reader s11) rfl ?_
  obtain ⟨hb13, hf⟩ := zifs hf
  refine z_getN hok dX3_addStatement_49 fX3_51 (at_Book s11 (s11.2.2.1 302) hb13) rfl ?_
  refine z_iload dX3_addStatement_52 rfl ?_
  refine z_iconst 1 dX3_addStatement_54 (by decide +kernel) ?_
  refine z_iload_n dX3_addStatement_55 rfl ?_
  obtain ⟨x14, s15, q16, hf⟩ := zbn_of hf
  refine z_cV (as := [_, _, _]) hok dX3_addStatement_56 kX3_106 (tX6_setCell hok (d - 1) N ((s11.2.2.1 302) + 1) x6 1 p1 (zBk_t (s11.2.2.1 302) hb13).1 q16) rfl (at_Table s11 ((s11.2.2.1 302) + 1) (zBk_t (s11.2.2.1 302) hb13).1) rfl rfl (by omega) (Nat.le_of_ble_eq_true rfl) (Nat.zero_le _) (Nat.zero_le _) rfl ?_
  refine z_aload_n dX3_addStatement_59 rfl ?_
  refine z_getf dX3_addStatement_60 fX3_25 (at_Reader s15) rfl ?_
  obtain ⟨hb17, hf⟩ := zifs hf
  refine z_getN hok dX3_addStatement_63 fX3_51 (at_Book s15 (s15.2.2.1 302) hb17) rfl ?_
  refine z_iload dX3_addStatement_66 rfl ?_
  refine z_iconst 2 dX3_addStatement_68 (by decide +kernel) ?_
  refine z_aload_n dX3_addStatement_69 rfl ?_
  refine z_getf dX3_addStatement_70 fX3_25 (at_Reader s15) rfl ?_
  obtain ⟨hb18, hf⟩ := zifs hf
  refine z_getN hok dX3_addStatement_73 fX3_100 (at_Book s15 (s15.2.2.1 302) hb18) rfl ?_
  refine z_getN hok dX3_addStatement_76 fX3_55 (at_Table s15 ((s15.2.2.1 302) + 3) (zBk_t (s15.2.2.1 302) hb18).2.1) rfl ?_
  obtain ⟨x19, s20, q21, hf⟩ := zbn_of hf
  refine z_cV (as := [_, _, _]) hok dX3_addStatement_79 kX3_106 (tX6_setCell hok (d - 1) N ((s15.2.2.1 302) + 1) x6 2 (s15.1 (100 * ((s15.2.2.1 302) + 3) + 3)) (zBk_t (s15.2.2.1 302) hb17).1 q21) rfl (at_Table s15 ((s15.2.2.1 302) + 1) (zBk_t (s15.2.2.1 302) hb17).1) rfl rfl (by omega) (Nat.le_of_ble_eq_true rfl) (Nat.zero_le _) (Nat.zero_le _) rfl ?_
  refine z_aload_n dX3_addStatement_82 rfl ?_
  refine z_getf dX3_addStatement_83 fX3_25 (at_Reader s20) rfl ?_
  obtain ⟨hb22, hf⟩ := zifs hf
  refine z_getN hok dX3_addStatement_86 fX3_51 (at_Book s20 (s20.2.2.1 302) hb22) rfl ?_
  refine z_iload dX3_addStatement_89 rfl ?_
  refine z_iconst 4 dX3_addStatement_91 (by decide +kernel) ?_
  refine z_aload_n dX3_addStatement_92 rfl ?_
  refine z_getf dX3_addStatement_93 fX3_69 (at_Reader s20) rfl ?_
  obtain ⟨x23, s24, q25, hf⟩ := zbn_of hf
  refine z_cV (as := [_, _, _]) hok dX3_addStatement_96 kX3_106 (tX6_setCell hok (d - 1) N ((s20.2.2.1 302) + 1) x6 4 (s20.1 305) (zBk_t (s20.2.2.1 302) hb22).1 q25) rfl (at_Table s20 ((s20.2.2.1 302) + 1) (zBk_t (s20.2.2.1 302) hb22).1) rfl rfl (by omega) (Nat.le_of_ble_eq_true rfl) (Nat.zero_le _) (Nat.zero_le _) rfl ?_
  refine z_aload_n dX3_addStatement_99 rfl ?_
  refine z_getf dX3_addStatement_100 fX3_25 (at_Reader s24) rfl ?_
  obtain ⟨hb26, hf⟩ := zifs hf
  refine z_getN hok dX3_addStatement_103 fX3_51 (at_Book s24 (s24.2.2.1 302) hb26) rfl ?_
  refine z_iload dX3_addStatement_106 rfl ?_
  refine z_iconst 5 dX3_addStatement_108 (by decide +kernel) ?_
  refine z_iload_n dX3_addStatement_109 rfl ?_
  obtain ⟨x27, s28, q29, hf⟩ := zbn_of hf
  refine z_cV (as := [_, _, _]) hok dX3_addStatement_110 kX3_106 (tX6_setCell hok (d - 1) N ((s24.2.2.1 302) + 1) x6 5 p2 (zBk_t (s24.2.2.1 302) hb26).1 q29) rfl (at_Table s24 ((s24.2.2.1 302) + 1) (zBk_t (s24.2.2.1 302) hb26).1) rfl rfl (by omega) (Nat.le_of_ble_eq_true rfl) (Nat.zero_le _) (Nat.zero_le _) rfl ?_
  refine z_iload dX3_addStatement_113 rfl ?_
  cases hf
  exact z_iret rfl dX3_addStatement_115 (Nat.zero_le _) (Nat.zero_le _) ⟨rfl, rfl⟩
noncomputable def fX3_addStatement (N : Nat) (p0 : Int32) (p1 : Int32) (p2 : Int32) (s : zS) : Option (Option Int32 × zS) := if zBk (s.2.2.1 302) then zbn (fX6_isFull N ((s.2.2.1 302) + 1) s) (fun x2 s3 => if x2 = 0 then fX3_addStatement_J19 N p0 p1 p2  s3 else zbt (fX3_refuse N 8 s3) (fun sx => some (none, sx)) (fun x30 s31 => fX3_addStatement_J19 N p0 p1 p2  s31)) else none
set_option maxHeartbeats 400000 in
set_option maxRecDepth 100000 in
theorem tX3_addStatement {g : zGl} (hok : zGok g) (d : Nat) (hd : 1 ≤ d) (N : Nat) (p0 : Int32) (p1 : Int32) (p2 : Int32)  {s s' : zS} {w : Option Int32} (hf : fX3_addStatement N p0 p1 p2 s = some (w, s')) : zMet g mX3_addStatement d (zk1 w) (zk6 w) [.ref 3, .int p0, .int p1, .int p2] (zHp s) (zendI w (zHp s')) := by
  refine zMet.ofW (by decide +kernel) (Nat.le_of_ble_eq_true rfl) ?_
  generalize emc : zk1 w = mc
  generalize ems : zk6 w = ms
  show zW g mX3_addStatement d mc ms 51 _ 0 0 (zHp s) [some (.ref 3), some (.int p0), some (.int p1), some (.int p2), none] [] 0
  unfold fX3_addStatement at hf
  refine z_aload_n dX3_addStatement_0 rfl ?_
  refine z_getf dX3_addStatement_1 fX3_25 (at_Reader s) rfl ?_
  obtain ⟨hb1, hf⟩ := zifs hf
  refine z_getN hok dX3_addStatement_4 fX3_51 (at_Book s (s.2.2.1 302) hb1) rfl ?_
  obtain ⟨x2, s3, q4, hf⟩ := zbn_of hf
  refine z_cV (as := []) hok dX3_addStatement_7 kX3_110 (tX6_isFull hok (d - 1) N ((s.2.2.1 302) + 1) (zBk_t (s.2.2.1 302) hb1).1 q4) rfl (at_Table s ((s.2.2.1 302) + 1) (zBk_t (s.2.2.1 302) hb1).1) rfl rfl (by omega) (Nat.le_of_ble_eq_true rfl) (Nat.zero_le _) (Nat.zero_le _) rfl ?_
  refine z_if_eq 19 dX3_addStatement_10 (by decide) (fun c10 => ?_) (fun c10 => ?_)
  · have hf := zifp hf c10
    refine z_mask (ls' := [_, _, _, _, _]) [true, true, true, true, false] rfl ?_
    exact tX3_addStatement_J19 hok d (by omega) N p0 p1 p2   emc ems hf
  · have hf := zifn hf c10
    refine z_aload_n dX3_addStatement_13 rfl ?_
    refine z_bipush 8 dX3_addStatement_14 (by decide +kernel) ?_
    rcases zbt_of hf with ⟨s31, q32, hf⟩ | ⟨x30, s31, q32, hf⟩
    · cases hf
      have e1 : mc = 1 := emc.symm
      have e2 : ms = 6 := ems.symm
      subst e1
      subst e2
      exact z_xV (as := [_]) hok dX3_addStatement_16 kX3_75 (zcvTV (tX3_refuse hok (d - 1) N 8  q32)) rfl (at_Reader s3) rfl rfl (by omega) (Nat.le_of_ble_eq_true rfl) rfl rfl ⟨rfl, rfl⟩
    · refine z_cV (as := [_]) hok dX3_addStatement_16 kX3_75 (zcvV (tX3_refuse hok (d - 1) N 8  q32)) rfl (at_Reader s3) rfl rfl (by omega) (Nat.le_of_ble_eq_true rfl) (Nat.zero_le _) (Nat.zero_le _) rfl ?_
      refine z_mask (ls' := [_, _, _, _, _]) [true, true, true, true, false] rfl ?_
      exact tX3_addStatement_J19 hok d (by omega) N p0 p1 p2   emc ems hf

noncomputable def fX3_nameNumber (N : Nat)  (s : zS) : Option (Option Int32 × zS) := zbn (fX8_valueOf N (s.1 303) s) (fun x1 s2 => if zBk (s2.2.2.1 302) then zbn (fX0_findName N (s2.2.2.1 302) 5 (s2.1 305) x1 s2) (fun x5 s6 => if x5 = (-1) then if zBk (s6.2.2.1 302) then zbn (fX6_isFull N ((s6.2.2.1 302) + 7) s6) (fun x9 s10 => if x9 = 0 then if zBk (s10.2.2.1 302) then zbn (fX0_addName N (s10.2.2.1 302) 5 (s10.1 305) x1 s10) (fun x13 s14 => some (some x13, s14)) else none else zbt (fX3_refuse N 8 s10) (fun sx => some (none, sx)) (fun x16 s17 => if zBk (s17.2.2.1 302) then zbn (fX0_addName N (s17.2.2.1 302) 5 (s17.1 305) x1 s17) (fun x20 s21 => some (some x20, s21)) else none)) else none else some (some x5, s6)) else none)
set_option maxHeartbeats 400000 in
set_option maxRecDepth 100000 in
theorem tX3_nameNumber {g : zGl} (hok : zGok g) (d : Nat) (hd : 2 ≤ d) (N : Nat)   {s s' : zS} {w : Option Int32} (hf : fX3_nameNumber N  s = some (w, s')) : zMet g mX3_nameNumber d (zk1 w) (zk6 w) [.ref 3] (zHp s) (zendI w (zHp s')) := by
  refine zMet.ofW (by decide +kernel) (Nat.le_of_ble_eq_true rfl) ?_
  generalize emc : zk1 w = mc
  generalize ems : zk6 w = ms
  show zW g mX3_nameNumber d mc ms 51 _ 0 0 (zHp s) [some (.ref 3), none, none] [] 0
  unfold fX3_nameNumber at hf
  refine z_aload_n dX3_nameNumber_0 rfl ?_
  refine z_getf dX3_nameNumber_1 fX3_12 (at_Reader s) rfl ?_
  refine z_aload_n dX3_nameNumber_4 rfl ?_
  refine z_getf dX3_nameNumber_5 fX3_41 (at_Reader s) rfl ?_
  obtain ⟨x1, s2, q3, hf⟩ := zbn_of hf
  refine z_cV (as := [_]) hok dX3_nameNumber_8 kX3_72 (tX8_valueOf hok (d - 1) (by omega) N (s.1 303)  q3) rfl (at_Words s) rfl rfl (by omega) (Nat.le_of_ble_eq_true rfl) (Nat.zero_le _) (Nat.zero_le _) rfl ?_
  refine z_istore_n (ls' := [_, _, _]) dX3_nameNumber_11 (by decide) rfl ?_
  refine z_aload_n dX3_nameNumber_12 rfl ?_
  refine z_getf dX3_nameNumber_13 fX3_25 (at_Reader s2) rfl ?_
  obtain ⟨hb4, hf⟩ := zifs hf
  refine z_aload_n dX3_nameNumber_16 rfl ?_
  refine z_getf dX3_nameNumber_17 fX3_12 (at_Reader s2) rfl ?_
  refine z_getN hok dX3_nameNumber_20 fX3_116 (at_Words s2) rfl ?_
  refine z_aload_n dX3_nameNumber_23 rfl ?_
  refine z_getf dX3_nameNumber_24 fX3_69 (at_Reader s2) rfl ?_
  refine z_iload_n dX3_nameNumber_27 rfl ?_
  obtain ⟨x5, s6, q7, hf⟩ := zbn_of hf
  refine z_cV (as := [_, _, _]) hok dX3_nameNumber_28 kX3_120 (tX0_findName hok (d - 1) (by omega) N (s2.2.2.1 302) 5 (s2.1 305) x1 hb4 (by decide) q7) rfl (at_Book s2 (s2.2.2.1 302) hb4) rfl rfl (by omega) (Nat.le_of_ble_eq_true rfl) (Nat.zero_le _) (Nat.zero_le _) rfl ?_
  refine z_istore_n (ls' := [_, _, _]) dX3_nameNumber_31 (by decide) rfl ?_
  refine z_iload_n dX3_nameNumber_32 rfl ?_
  refine z_iconst (-1) dX3_nameNumber_33 (by decide +kernel) ?_
  refine z_icmp_eq 39 dX3_nameNumber_34 (by decide) (fun c34 => ?_) (fun c34 => ?_)
  · have hf := zifp hf c34
    refine z_aload_n dX3_nameNumber_39 rfl ?_
    refine z_getf dX3_nameNumber_40 fX3_25 (at_Reader s6) rfl ?_
    obtain ⟨hb8, hf⟩ := zifs hf
    refine z_getN hok dX3_nameNumber_43 fX3_124 (at_Book s6 (s6.2.2.1 302) hb8) rfl ?_
    obtain ⟨x9, s10, q11, hf⟩ := zbn_of hf
    refine z_cV (as := []) hok dX3_nameNumber_46 kX3_110 (tX6_isFull hok (d - 1) N ((s6.2.2.1 302) + 7) (zBk_t (s6.2.2.1 302) hb8).2.2.2.1 q11) rfl (at_Table s6 ((s6.2.2.1 302) + 7) (zBk_t (s6.2.2.1 302) hb8).2.2.2.1) rfl rfl (by omega) (Nat.le_of_ble_eq_true rfl) (Nat.zero_le _) (Nat.zero_le _) rfl ?_
    refine z_if_eq 58 dX3_nameNumber_49 (by decide) (fun c49 => ?_) (fun c49 => ?_)
    · have hf := zifp hf c49
      refine z_aload_n dX3_nameNumber_58 rfl ?_
      refine z_getf dX3_nameNumber_59 fX3_25 (at_Reader s10) rfl ?_
      obtain ⟨hb12, hf⟩ := zifs hf
      refine z_aload_n dX3_nameNumber_62 rfl ?_
      refine z_getf dX3_nameNumber_63 fX3_12 (at_Reader s10) rfl ?_
      refine z_getN hok dX3_nameNumber_66 fX3_116 (at_Words s10) rfl ?_
      refine z_aload_n dX3_nameNumber_69 rfl ?_
      refine z_getf dX3_nameNumber_70 fX3_69 (at_Reader s10) rfl ?_
      refine z_iload_n dX3_nameNumber_73 rfl ?_
      obtain ⟨x13, s14, q15, hf⟩ := zbn_of hf
      refine z_cV (as := [_, _, _]) hok dX3_nameNumber_74 kX3_127 (tX0_addName hok (d - 1) (by omega) N (s10.2.2.1 302) 5 (s10.1 305) x1 hb12 (by decide) q15) rfl (at_Book s10 (s10.2.2.1 302) hb12) rfl rfl (by omega) (Nat.le_of_ble_eq_true rfl) (Nat.zero_le _) (Nat.zero_le _) rfl ?_
      cases hf
      exact z_iret rfl dX3_nameNumber_77 (Nat.zero_le _) (Nat.zero_le _) ⟨rfl, rfl⟩
    · have hf := zifn hf c49
      refine z_aload_n dX3_nameNumber_52 rfl ?_
      refine z_bipush 8 dX3_nameNumber_53 (by decide +kernel) ?_
      rcases zbt_of hf with ⟨s17, q18, hf⟩ | ⟨x16, s17, q18, hf⟩
      · cases hf
        have e1 : mc = 1 := emc.symm
        have e2 : ms = 6 := ems.symm
        subst e1
        subst e2
        exact z_xV (as := [_]) hok dX3_nameNumber_55 kX3_75 (zcvTV (tX3_refuse hok (d - 1) N 8  q18)) rfl (at_Reader s10) rfl rfl (by omega) (Nat.le_of_ble_eq_true rfl) rfl rfl ⟨rfl, rfl⟩
      · refine z_cV (as := [_]) hok dX3_nameNumber_55 kX3_75 (zcvV (tX3_refuse hok (d - 1) N 8  q18)) rfl (at_Reader s10) rfl rfl (by omega) (Nat.le_of_ble_eq_true rfl) (Nat.zero_le _) (Nat.zero_le _) rfl ?_
        refine z_aload_n dX3_nameNumber_58 rfl ?_
        refine z_getf dX3_nameNumber_59 fX3_25 (at_Reader s17) rfl ?_
        obtain ⟨hb19, hf⟩ := zifs hf
        refine z_aload_n dX3_nameNumber_62 rfl ?_
        refine z_getf dX3_nameNumber_63 fX3_12 (at_Reader s17) rfl ?_
        refine z_getN hok dX3_nameNumber_66 fX3_116 (at_Words s17) rfl ?_
        refine z_aload_n dX3_nameNumber_69 rfl ?_
        refine z_getf dX3_nameNumber_70 fX3_69 (at_Reader s17) rfl ?_
        refine z_iload_n dX3_nameNumber_73 rfl ?_
        obtain ⟨x20, s21, q22, hf⟩ := zbn_of hf
        refine z_cV (as := [_, _, _]) hok dX3_nameNumber_74 kX3_127 (tX0_addName hok (d - 1) (by omega) N (s17.2.2.1 302) 5 (s17.1 305) x1 hb19 (by decide) q22) rfl (at_Book s17 (s17.2.2.1 302) hb19) rfl rfl (by omega) (Nat.le_of_ble_eq_true rfl) (Nat.zero_le _) (Nat.zero_le _) rfl ?_
        cases hf
        exact z_iret rfl dX3_nameNumber_77 (Nat.zero_le _) (Nat.zero_le _) ⟨rfl, rfl⟩
  · have hf := zifn hf c34
    refine z_iload_n dX3_nameNumber_37 rfl ?_
    cases hf
    exact z_iret rfl dX3_nameNumber_38 (Nat.zero_le _) (Nat.zero_le _) ⟨rfl, rfl⟩

noncomputable def fX3_addOperand_J19 (N : Nat) (p0 : Int32)  (s : zS) : Option (Option Unit × zS) := if zBk (s.2.2.1 302) then if zBk (s.2.2.1 302) then zbn (fX6_addRow N ((s.2.2.1 302) + 3) (zsc (zsc s 307 (s.1 (100 * ((s.2.2.1 302) + 5) + 3))) 308 0)) (fun x7 s8 => if zBk (s8.2.2.1 302) then zbn (fX6_setCell N ((s8.2.2.1 302) + 3) x7 0 p0 (zsc s8 306 x7)) (fun x11 s12 => if zBk (s12.2.2.1 302) then zbn (fX6_setCell N ((s12.2.2.1 302) + 3) (s12.1 306) 1 (-1) s12) (fun x15 s16 => if zBk (s16.2.2.1 302) then zbn (fX6_setCell N ((s16.2.2.1 302) + 3) (s16.1 306) 3 (s16.1 307) s16) (fun x19 s20 => if zBk (s20.2.2.1 302) then zbn (fX6_setCell N ((s20.2.2.1 302) + 3) (s20.1 306) 5 (s20.1 305) s20) (fun x23 s24 => some (some (), s24)) else none) else none) else none) else none) else none else none
set_option maxHeartbeats 400000 in
set_option maxRecDepth 100000 in
theorem tX3_addOperand_J19 {g : zGl} (hok : zGok g) (d : Nat) (hd : 1 ≤ d) (N : Nat) (p0 : Int32)  {mc ms n0 : Nat}  {s s' : zS} {w : Option Unit} (emc : zk1 w = mc) (ems : zk6 w = ms) (hf : fX3_addOperand_J19 N p0  s = some (w, s')) : zW g mX3_addOperand d mc ms n0 (zendV w (zHp s')) 0 0 (zHp s) [some (.ref 3), some (.int p0)] [] 19 := by
  unfold fX3_addOperand_J19 at hf
  refine z_aload_n dX3_addOperand_19 rfl ?_
  refine z_aload_n dX3_addOperand_20 rfl ?_
  refine z_getf dX3_addOperand_21 fX3_25 (at_Reader s) rfl ?_
  obtain ⟨hb5, hf⟩ := zifs hf
  refine z_getN hok dX3_addOperand_24 fX3_164 (at_Book s (s.2.2.1 302) hb5) rfl ?_
  refine z_getN hok dX3_addOperand_27 fX3_55 (at_Table s ((s.2.2.1 302) + 5) (zBk_t (s.2.2.1 302) hb5).2.2.1) rfl ?_
  refine z_putf dX3_addOperand_30 fX3_167 wX3_7 (at_Reader s) (Nat.le_of_ble_eq_true rfl) (fun _ => rfl) (fun _ => rfl) (st_Reader_7 s (s.1 (100 * ((s.2.2.1 302) + 5) + 3))) ?_
  refine z_aload_n dX3_addOperand_33 rfl ?_
  refine z_iconst 0 dX3_addOperand_34 (by decide +kernel) ?_
  refine z_putf dX3_addOperand_35 fX3_170 wX3_8 (at_Reader (zsc s 307 (s.1 (100 * ((s.2.2.1 302) + 5) + 3)))) (Nat.le_of_ble_eq_true rfl) (fun _ => rfl) (fun _ => rfl) (st_Reader_8 (zsc s 307 (s.1 (100 * ((s.2.2.1 302) + 5) + 3))) 0) ?_
  refine z_aload_n dX3_addOperand_38 rfl ?_
  refine z_aload_n dX3_addOperand_39 rfl ?_
  refine z_getf dX3_addOperand_40 fX3_25 (at_Reader (zsc (zsc s 307 (s.1 (100 * ((s.2.2.1 302) + 5) + 3))) 308 0)) rfl ?_
  obtain ⟨hb6, hf⟩ := zifs hf
  refine z_getN hok dX3_addOperand_43 fX3_100 (at_Book (zsc (zsc s 307 (s.1 (100 * ((s.2.2.1 302) + 5) + 3))) 308 0) (s.2.2.1 302) hb6) rfl ?_
  obtain ⟨x7, s8, q9, hf⟩ := zbn_of hf
  refine z_cV (as := []) hok dX3_addOperand_46 kX3_113 (tX6_addRow hok (d - 1) N ((s.2.2.1 302) + 3) (zBk_t (s.2.2.1 302) hb6).2.1 q9) rfl (at_Table (zsc (zsc s 307 (s.1 (100 * ((s.2.2.1 302) + 5) + 3))) 308 0) ((s.2.2.1 302) + 3) (zBk_t (s.2.2.1 302) hb6).2.1) rfl rfl (by omega) (Nat.le_of_ble_eq_true rfl) (Nat.zero_le _) (Nat.zero_le _) rfl ?_
  refine z_putf dX3_addOperand_49 fX3_161 wX3_6 (at_Reader s8) (Nat.le_of_ble_eq_true rfl) (fun _ => rfl) (fun _ => rfl) (st_Reader_6 s8 x7) ?_
  refine z_aload_n dX3_addOperand_52 rfl ?_
  refine z_getf dX3_addOperand_53 fX3_25 (at_Reader (zsc s8 306 x7)) rfl ?_
  obtain ⟨hb10, hf⟩ := zifs hf
  refine z_getN hok dX3_addOperand_56 fX3_100 (at_Book (zsc s8 306 x7) (s8.2.2.1 302) hb10) rfl ?_
  refine z_aload_n dX3_addOperand_59 rfl ?_
  refine z_getf dX3_addOperand_60 fX3_161 (at_Reader (zsc s8 306 x7)) rfl ?_
  refine z_iconst 0 dX3_addOperand_63 (by decide +kernel) ?_
  refine z_iload_n dX3_addOperand_64 rfl ?_
  obtain ⟨x11, s12, q13, hf⟩ := zbn_of hf
  refine z_cV (as := [_, _, _]) hok dX3_addOperand_65 kX3_106 (tX6_setCell hok (d - 1) N ((s8.2.2.1 302) + 3) x7 0 p0 (zBk_t (s8.2.2.1 302) hb10).2.1 q13) rfl (at_Table (zsc s8 306 x7) ((s8.2.2.1 302) + 3) (zBk_t (s8.2.2.1 302) hb10).2.1) rfl rfl (by omega) (Nat.le_of_ble_eq_true rfl) (Nat.zero_le _) (Nat.zero_le _) rfl ?_
  refine z_aload_n dX3_addOperand_68 rfl ?_
  refine z_getf dX3_addOperand_69 fX3_25 (at_Reader s12) rfl ?_
  obtain ⟨hb14, hf⟩ := zifs hf
  refine z_getN hok dX3_addOperand_72 fX3_100 (at_Book s12 (s12.2.2.1 302) hb14) rfl ?_
  refine z_aload_n dX3_addOperand_75 rfl ?_
  refine z_getf dX3_addOperand_76 fX3_161 (at_Reader s12) rfl ?_
  refine z_iconst 1 dX3_addOperand_79 (by decide +kernel) ?_
  refine z_iconst (-1) dX3_addOperand_80 (by decide +kernel) ?_
  obtain ⟨x15, s16, q17, hf⟩ := zbn_of hf
  refine z_cV (as := [_, _, _]) hok dX3_addOperand_81 kX3_106 (tX6_setCell hok (d - 1) N ((s12.2.2.1 302) + 3) (s12.1 306) 1 (-1) (zBk_t (s12.2.2.1 302) hb14).2.1 q17) rfl (at_Table s12 ((s12.2.2.1 302) + 3) (zBk_t (s12.2.2.1 302) hb14).2.1) rfl rfl (by omega) (Nat.le_of_ble_eq_true rfl) (Nat.zero_le _) (Nat.zero_le _) rfl ?_
  refine z_aload_n dX3_addOperand_84 rfl ?_
  refine z_getf dX3_addOperand_85 fX3_25 (at_Reader s16) rfl ?_
  obtain ⟨hb18, hf⟩ := zifs hf
  refine z_getN hok dX3_addOperand_88 fX3_100 (at_Book s16 (s16.2.2.1 302) hb18) rfl ?_
  refine z_aload_n dX3_addOperand_91 rfl ?_
  refine z_getf dX3_addOperand_92 fX3_161 (at_Reader s16) rfl ?_
  refine z_iconst 3 dX3_addOperand_95 (by decide +kernel) ?_
  refine z_aload_n dX3_addOperand_96 rfl ?_
  refine z_getf dX3_addOperand_97 fX3_167 (at_Reader s16) rfl ?_
  obtain ⟨x19, s20, q21, hf⟩ := zbn_of hf
  refine z_cV (as := [_, _, _]) hok dX3_addOperand_100 kX3_106 (tX6_setCell hok (d - 1) N ((s16.2.2.1 302) + 3) (s16.1 306) 3 (s16.1 307) (zBk_t (s16.2.2.1 302) hb18).2.1 q21) rfl (at_Table s16 ((s16.2.2.1 302) + 3) (zBk_t (s16.2.2.1 302) hb18).2.1) rfl rfl (by omega) (Nat.le_of_ble_eq_true rfl) (Nat.zero_le _) (Nat.zero_le _) rfl ?_
  refine z_aload_n dX3_addOperand_103 rfl ?_
  refine z_getf dX3_addOperand_104 fX3_25 (at_Reader s20) rfl ?_
  obtain ⟨hb22, hf⟩ := zifs hf
  refine z_getN hok dX3_addOperand_107 fX3_100 (at_Book s20 (s20.2.2.1 302) hb22) rfl ?_
  refine z_aload_n dX3_addOperand_110 rfl ?_
  refine z_getf dX3_addOperand_111 fX3_161 (at_Reader s20) rfl ?_
  refine z_iconst 5 dX3_addOperand_114 (by decide +kernel) ?_
  refine z_aload_n dX3_addOperand_115 rfl ?_
  refine z_getf dX3_addOperand_116 fX3_69 (at_Reader s20) rfl ?_
  obtain ⟨x23, s24, q25, hf⟩ := zbn_of hf
  refine z_cV (as := [_, _, _]) hok dX3_addOperand_119 kX3_106 (tX6_setCell hok (d - 1) N ((s20.2.2.1 302) + 3) (s20.1 306) 5 (s20.1 305) (zBk_t (s20.2.2.1 302) hb22).2.1 q25) rfl (at_Table s20 ((s20.2.2.1 302) + 3) (zBk_t (s20.2.2.1 302) hb22).2.1) rfl rfl (by omega) (Nat.le_of_ble_eq_true rfl) (Nat.zero_le _) (Nat.zero_le _) rfl ?_
  cases hf
  exact z_vret rfl dX3_addOperand_122 (Nat.zero_le _) (Nat.zero_le _) ⟨rfl, rfl⟩
noncomputable def fX3_addOperand (N : Nat) (p0 : Int32) (s : zS) : Option (Option Unit × zS) := if zBk (s.2.2.1 302) then zbn (fX6_isFull N ((s.2.2.1 302) + 3) s) (fun x2 s3 => if x2 = 0 then fX3_addOperand_J19 N p0  s3 else zbt (fX3_refuse N 8 s3) (fun sx => some (none, sx)) (fun x26 s27 => fX3_addOperand_J19 N p0  s27)) else none
set_option maxHeartbeats 400000 in
set_option maxRecDepth 100000 in
theorem tX3_addOperand {g : zGl} (hok : zGok g) (d : Nat) (hd : 1 ≤ d) (N : Nat) (p0 : Int32)  {s s' : zS} {w : Option Unit} (hf : fX3_addOperand N p0 s = some (w, s')) : zMet g mX3_addOperand d (zk1 w) (zk6 w) [.ref 3, .int p0] (zHp s) (zendV w (zHp s')) := by
  refine zMet.ofW (by decide +kernel) (Nat.le_of_ble_eq_true rfl) ?_
  generalize emc : zk1 w = mc
  generalize ems : zk6 w = ms
  show zW g mX3_addOperand d mc ms 51 _ 0 0 (zHp s) [some (.ref 3), some (.int p0)] [] 0
  unfold fX3_addOperand at hf
  refine z_aload_n dX3_addOperand_0 rfl ?_
  refine z_getf dX3_addOperand_1 fX3_25 (at_Reader s) rfl ?_
  obtain ⟨hb1, hf⟩ := zifs hf
  refine z_getN hok dX3_addOperand_4 fX3_100 (at_Book s (s.2.2.1 302) hb1) rfl ?_
  obtain ⟨x2, s3, q4, hf⟩ := zbn_of hf
  refine z_cV (as := []) hok dX3_addOperand_7 kX3_110 (tX6_isFull hok (d - 1) N ((s.2.2.1 302) + 3) (zBk_t (s.2.2.1 302) hb1).2.1 q4) rfl (at_Table s ((s.2.2.1 302) + 3) (zBk_t (s.2.2.1 302) hb1).2.1) rfl rfl (by omega) (Nat.le_of_ble_eq_true rfl) (Nat.zero_le _) (Nat.zero_le _) rfl ?_
  refine z_if_eq 19 dX3_addOperand_10 (by decide) (fun c10 => ?_) (fun c10 => ?_)
  · have hf := zifp hf c10
    refine z_mask (ls' := [_, _]) [true, true] rfl ?_
    exact tX3_addOperand_J19 hok d (by omega) N p0   emc ems hf
  · have hf := zifn hf c10
    refine z_aload_n dX3_addOperand_13 rfl ?_
    refine z_bipush 8 dX3_addOperand_14 (by decide +kernel) ?_
    rcases zbt_of hf with ⟨s27, q28, hf⟩ | ⟨x26, s27, q28, hf⟩
    · cases hf
      have e1 : mc = 1 := emc.symm
      have e2 : ms = 6 := ems.symm
      subst e1
      subst e2
      exact z_xV (as := [_]) hok dX3_addOperand_16 kX3_75 (zcvTV (tX3_refuse hok (d - 1) N 8  q28)) rfl (at_Reader s3) rfl rfl (by omega) (Nat.le_of_ble_eq_true rfl) rfl rfl ⟨rfl, rfl⟩
    · refine z_cV (as := [_]) hok dX3_addOperand_16 kX3_75 (zcvV (tX3_refuse hok (d - 1) N 8  q28)) rfl (at_Reader s3) rfl rfl (by omega) (Nat.le_of_ble_eq_true rfl) (Nat.zero_le _) (Nat.zero_le _) rfl ?_
      refine z_mask (ls' := [_, _]) [true, true] rfl ?_
      exact tX3_addOperand_J19 hok d (by omega) N p0   emc ems hf

noncomputable def fX3_countItem (N : Nat)  (s : zS) : Option (Option Unit × zS) := if 60 < ((s.1 308) + 1) then zbt (fX3_refuse N 8 (zsc s 308 ((s.1 308) + 1))) (fun sx => some (none, sx)) (fun x1 s2 => some (some (), s2)) else if ((s.1 307) + ((s.1 308) + 1)) ≤ 2000 then some (some (), (zsc s 308 ((s.1 308) + 1))) else zbt (fX3_refuse N 8 (zsc s 308 ((s.1 308) + 1))) (fun sx => some (none, sx)) (fun x4 s5 => some (some (), s5))
set_option maxHeartbeats 400000 in
set_option maxRecDepth 100000 in
theorem tX3_countItem {g : zGl} (hok : zGok g) (d : Nat) (hd : 1 ≤ d) (N : Nat)   {s s' : zS} {w : Option Unit} (hf : fX3_countItem N  s = some (w, s')) : zMet g mX3_countItem d (zk1 w) (zk6 w) [.ref 3] (zHp s) (zendV w (zHp s')) := by
  refine zMet.ofW (by decide +kernel) (Nat.le_of_ble_eq_true rfl) ?_
  generalize emc : zk1 w = mc
  generalize ems : zk6 w = ms
  show zW g mX3_countItem d mc ms 51 _ 0 0 (zHp s) [some (.ref 3)] [] 0
  unfold fX3_countItem at hf
  refine z_aload_n dX3_countItem_0 rfl ?_
  refine z_dup dX3_countItem_1 rfl ?_
  refine z_getf dX3_countItem_2 fX3_170 (at_Reader s) rfl ?_
  refine z_iconst 1 dX3_countItem_5 (by decide +kernel) ?_
  refine z_iadd dX3_countItem_6 ?_
  refine z_putf dX3_countItem_7 fX3_170 wX3_8 (at_Reader s) (Nat.le_of_ble_eq_true rfl) (fun _ => rfl) (fun _ => rfl) (st_Reader_8 s ((s.1 308) + 1)) ?_
  refine z_aload_n dX3_countItem_10 rfl ?_
  refine z_getf dX3_countItem_11 fX3_170 (at_Reader (zsc s 308 ((s.1 308) + 1))) rfl ?_
  refine z_bipush 60 dX3_countItem_14 (by decide +kernel) ?_
  refine z_icmp_gt 34 dX3_countItem_16 (by decide) (fun c16 => ?_) (fun c16 => ?_)
  · have hf := zifp hf c16
    refine z_aload_n dX3_countItem_34 rfl ?_
    refine z_bipush 8 dX3_countItem_35 (by decide +kernel) ?_
    rcases zbt_of hf with ⟨s2, q3, hf⟩ | ⟨x1, s2, q3, hf⟩
    · cases hf
      have e1 : mc = 1 := emc.symm
      have e2 : ms = 6 := ems.symm
      subst e1
      subst e2
      exact z_xV (as := [_]) hok dX3_countItem_37 kX3_75 (zcvTV (tX3_refuse hok (d - 1) N 8  q3)) rfl (at_Reader (zsc s 308 ((s.1 308) + 1))) rfl rfl (by omega) (Nat.le_of_ble_eq_true rfl) rfl rfl ⟨rfl, rfl⟩
    · refine z_cV (as := [_]) hok dX3_countItem_37 kX3_75 (zcvV (tX3_refuse hok (d - 1) N 8  q3)) rfl (at_Reader (zsc s 308 ((s.1 308) + 1))) rfl rfl (by omega) (Nat.le_of_ble_eq_true rfl) (Nat.zero_le _) (Nat.zero_le _) rfl ?_
      cases hf
      exact z_vret rfl dX3_countItem_40 (Nat.zero_le _) (Nat.zero_le _) ⟨rfl, rfl⟩
  · have hf := zifn hf c16
    refine z_aload_n dX3_countItem_19 rfl ?_
    refine z_getf dX3_countItem_20 fX3_167 (at_Reader (zsc s 308 ((s.1 308) + 1))) rfl ?_
    refine z_aload_n dX3_countItem_23 rfl ?_
    refine z_getf dX3_countItem_24 fX3_170 (at_Reader (zsc s 308 ((s.1 308) + 1))) rfl ?_
    refine z_iadd dX3_countItem_27 ?_
    refine z_sipush 2000 dX3_countItem_28 (by decide +kernel) ?_
    refine z_icmp_le 40 dX3_countItem_31 (by decide) (fun c31 => ?_) (fun c31 => ?_)
    · have hf := zifp hf c31
      cases hf
      exact z_vret rfl dX3_countItem_40 (Nat.zero_le _) (Nat.zero_le _) ⟨rfl, rfl⟩
    · have hf := zifn hf c31
      refine z_aload_n dX3_countItem_34 rfl ?_
      refine z_bipush 8 dX3_countItem_35 (by decide +kernel) ?_
      rcases zbt_of hf with ⟨s5, q6, hf⟩ | ⟨x4, s5, q6, hf⟩
      · cases hf
        have e1 : mc = 1 := emc.symm
        have e2 : ms = 6 := ems.symm
        subst e1
        subst e2
        exact z_xV (as := [_]) hok dX3_countItem_37 kX3_75 (zcvTV (tX3_refuse hok (d - 1) N 8  q6)) rfl (at_Reader (zsc s 308 ((s.1 308) + 1))) rfl rfl (by omega) (Nat.le_of_ble_eq_true rfl) rfl rfl ⟨rfl, rfl⟩
      · refine z_cV (as := [_]) hok dX3_countItem_37 kX3_75 (zcvV (tX3_refuse hok (d - 1) N 8  q6)) rfl (at_Reader (zsc s 308 ((s.1 308) + 1))) rfl rfl (by omega) (Nat.le_of_ble_eq_true rfl) (Nat.zero_le _) (Nat.zero_le _) rfl ?_
        cases hf
        exact z_vret rfl dX3_countItem_40 (Nat.zero_le _) (Nat.zero_le _) ⟨rfl, rfl⟩

noncomputable def fX3_checkOne (N : Nat) (p0 : Int32) (s : zS) : Option (Option Unit × zS) := if (s.1 304) = 2 then zbt (fX3_refuse N 6 s) (fun sx => some (none, sx)) (fun x13 s14 => zbn (fX3_canBeginExpression N (s14.1 304) s14) (fun x16 s17 => if x16 = 0 then zbt (fX3_refuse N 5 s17) (fun sx => some (none, sx)) (fun x22 s23 => if p0 ≤ 20 then some (some (), s23) else zbt (fX3_refuse N 7 s23) (fun sx => some (none, sx)) (fun x25 s26 => some (some (), s26))) else if p0 ≤ 20 then some (some (), s17) else zbt (fX3_refuse N 7 s17) (fun sx => some (none, sx)) (fun x19 s20 => some (some (), s20)))) else zbn (fX3_canBeginExpression N (s.1 304) s) (fun x1 s2 => if x1 = 0 then zbt (fX3_refuse N 5 s2) (fun sx => some (none, sx)) (fun x7 s8 => if p0 ≤ 20 then some (some (), s8) else zbt (fX3_refuse N 7 s8) (fun sx => some (none, sx)) (fun x10 s11 => some (some (), s11))) else if p0 ≤ 20 then some (some (), s2) else zbt (fX3_refuse N 7 s2) (fun sx => some (none, sx)) (fun x4 s5 => some (some (), s5)))
set_option maxHeartbeats 400000 in
set_option maxRecDepth 100000 in
theorem tX3_checkOne {g : zGl} (hok : zGok g) (d : Nat) (hd : 1 ≤ d) (N : Nat) (p0 : Int32)  {s s' : zS} {w : Option Unit} (hf : fX3_checkOne N p0 s = some (w, s')) : zMet g mX3_checkOne d (zk1 w) (zk6 w) [.ref 3, .int p0] (zHp s) (zendV w (zHp s')) := by
  refine zMet.ofW (by decide +kernel) (Nat.le_of_ble_eq_true rfl) ?_
  generalize emc : zk1 w = mc
  generalize ems : zk6 w = ms
  show zW g mX3_checkOne d mc ms 51 _ 0 0 (zHp s) [some (.ref 3), some (.int p0)] [] 0
  unfold fX3_checkOne at hf
  refine z_aload_n dX3_checkOne_0 rfl ?_
  refine z_getf dX3_checkOne_1 fX3_63 (at_Reader s) rfl ?_
  refine z_iconst 2 dX3_checkOne_4 (by decide +kernel) ?_
  refine z_icmp_ne 14 dX3_checkOne_5 (by decide) (fun c5 => ?_) (fun c5 => ?_)
  · have hf := zifn hf c5
    refine z_aload_n dX3_checkOne_14 rfl ?_
    refine z_getf dX3_checkOne_15 fX3_63 (at_Reader s) rfl ?_
    obtain ⟨x1, s2, q3, hf⟩ := zbn_of hf
    refine z_cS (as := [_]) hok dX3_checkOne_18 kX3_151 (tX3_canBeginExpression hok (d - 1) N (s.1 304)  q3) rfl rfl (by omega) (Nat.le_of_ble_eq_true rfl) (Nat.zero_le _) (Nat.zero_le _) rfl ?_
    refine z_if_ne 29 dX3_checkOne_21 (by decide) (fun c21 => ?_) (fun c21 => ?_)
    · have hf := zifn hf c21
      refine z_iload_n dX3_checkOne_29 rfl ?_
      refine z_bipush 20 dX3_checkOne_30 (by decide +kernel) ?_
      refine z_icmp_le 41 dX3_checkOne_32 (by decide) (fun c32 => ?_) (fun c32 => ?_)
      · have hf := zifp hf c32
        cases hf
        exact z_vret rfl dX3_checkOne_41 (Nat.zero_le _) (Nat.zero_le _) ⟨rfl, rfl⟩
      · have hf := zifn hf c32
        refine z_aload_n dX3_checkOne_35 rfl ?_
        refine z_bipush 7 dX3_checkOne_36 (by decide +kernel) ?_
        rcases zbt_of hf with ⟨s5, q6, hf⟩ | ⟨x4, s5, q6, hf⟩
        · cases hf
          have e1 : mc = 1 := emc.symm
          have e2 : ms = 6 := ems.symm
          subst e1
          subst e2
          exact z_xV (as := [_]) hok dX3_checkOne_38 kX3_75 (zcvTV (tX3_refuse hok (d - 1) N 7  q6)) rfl (at_Reader s2) rfl rfl (by omega) (Nat.le_of_ble_eq_true rfl) rfl rfl ⟨rfl, rfl⟩
        · refine z_cV (as := [_]) hok dX3_checkOne_38 kX3_75 (zcvV (tX3_refuse hok (d - 1) N 7  q6)) rfl (at_Reader s2) rfl rfl (by omega) (Nat.le_of_ble_eq_true rfl) (Nat.zero_le _) (Nat.zero_le _) rfl ?_
          cases hf
          exact z_vret rfl dX3_checkOne_41 (Nat.zero_le _) (Nat.zero_le _) ⟨rfl, rfl⟩
    · have hf := zifp hf c21
      refine z_aload_n dX3_checkOne_24 rfl ?_
      refine z_iconst 5 dX3_checkOne_25 (by decide +kernel) ?_
      rcases zbt_of hf with ⟨s8, q9, hf⟩ | ⟨x7, s8, q9, hf⟩
      · cases hf
        have e1 : mc = 1 := emc.symm
        have e2 : ms = 6 := ems.symm
        subst e1
        subst e2
        exact z_xV (as := [_]) hok dX3_checkOne_26 kX3_75 (zcvTV (tX3_refuse hok (d - 1) N 5  q9)) rfl (at_Reader s2) rfl rfl (by omega) (Nat.le_of_ble_eq_true rfl) rfl rfl ⟨rfl, rfl⟩
      · refine z_cV (as := [_]) hok dX3_checkOne_26 kX3_75 (zcvV (tX3_refuse hok (d - 1) N 5  q9)) rfl (at_Reader s2) rfl rfl (by omega) (Nat.le_of_ble_eq_true rfl) (Nat.zero_le _) (Nat.zero_le _) rfl ?_
        refine z_iload_n dX3_checkOne_29 rfl ?_
        refine z_bipush 20 dX3_checkOne_30 (by decide +kernel) ?_
        refine z_icmp_le 41 dX3_checkOne_32 (by decide) (fun c32 => ?_) (fun c32 => ?_)
        · have hf := zifp hf c32
          cases hf
          exact z_vret rfl dX3_checkOne_41 (Nat.zero_le _) (Nat.zero_le _) ⟨rfl, rfl⟩
        · have hf := zifn hf c32
          refine z_aload_n dX3_checkOne_35 rfl ?_
          refine z_bipush 7 dX3_checkOne_36 (by decide +kernel) ?_
          rcases zbt_of hf with ⟨s11, q12, hf⟩ | ⟨x10, s11, q12, hf⟩
          · cases hf
            have e1 : mc = 1 := emc.symm
            have e2 : ms = 6 := ems.symm
            subst e1
            subst e2
            exact z_xV (as := [_]) hok dX3_checkOne_38 kX3_75 (zcvTV (tX3_refuse hok (d - 1) N 7  q12)) rfl (at_Reader s8) rfl rfl (by omega) (Nat.le_of_ble_eq_true rfl) rfl rfl ⟨rfl, rfl⟩
          · refine z_cV (as := [_]) hok dX3_checkOne_38 kX3_75 (zcvV (tX3_refuse hok (d - 1) N 7  q12)) rfl (at_Reader s8) rfl rfl (by omega) (Nat.le_of_ble_eq_true rfl) (Nat.zero_le _) (Nat.zero_le _) rfl ?_
            cases hf
            exact z_vret rfl dX3_checkOne_41 (Nat.zero_le _) (Nat.zero_le _) ⟨rfl, rfl⟩
  · have hf := zifp hf c5
    refine z_aload_n dX3_checkOne_8 rfl ?_
    refine z_bipush 6 dX3_checkOne_9 (by decide +kernel) ?_
    rcases zbt_of hf with ⟨s14, q15, hf⟩ | ⟨x13, s14, q15, hf⟩
    · cases hf
      have e1 : mc = 1 := emc.symm
      have e2 : ms = 6 := ems.symm
      subst e1
      subst e2
      exact z_xV (as := [_]) hok dX3_checkOne_11 kX3_75 (zcvTV (tX3_refuse hok (d - 1) N 6  q15)) rfl (at_Reader s) rfl rfl (by omega) (Nat.le_of_ble_eq_true rfl) rfl rfl ⟨rfl, rfl⟩
    · refine z_cV (as := [_]) hok dX3_checkOne_11 kX3_75 (zcvV (tX3_refuse hok (d - 1) N 6  q15)) rfl (at_Reader s) rfl rfl (by omega) (Nat.le_of_ble_eq_true rfl) (Nat.zero_le _) (Nat.zero_le _) rfl ?_
      refine z_aload_n dX3_checkOne_14 rfl ?_
      refine z_getf dX3_checkOne_15 fX3_63 (at_Reader s14) rfl ?_
      obtain ⟨x16, s17, q18, hf⟩ := zbn_of hf
      refine z_cS (as := [_]) hok dX3_checkOne_18 kX3_151 (tX3_canBeginExpression hok (d - 1) N (s14.1 304)  q18) rfl rfl (by omega) (Nat.le_of_ble_eq_true rfl) (Nat.zero_le _) (Nat.zero_le _) rfl ?_
      refine z_if_ne 29 dX3_checkOne_21 (by decide) (fun c21 => ?_) (fun c21 => ?_)
      · have hf := zifn hf c21
        refine z_iload_n dX3_checkOne_29 rfl ?_
        refine z_bipush 20 dX3_checkOne_30 (by decide +kernel) ?_
        refine z_icmp_le 41 dX3_checkOne_32 (by decide) (fun c32 => ?_) (fun c32 => ?_)
        · have hf := zifp hf c32
          cases hf
          exact z_vret rfl dX3_checkOne_41 (Nat.zero_le _) (Nat.zero_le _) ⟨rfl, rfl⟩
        · have hf := zifn hf c32
          refine z_aload_n dX3_checkOne_35 rfl ?_
          refine z_bipush 7 dX3_checkOne_36 (by decide +kernel) ?_
          rcases zbt_of hf with ⟨s20, q21, hf⟩ | ⟨x19, s20, q21, hf⟩
          · cases hf
            have e1 : mc = 1 := emc.symm
            have e2 : ms = 6 := ems.symm
            subst e1
            subst e2
            exact z_xV (as := [_]) hok dX3_checkOne_38 kX3_75 (zcvTV (tX3_refuse hok (d - 1) N 7  q21)) rfl (at_Reader s17) rfl rfl (by omega) (Nat.le_of_ble_eq_true rfl) rfl rfl ⟨rfl, rfl⟩
          · refine z_cV (as := [_]) hok dX3_checkOne_38 kX3_75 (zcvV (tX3_refuse hok (d - 1) N 7  q21)) rfl (at_Reader s17) rfl rfl (by omega) (Nat.le_of_ble_eq_true rfl) (Nat.zero_le _) (Nat.zero_le _) rfl ?_
            cases hf
            exact z_vret rfl dX3_checkOne_41 (Nat.zero_le _) (Nat.zero_le _) ⟨rfl, rfl⟩
      · have hf := zifp hf c21
        refine z_aload_n dX3_checkOne_24 rfl ?_
        refine z_iconst 5 dX3_checkOne_25 (by decide +kernel) ?_
        rcases zbt_of hf with ⟨s23, q24, hf⟩ | ⟨x22, s23, q24, hf⟩
        · cases hf
          have e1 : mc = 1 := emc.symm
          have e2 : ms = 6 := ems.symm
          subst e1
          subst e2
          exact z_xV (as := [_]) hok dX3_checkOne_26 kX3_75 (zcvTV (tX3_refuse hok (d - 1) N 5  q24)) rfl (at_Reader s17) rfl rfl (by omega) (Nat.le_of_ble_eq_true rfl) rfl rfl ⟨rfl, rfl⟩
        · refine z_cV (as := [_]) hok dX3_checkOne_26 kX3_75 (zcvV (tX3_refuse hok (d - 1) N 5  q24)) rfl (at_Reader s17) rfl rfl (by omega) (Nat.le_of_ble_eq_true rfl) (Nat.zero_le _) (Nat.zero_le _) rfl ?_
          refine z_iload_n dX3_checkOne_29 rfl ?_
          refine z_bipush 20 dX3_checkOne_30 (by decide +kernel) ?_
          refine z_icmp_le 41 dX3_checkOne_32 (by decide) (fun c32 => ?_) (fun c32 => ?_)
          · have hf := zifp hf c32
            cases hf
            exact z_vret rfl dX3_checkOne_41 (Nat.zero_le _) (Nat.zero_le _) ⟨rfl, rfl⟩
          · have hf := zifn hf c32
            refine z_aload_n dX3_checkOne_35 rfl ?_
            refine z_bipush 7 dX3_checkOne_36 (by decide +kernel) ?_
            rcases zbt_of hf with ⟨s26, q27, hf⟩ | ⟨x25, s26, q27, hf⟩
            · cases hf
              have e1 : mc = 1 := emc.symm
              have e2 : ms = 6 := ems.symm
              subst e1
              subst e2
              exact z_xV (as := [_]) hok dX3_checkOne_38 kX3_75 (zcvTV (tX3_refuse hok (d - 1) N 7  q27)) rfl (at_Reader s23) rfl rfl (by omega) (Nat.le_of_ble_eq_true rfl) rfl rfl ⟨rfl, rfl⟩
            · refine z_cV (as := [_]) hok dX3_checkOne_38 kX3_75 (zcvV (tX3_refuse hok (d - 1) N 7  q27)) rfl (at_Reader s23) rfl rfl (by omega) (Nat.le_of_ble_eq_true rfl) (Nat.zero_le _) (Nat.zero_le _) rfl ?_
              cases hf
              exact z_vret rfl dX3_checkOne_41 (Nat.zero_le _) (Nat.zero_le _) ⟨rfl, rfl⟩

