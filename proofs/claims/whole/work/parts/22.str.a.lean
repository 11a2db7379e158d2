theorem zcvTV {g : zGl} {M : zMd} {d : Nat} {as : List Value} {h h1 : List zE} (hm : zMet g M d (zk1 (none : Option Unit)) (zk6 (none : Option Unit)) as h (zendV none h1)) : zMet g M d 1 6 as h (zthr h1) := by
  unfold zk1 zk6 zendV at hm
  exact hm
theorem zcvTI {g : zGl} {M : zMd} {d : Nat} {as : List Value} {h h1 : List zE} (hm : zMet g M d (zk1 (none : Option Int32)) (zk6 (none : Option Int32)) as h (zendI none h1)) : zMet g M d 1 6 as h (zthr h1) := by
  unfold zk1 zk6 zendI at hm
  exact hm
theorem zcvV {g : zGl} {M : zMd} {d : Nat} {as : List Value} {h h1 : List zE} {x : Unit} (hm : zMet g M d (zk1 (some x)) (zk6 (some x)) as h (zendV (some x) h1)) : zMet g M d 0 0 as h (zret none h1) := by
  unfold zk1 zk6 zendV at hm
  exact hm
theorem zcvI {g : zGl} {M : zMd} {d : Nat} {as : List Value} {h h1 : List zE} {x : Int32} (hm : zMet g M d (zk1 (some x)) (zk6 (some x)) as h (zendI (some x) h1)) : zMet g M d 0 0 as h (zret (some (.int x)) h1) := by
  unfold zk1 zk6 zendI at hm
  exact hm
def zRv (v : Value) : Prop := v = .null ∨ ∃ r, v = .ref r
theorem zfa_rv (sa : Nat → Nat) : zRv (zfa sa) := by
  unfold zfa
  split
  · exact Or.inl rfl
  · exact Or.inr ⟨_, rfl⟩
noncomputable def fX1_levelOf (N : Nat) (p0 : Int32) (s : zS) : Option (Int32 × zS) := if (p0 - 12) < 0 then some (0, s) else if 10 ≤ (p0 - 12) then some (0, s) else if zga (p0 - 12) 10 = true then some (zlev (p0 - 12).toNatClampNeg, s) else none
set_option maxHeartbeats 400000 in
set_option maxRecDepth 100000 in
theorem tX1_levelOf {g : zGl} (hok : zGok g) (d : Nat)  (N : Nat) (p0 : Int32)  {s s' : zS} {w : Int32} (hf : fX1_levelOf N p0 s = some (w, s')) : zMet g mX1_levelOf d 0 0 [.int p0] (zHp s) (zret (some (.int w)) (zHp s')) := by
  refine zMet.ofW (by decide +kernel) (Nat.le_of_ble_eq_true rfl) ?_
  show zW g mX1_levelOf d 0 0 51 _ 0 0 (zHp s) [some (.int p0), none] [] 0
  unfold fX1_levelOf at hf
  refine z_iload_n dX1_levelOf_0 rfl ?_
  refine z_bipush 12 dX1_levelOf_1 (by decide +kernel) ?_
  refine z_isub dX1_levelOf_3 ?_
  refine z_istore_n (ls' := [_, _]) dX1_levelOf_4 (by decide) rfl ?_
  refine z_iload_n dX1_levelOf_5 rfl ?_
  refine z_if_lt 25 dX1_levelOf_6 (by decide) (fun c6 => ?_) (fun c6 => ?_)
  · have hf := zifp hf c6
    refine z_iconst 0 dX1_levelOf_25 (by decide +kernel) ?_
    cases hf
    exact z_iret rfl dX1_levelOf_26 (Nat.zero_le _) (Nat.zero_le _) ⟨rfl, rfl⟩
  · have hf := zifn hf c6
    refine z_iload_n dX1_levelOf_9 rfl ?_
    refine z_lev hok dX1_levelOf_10 gX1_9 ?_
    refine z_levlen hok dX1_levelOf_13 ?_
    refine z_icmp_ge 25 dX1_levelOf_14 (by decide) (fun c14 => ?_) (fun c14 => ?_)
    · have hf := zifp hf c14
      refine z_iconst 0 dX1_levelOf_25 (by decide +kernel) ?_
      cases hf
      exact z_iret rfl dX1_levelOf_26 (Nat.zero_le _) (Nat.zero_le _) ⟨rfl, rfl⟩
    · have hf := zifn hf c14
      refine z_lev hok dX1_levelOf_17 gX1_9 ?_
      refine z_iload_n dX1_levelOf_20 rfl ?_
      obtain ⟨hi1, hf⟩ := zifs hf
      refine z_levld hok dX1_levelOf_21 (zga_in hi1) ?_
      refine z_goto 26 dX1_levelOf_22 (by decide) ?_
      cases hf
      exact z_iret rfl dX1_levelOf_26 (Nat.zero_le _) (Nat.zero_le _) ⟨rfl, rfl⟩

noncomputable def fX1_signOf (N : Nat) (p0 : Int32) (s : zS) : Option (Nat × zS) := if p0 = 11 then some (1011, s) else if p0 = 12 then some (1012, s) else if p0 = 13 then some (1021, s) else if p0 = 14 then some (1013, s) else if p0 = 15 then some (1014, s) else if p0 = 16 then some (1015, s) else if p0 = 17 then some (1016, s) else if p0 = 18 then some (1017, s) else if p0 = 19 then some (1018, s) else if p0 = 20 then some (1019, s) else if p0 = 21 then some (1020, s) else some (1021, s)
set_option maxHeartbeats 400000 in
set_option maxRecDepth 100000 in
theorem tX1_signOf {g : zGl} (hok : zGok g) (d : Nat)  (N : Nat) (p0 : Int32)  {s s' : zS} {w : Nat} (hf : fX1_signOf N p0 s = some (w, s')) : zMet g mX1_signOf d 0 0 [.int p0] (zHp s) (zret (some (.ref w)) (zHp s')) := by
  refine zMet.ofW (by decide +kernel) (Nat.le_of_ble_eq_true rfl) ?_
  show zW g mX1_signOf d 0 0 51 _ 0 0 (zHp s) [some (.int p0)] [] 0
  unfold fX1_signOf at hf
  refine z_iload_n dX1_signOf_0 rfl ?_
  refine z_tab [(11, 60), (12, 63), (13, 90), (14, 66), (15, 69), (16, 72), (17, 75), (18, 78), (19, 81), (20, 84), (21, 87)] 90 dX1_signOf_1 (by decide +kernel) (by decide +kernel) (by decide +kernel) (by decide +kernel) ?_
  refine z_selc (fun c1_0 => ?_) (fun c1_0 => ?_)
  · have hf := zifp hf c1_0
    refine z_ldcS 11 hok dX1_signOf_60 rfl ?_
    cases hf
    exact z_aret rfl (Or.inl ⟨_, rfl⟩) dX1_signOf_62 (Nat.zero_le _) (Nat.zero_le _) ⟨rfl, rfl⟩
  · have hf := zifn hf c1_0
    refine z_selc (fun c1_1 => ?_) (fun c1_1 => ?_)
    · have hf := zifp hf c1_1
      refine z_ldcS 12 hok dX1_signOf_63 rfl ?_
      cases hf
      exact z_aret rfl (Or.inl ⟨_, rfl⟩) dX1_signOf_65 (Nat.zero_le _) (Nat.zero_le _) ⟨rfl, rfl⟩
    · have hf := zifn hf c1_1
      refine z_selc (fun c1_2 => ?_) (fun c1_2 => ?_)
      · have hf := zifp hf c1_2
        refine z_ldcS 21 hok dX1_signOf_90 rfl ?_
        cases hf
        exact z_aret rfl (Or.inl ⟨_, rfl⟩) dX1_signOf_92 (Nat.zero_le _) (Nat.zero_le _) ⟨rfl, rfl⟩
      · have hf := zifn hf c1_2
        refine z_selc (fun c1_3 => ?_) (fun c1_3 => ?_)
        · have hf := zifp hf c1_3
          refine z_ldcS 13 hok dX1_signOf_66 rfl ?_
          cases hf
          exact z_aret rfl (Or.inl ⟨_, rfl⟩) dX1_signOf_68 (Nat.zero_le _) (Nat.zero_le _) ⟨rfl, rfl⟩
        · have hf := zifn hf c1_3
          refine z_selc (fun c1_4 => ?_) (fun c1_4 => ?_)
          · have hf := zifp hf c1_4
            refine z_ldcS 14 hok dX1_signOf_69 rfl ?_
            cases hf
            exact z_aret rfl (Or.inl ⟨_, rfl⟩) dX1_signOf_71 (Nat.zero_le _) (Nat.zero_le _) ⟨rfl, rfl⟩
          · have hf := zifn hf c1_4
            refine z_selc (fun c1_5 => ?_) (fun c1_5 => ?_)
            · have hf := zifp hf c1_5
              refine z_ldcS 15 hok dX1_signOf_72 rfl ?_
              cases hf
              exact z_aret rfl (Or.inl ⟨_, rfl⟩) dX1_signOf_74 (Nat.zero_le _) (Nat.zero_le _) ⟨rfl, rfl⟩
            · have hf := zifn hf c1_5
              refine z_selc (fun c1_6 => ?_) (fun c1_6 => ?_)
              · have hf := zifp hf c1_6
                refine z_ldcS 16 hok dX1_signOf_75 rfl ?_
                cases hf
                exact z_aret rfl (Or.inl ⟨_, rfl⟩) dX1_signOf_77 (Nat.zero_le _) (Nat.zero_le _) ⟨rfl, rfl⟩
              · have hf := zifn hf c1_6
                refine z_selc (fun c1_7 => ?_) (fun c1_7 => ?_)
                · have hf := zifp hf c1_7
                  refine z_ldcS 17 hok dX1_signOf_78 rfl ?_
                  cases hf
                  exact z_aret rfl (Or.inl ⟨_, rfl⟩) dX1_signOf_80 (Nat.zero_le _) (Nat.zero_le _) ⟨rfl, rfl⟩
                · have hf := zifn hf c1_7
                  refine z_selc (fun c1_8 => ?_) (fun c1_8 => ?_)
                  · have hf := zifp hf c1_8
                    refine z_ldcS 18 hok dX1_signOf_81 rfl ?_
                    cases hf
                    exact z_aret rfl (Or.inl ⟨_, rfl⟩) dX1_signOf_83 (Nat.zero_le _) (Nat.zero_le _) ⟨rfl, rfl⟩
                  · have hf := zifn hf c1_8
                    refine z_selc (fun c1_9 => ?_) (fun c1_9 => ?_)
                    · have hf := zifp hf c1_9
                      refine z_ldcS 19 hok dX1_signOf_84 rfl ?_
                      cases hf
                      exact z_aret rfl (Or.inl ⟨_, rfl⟩) dX1_signOf_86 (Nat.zero_le _) (Nat.zero_le _) ⟨rfl, rfl⟩
                    · have hf := zifn hf c1_9
                      refine z_selc (fun c1_10 => ?_) (fun c1_10 => ?_)
                      · have hf := zifp hf c1_10
                        refine z_ldcS 20 hok dX1_signOf_87 rfl ?_
                        cases hf
                        exact z_aret rfl (Or.inl ⟨_, rfl⟩) dX1_signOf_89 (Nat.zero_le _) (Nat.zero_le _) ⟨rfl, rfl⟩
                      · have hf := zifn hf c1_10
                        refine z_seln ?_
                        refine z_ldcS 21 hok dX1_signOf_90 rfl ?_
                        cases hf
                        exact z_aret rfl (Or.inl ⟨_, rfl⟩) dX1_signOf_92 (Nat.zero_le _) (Nat.zero_le _) ⟨rfl, rfl⟩

noncomputable def fJ0_coder_7d493 (N : Nat) (a : Nat) (s : zS) : Option (Int32 × zS) := if zsk a = true then if narrow .byte (.int 0) = .int 0 then some (0, s) else none else none
set_option maxHeartbeats 400000 in
set_option maxRecDepth 100000 in
theorem tJ0_coder_7d493 {g : zGl} (hok : zGok g) (d : Nat)  (N : Nat) (a : Nat)  {s s' : zS} {w : Int32} (hf : fJ0_coder_7d493 N a s = some (w, s')) : zMet g mJ0_coder_7d493 d 0 0 [.ref a] (zHp s) (zret (some (.int w)) (zHp s')) := by
  refine zMet.ofWF (by decide +kernel) (Nat.le_of_ble_eq_true rfl) ?_
  show zW g mJ0_coder_7d493 d 0 0 51 _ 0 0 (zHp s) [some (.ref a)] [] 0
  unfold fJ0_coder_7d493 at hf
  refine z_gcs hok dJ0_coder_7d493_0 gJ0_38 ?_
  refine z_if_eq 13 dJ0_coder_7d493_3 (by decide) (fun c3 => ?_) (fun c3 => ?_)
  · exact absurd (show (1 : Int32) = 0 from c3) (by decide)
  · skip
    refine z_aload_n dJ0_coder_7d493_6 rfl ?_
    obtain ⟨hq1, hf⟩ := zifs hf
    refine z_scod hok dJ0_coder_7d493_7 gJ0_15 hq1 ?_
    refine z_goto 14 dJ0_coder_7d493_10 (by decide) ?_
    obtain ⟨bo2, hf⟩ := zifs hf
    cases hf
    exact z_zret rfl bo2 dJ0_coder_7d493_14 (Nat.zero_le _) (Nat.zero_le _) ⟨rfl, rfl⟩

noncomputable def fJ0_length_8abf5 (N : Nat) (a : Nat) (s : zS) : Option (Int32 × zS) := if zsk a = true then if zbk (a + 300) = true then if zsk a = true then zbn (fJ0_coder_7d493 N a s) (fun x3 s4 => some ((nI (zbl_ (a + 300))) >>> (x3 &&& 31), s4)) else none else none else none
set_option maxHeartbeats 400000 in
set_option maxRecDepth 100000 in
theorem tJ0_length_8abf5 {g : zGl} (hok : zGok g) (d : Nat) (hd : 1 ≤ d) (N : Nat) (a : Nat)  {s s' : zS} {w : Int32} (hf : fJ0_length_8abf5 N a s = some (w, s')) : zMet g mJ0_length_8abf5 d 0 0 [.ref a] (zHp s) (zret (some (.int w)) (zHp s')) := by
  refine zMet.ofWF (by decide +kernel) (Nat.le_of_ble_eq_true rfl) ?_
  show zW g mJ0_length_8abf5 d 0 0 51 _ 0 0 (zHp s) [some (.ref a)] [] 0
  unfold fJ0_length_8abf5 at hf
  refine z_aload_n dJ0_length_8abf5_0 rfl ?_
  obtain ⟨hq1, hf⟩ := zifs hf
  refine z_sval hok dJ0_length_8abf5_1 gJ0_9 hq1 ?_
  obtain ⟨hq2, hf⟩ := zifs hf
  refine z_blen hok dJ0_length_8abf5_4 hq2 ?_
  refine z_aload_n dJ0_length_8abf5_5 rfl ?_
  obtain ⟨hq6, hf⟩ := zifs hf
  obtain ⟨x3, s4, q5, hf⟩ := zbn_of hf
  refine z_callVs (as := []) hok dJ0_length_8abf5_6 kJ0_335 (tJ0_coder_7d493 hok (d - 1) N a  q5) rfl hq6 rfl rfl (by omega) (Nat.le_of_ble_eq_true rfl) (Nat.zero_le _) (Nat.zero_le _) rfl ?_
  refine z_ishr dJ0_length_8abf5_9 ?_
  cases hf
  exact z_iret rfl dJ0_length_8abf5_10 (Nat.zero_le _) (Nat.zero_le _) ⟨rfl, rfl⟩

noncomputable def fJ0_isLatin1_aae02 (N : Nat) (a : Nat) (s : zS) : Option (Int32 × zS) := if zsk a = true then some (1, s) else none
set_option maxHeartbeats 400000 in
set_option maxRecDepth 100000 in
theorem tJ0_isLatin1_aae02 {g : zGl} (hok : zGok g) (d : Nat)  (N : Nat) (a : Nat)  {s s' : zS} {w : Int32} (hf : fJ0_isLatin1_aae02 N a s = some (w, s')) : zMet g mJ0_isLatin1_aae02 d 0 0 [.ref a] (zHp s) (zret (some (.int w)) (zHp s')) := by
  refine zMet.ofWF (by decide +kernel) (Nat.le_of_ble_eq_true rfl) ?_
  show zW g mJ0_isLatin1_aae02 d 0 0 51 _ 0 0 (zHp s) [some (.ref a)] [] 0
  unfold fJ0_isLatin1_aae02 at hf
  refine z_gcs hok dJ0_isLatin1_aae02_0 gJ0_38 ?_
  refine z_if_eq 17 dJ0_isLatin1_aae02_3 (by decide) (fun c3 => ?_) (fun c3 => ?_)
  · exact absurd (show (1 : Int32) = 0 from c3) (by decide)
  · skip
    refine z_aload_n dJ0_isLatin1_aae02_6 rfl ?_
    obtain ⟨hq1, hf⟩ := zifs hf
    refine z_scod hok dJ0_isLatin1_aae02_7 gJ0_15 hq1 ?_
    refine z_if_ne 17 dJ0_isLatin1_aae02_10 (by decide) (fun c10 => ?_) (fun c10 => ?_)
    · exact absurd (show (0 : Int32) = 0 by decide) c10
    · skip
      refine z_iconst 1 dJ0_isLatin1_aae02_13 (by decide +kernel) ?_
      refine z_goto 18 dJ0_isLatin1_aae02_14 (by decide) ?_
      cases hf
      exact z_zret rfl (by decide) dJ0_isLatin1_aae02_18 (Nat.zero_le _) (Nat.zero_le _) ⟨rfl, rfl⟩

noncomputable def fJ3_checkIndex_8e157 (N : Nat) (p0 : Int32) (p1 : Int32) (p2 : Value) (s : zS) : Option (Int32 × zS) := if p0 < 0 then none else if p0 < p1 then some (p0, s) else none
set_option maxHeartbeats 400000 in
set_option maxRecDepth 100000 in
theorem tJ3_checkIndex_8e157 {g : zGl} (hok : zGok g) (d : Nat)  (N : Nat) (p0 : Int32) (p1 : Int32) (p2 : Value) (hp2 : zRv p2) {s s' : zS} {w : Int32} (hf : fJ3_checkIndex_8e157 N p0 p1 .null s = some (w, s')) : zMet g mJ3_checkIndex_8e157 d 0 0 [.int p0, .int p1, p2] (zHp s) (zret (some (.int w)) (zHp s')) := by
  rcases hp2 with rfl | ⟨r2, rfl⟩
  · refine zMet.ofWF (by decide +kernel) (Nat.le_of_ble_eq_true rfl) ?_
    show zW g mJ3_checkIndex_8e157 d 0 0 51 _ 0 0 (zHp s) [some (.int p0), some (.int p1), some (.null)] [] 0
    unfold fJ3_checkIndex_8e157 at hf
    refine z_iload_n dJ3_checkIndex_8e157_0 rfl ?_
    refine z_if_lt 9 dJ3_checkIndex_8e157_1 (by decide) (fun c1 => ?_) (fun c1 => ?_)
    · have hf := zifp hf c1
      cases hf
    · have hf := zifn hf c1
      refine z_iload_n dJ3_checkIndex_8e157_4 rfl ?_
      refine z_iload_n dJ3_checkIndex_8e157_5 rfl ?_
      refine z_icmp_lt 16 dJ3_checkIndex_8e157_6 (by decide) (fun c6 => ?_) (fun c6 => ?_)
      · have hf := zifp hf c6
        refine z_iload_n dJ3_checkIndex_8e157_16 rfl ?_
        cases hf
        exact z_iret rfl dJ3_checkIndex_8e157_17 (Nat.zero_le _) (Nat.zero_le _) ⟨rfl, rfl⟩
      · have hf := zifn hf c6
        cases hf
  · refine zMet.ofWF (by decide +kernel) (Nat.le_of_ble_eq_true rfl) ?_
    show zW g mJ3_checkIndex_8e157 d 0 0 51 _ 0 0 (zHp s) [some (.int p0), some (.int p1), some ((.ref r2))] [] 0
    unfold fJ3_checkIndex_8e157 at hf
    refine z_iload_n dJ3_checkIndex_8e157_0 rfl ?_
    refine z_if_lt 9 dJ3_checkIndex_8e157_1 (by decide) (fun c1 => ?_) (fun c1 => ?_)
    · have hf := zifp hf c1
      cases hf
    · have hf := zifn hf c1
      refine z_iload_n dJ3_checkIndex_8e157_4 rfl ?_
      refine z_iload_n dJ3_checkIndex_8e157_5 rfl ?_
      refine z_icmp_lt 16 dJ3_checkIndex_8e157_6 (by decide) (fun c6 => ?_) (fun c6 => ?_)
      · have hf := zifp hf c6
        refine z_iload_n dJ3_checkIndex_8e157_16 rfl ?_
        cases hf
        exact z_iret rfl dJ3_checkIndex_8e157_17 (Nat.zero_le _) (Nat.zero_le _) ⟨rfl, rfl⟩
      · have hf := zifn hf c6
        cases hf

noncomputable def fJ0_checkIndex_df160 (N : Nat) (p0 : Int32) (p1 : Int32) (s : zS) : Option (Unit × zS) := zbn (fJ3_checkIndex_8e157 N p0 p1 .null s) (fun x1 s2 => some ((), s2))
set_option maxHeartbeats 400000 in
set_option maxRecDepth 100000 in
theorem tJ0_checkIndex_df160 {g : zGl} (hok : zGok g) (d : Nat) (hd : 1 ≤ d) (N : Nat) (p0 : Int32) (p1 : Int32)  {s s' : zS} {w : Unit} (hf : fJ0_checkIndex_df160 N p0 p1 s = some (w, s')) : zMet g mJ0_checkIndex_df160 d 0 0 [.int p0, .int p1] (zHp s) (zret none (zHp s')) := by
  refine zMet.ofWF (by decide +kernel) (Nat.le_of_ble_eq_true rfl) ?_
  show zW g mJ0_checkIndex_df160 d 0 0 51 _ 0 0 (zHp s) [some (.int p0), some (.int p1)] [] 0
  unfold fJ0_checkIndex_df160 at hf
  refine z_iload_n dJ0_checkIndex_df160_0 rfl ?_
  refine z_iload_n dJ0_checkIndex_df160_1 rfl ?_
  refine z_gfm hok dJ0_checkIndex_df160_2 gJ0_1053 ?_
  obtain ⟨x1, s2, q3, hf⟩ := zbn_of hf
  refine z_cS (as := [_, _, _]) hok dJ0_checkIndex_df160_5 kJ0_1059 (tJ3_checkIndex_8e157 hok (d - 1) N p0 p1 (zfa g.2.2.2.1) (zfa_rv _) q3) rfl rfl (by omega) (Nat.le_of_ble_eq_true rfl) (Nat.zero_le _) (Nat.zero_le _) rfl ?_
  refine z_pop dJ0_checkIndex_df160_8 rfl ?_
  cases hf
  exact z_vret rfl dJ0_checkIndex_df160_9 (Nat.zero_le _) (Nat.zero_le _) ⟨rfl, rfl⟩

noncomputable def fJ1_charAt_3b067 (N : Nat) (p0 : Nat) (p1 : Int32) (s : zS) : Option (Int32 × zS) := if zbk p0 = true then zbn (fJ0_checkIndex_df160 N p1 (nI (zbl_ p0)) s) (fun x2 s3 => if zbk p0 = true then if zga p1 (zbl_ p0) = true then if narrow .char (.int ((((zbv p0 p1.toNatClampNeg) &&& 255).toUInt32 % 65536).toInt32)) = .int ((((zbv p0 p1.toNatClampNeg) &&& 255).toUInt32 % 65536).toInt32) then some ((((zbv p0 p1.toNatClampNeg) &&& 255).toUInt32 % 65536).toInt32, s3) else none else none else none) else none
set_option maxHeartbeats 400000 in
set_option maxRecDepth 100000 in
theorem tJ1_charAt_3b067 {g : zGl} (hok : zGok g) (d : Nat) (hd : 2 ≤ d) (N : Nat) (p0 : Nat) (p1 : Int32)  {s s' : zS} {w : Int32} (hf : fJ1_charAt_3b067 N p0 p1 s = some (w, s')) : zMet g mJ1_charAt_3b067 d 0 0 [.ref p0, .int p1] (zHp s) (zret (some (.int w)) (zHp s')) := by
  refine zMet.ofWF (by decide +kernel) (Nat.le_of_ble_eq_true rfl) ?_
  show zW g mJ1_charAt_3b067 d 0 0 51 _ 0 0 (zHp s) [some (.ref p0), some (.int p1)] [] 0
  unfold fJ1_charAt_3b067 at hf
  refine z_iload_n dJ1_charAt_3b067_0 rfl ?_
  refine z_aload_n dJ1_charAt_3b067_1 rfl ?_
  obtain ⟨hq1, hf⟩ := zifs hf
  refine z_blen hok dJ1_charAt_3b067_2 hq1 ?_
  obtain ⟨x2, s3, q4, hf⟩ := zbn_of hf
  refine z_cS (as := [_, _]) hok dJ1_charAt_3b067_3 kJ1_9 (tJ0_checkIndex_df160 hok (d - 1) (by omega) N p1 (nI (zbl_ p0))  q4) rfl rfl (by omega) (Nat.le_of_ble_eq_true rfl) (Nat.zero_le _) (Nat.zero_le _) rfl ?_
  refine z_aload_n dJ1_charAt_3b067_6 rfl ?_
  refine z_iload_n dJ1_charAt_3b067_7 rfl ?_
  obtain ⟨hq6, hf⟩ := zifs hf
  obtain ⟨hi5, hf⟩ := zifs hf
  refine z_bald hok dJ1_charAt_3b067_8 hq6 (zga_in hi5) ?_
  refine z_sipush 255 dJ1_charAt_3b067_9 (by decide +kernel) ?_
  refine z_iand dJ1_charAt_3b067_12 ?_
  refine z_i2c dJ1_charAt_3b067_13 ?_
  obtain ⟨bo7, hf⟩ := zifs hf
  cases hf
  exact z_zret rfl bo7 dJ1_charAt_3b067_14 (Nat.zero_le _) (Nat.zero_le _) ⟨rfl, rfl⟩

noncomputable def fJ0_charAt_5068e (N : Nat) (a : Nat) (p0 : Int32) (s : zS) : Option (Int32 × zS) := if zsk a = true then zbn (fJ0_isLatin1_aae02 N a s) (fun x1 s2 => if x1 = 0 then if zsk a = true then none else none else if zsk a = true then zbn (fJ1_charAt_3b067 N (a + 300) p0 s2) (fun x7 s8 => if narrow .char (.int x7) = .int x7 then some (x7, s8) else none) else none) else none
set_option maxHeartbeats 400000 in
set_option maxRecDepth 100000 in
theorem tJ0_charAt_5068e {g : zGl} (hok : zGok g) (d : Nat) (hd : 3 ≤ d) (N : Nat) (a : Nat) (p0 : Int32)  {s s' : zS} {w : Int32} (hf : fJ0_charAt_5068e N a p0 s = some (w, s')) : zMet g mJ0_charAt_5068e d 0 0 [.ref a, .int p0] (zHp s) (zret (some (.int w)) (zHp s')) := by
  refine zMet.ofWF (by decide +kernel) (Nat.le_of_ble_eq_true rfl) ?_
  show zW g mJ0_charAt_5068e d 0 0 51 _ 0 0 (zHp s) [some (.ref a), some (.int p0)] [] 0
  unfold fJ0_charAt_5068e at hf
  refine z_aload_n dJ0_charAt_5068e_0 rfl ?_
  obtain ⟨hq4, hf⟩ := zifs hf
  obtain ⟨x1, s2, q3, hf⟩ := zbn_of hf
  refine z_callVs (as := []) hok dJ0_charAt_5068e_1 kJ0_492 (tJ0_isLatin1_aae02 hok (d - 1) N a  q3) rfl hq4 rfl rfl (by omega) (Nat.le_of_ble_eq_true rfl) (Nat.zero_le _) (Nat.zero_le _) rfl ?_
  refine z_if_eq 16 dJ0_charAt_5068e_4 (by decide) (fun c4 => ?_) (fun c4 => ?_)
  · have hf := zifp hf c4
    refine z_aload_n dJ0_charAt_5068e_16 rfl ?_
    obtain ⟨hq5, hf⟩ := zifs hf
    refine z_sval hok dJ0_charAt_5068e_17 gJ0_9 hq5 ?_
    refine z_iload_n dJ0_charAt_5068e_20 rfl ?_
    cases hf
  · have hf := zifn hf c4
    refine z_aload_n dJ0_charAt_5068e_7 rfl ?_
    obtain ⟨hq6, hf⟩ := zifs hf
    refine z_sval hok dJ0_charAt_5068e_8 gJ0_9 hq6 ?_
    refine z_iload_n dJ0_charAt_5068e_11 rfl ?_
    obtain ⟨x7, s8, q9, hf⟩ := zbn_of hf
    refine z_cS (as := [_, _]) hok dJ0_charAt_5068e_12 kJ0_495 (tJ1_charAt_3b067 hok (d - 1) (by omega) N (a + 300) p0  q9) rfl rfl (by omega) (Nat.le_of_ble_eq_true rfl) (Nat.zero_le _) (Nat.zero_le _) rfl ?_
    obtain ⟨bo10, hf⟩ := zifs hf
    cases hf
    exact z_zret rfl bo10 dJ0_charAt_5068e_15 (Nat.zero_le _) (Nat.zero_le _) ⟨rfl, rfl⟩

noncomputable def fX2_nameOf (N : Nat) (p0 : Int32) (s : zS) : Option (Nat × zS) := if p0 = 1 then some (1007, s) else if p0 = 2 then some (1008, s) else if p0 = 3 then some (1009, s) else some (1010, s)
set_option maxHeartbeats 400000 in
set_option maxRecDepth 100000 in
theorem tX2_nameOf {g : zGl} (hok : zGok g) (d : Nat)  (N : Nat) (p0 : Int32)  {s s' : zS} {w : Nat} (hf : fX2_nameOf N p0 s = some (w, s')) : zMet g mX2_nameOf d 0 0 [.int p0] (zHp s) (zret (some (.ref w)) (zHp s')) := by
  refine zMet.ofW (by decide +kernel) (Nat.le_of_ble_eq_true rfl) ?_
  show zW g mX2_nameOf d 0 0 51 _ 0 0 (zHp s) [some (.int p0)] [] 0
  unfold fX2_nameOf at hf
  refine z_iload_n dX2_nameOf_0 rfl ?_
  refine z_tab [(1, 28), (2, 31), (3, 34)] 37 dX2_nameOf_1 (by decide +kernel) (by decide +kernel) (by decide +kernel) (by decide +kernel) ?_
  refine z_selc (fun c1_0 => ?_) (fun c1_0 => ?_)
  · have hf := zifp hf c1_0
    refine z_ldcS 7 hok dX2_nameOf_28 rfl ?_
    cases hf
    exact z_aret rfl (Or.inl ⟨_, rfl⟩) dX2_nameOf_30 (Nat.zero_le _) (Nat.zero_le _) ⟨rfl, rfl⟩
  · have hf := zifn hf c1_0
    refine z_selc (fun c1_1 => ?_) (fun c1_1 => ?_)
    · have hf := zifp hf c1_1
      refine z_ldcS 8 hok dX2_nameOf_31 rfl ?_
      cases hf
      exact z_aret rfl (Or.inl ⟨_, rfl⟩) dX2_nameOf_33 (Nat.zero_le _) (Nat.zero_le _) ⟨rfl, rfl⟩
    · have hf := zifn hf c1_1
      refine z_selc (fun c1_2 => ?_) (fun c1_2 => ?_)
      · have hf := zifp hf c1_2
        refine z_ldcS 9 hok dX2_nameOf_34 rfl ?_
        cases hf
        exact z_aret rfl (Or.inl ⟨_, rfl⟩) dX2_nameOf_36 (Nat.zero_le _) (Nat.zero_le _) ⟨rfl, rfl⟩
      · have hf := zifn hf c1_2
        refine z_seln ?_
        refine z_ldcS 10 hok dX2_nameOf_37 rfl ?_
        cases hf
        exact z_aret rfl (Or.inl ⟨_, rfl⟩) dX2_nameOf_39 (Nat.zero_le _) (Nat.zero_le _) ⟨rfl, rfl⟩

noncomputable def fX8_spells_L25S (N : Nat) (p0 : Int32) (p1 : Nat) (rec : Int32 → zS → Option ((Int32 × zS) ⊕ (zS))) (v3 : Int32) (s : zS) : Option ((Int32 × zS) ⊕ (zS)) := if zsk p1 = true then zbn (fJ0_length_8abf5 N p1 s) (fun x11 s12 => if x11 ≤ v3 then some (.inr (s12)) else zbn (fX8_placeOf N p0 s12) (fun x15 s16 => zbn (fX8_byteAt N (x15 + v3) s16) (fun x18 s19 => if zsk p1 = true then zbn (fJ0_charAt_5068e N p1 v3 s19) (fun x21 s22 => if x18 = x21 then rec (v3 + 1) s22 else some (.inl (0, s22))) else none))) else none
noncomputable def fX8_spells_L25 (N : Nat) (p0 : Int32) (p1 : Nat) (n : Nat) : Int32 → zS → Option ((Int32 × zS) ⊕ (zS)) := Nat.rec (motive := fun _ => Int32 → zS → Option ((Int32 × zS) ⊕ (zS))) (fun _ _ => none) (fun _ rec => fX8_spells_L25S N p0 p1 rec) n
set_option maxHeartbeats 400000 in
set_option maxRecDepth 100000 in
theorem tX8_spells_L25 {g : zGl} (hok : zGok g) (d : Nat) (hd : 4 ≤ d) (N : Nat) (p0 : Int32) (p1 : Nat)  {mc ms n0 : Nat} {Q : zO → List zE → Prop} (n : Nat) : ∀ (v3 : Int32) (s : zS) (r : (Int32 × zS) ⊕ (zS)) (hf : fX8_spells_L25 N p0 p1 n v3 s = some r) (k1 : ∀ w s', r = .inl (w, s') → Q (.inl (some (.int w))) (zHp s')) (k2 : ∀  (s' : zS), r = .inr (s') → zW g mX8_spells d mc ms n0 Q 0 0 (zHp s') [some (.ref 4), some (.int p0), some (.ref p1), none] [] 60), zW g mX8_spells d mc ms n0 Q 0 0 (zHp s) [some (.ref 4), some (.int p0), some (.ref p1), some (.int v3)] [] 25 := by
  induction n with
  | zero => intro v3 s r hf; cases hf
  | succ n ih =>
    intro v3 s r hf k1 k2
    have hrec : ∀ (v3 : Int32) (s : zS) (r1 : (Int32 × zS) ⊕ (zS)), fX8_spells_L25 N p0 p1 n v3 s = some r1 → r1 = r → zW g mX8_spells d mc ms n0 Q 0 0 (zHp s) [some (.ref 4), some (.int p0), some (.ref p1), some (.int v3)] [] 25 := fun v3 s r1 h e => ih v3 s r1 h (by subst e; exact k1) (by subst e; exact k2)
    have hrec : ∀ (v3 : Int32) (s : zS), fX8_spells_L25 N p0 p1 n v3 s = some r → zW g mX8_spells d mc ms n0 Q 0 0 (zHp s) [some (.ref 4), some (.int p0), some (.ref p1), some (.int v3)] [] 25 := fun v3 s h => hrec v3 s r h rfl
    have hf : fX8_spells_L25S N p0 p1 (fX8_spells_L25 N p0 p1 n) v3 s = some r := hf
    unfold fX8_spells_L25S at hf
    refine z_iload_n dX8_spells_25 rfl ?_
    refine z_aload_n dX8_spells_26 rfl ?_
    obtain ⟨hq14, hf⟩ := zifs hf
    obtain ⟨x11, s12, q13, hf⟩ := zbn_of hf
    refine z_callVs (as := []) hok dX8_spells_27 kX8_128 (tJ0_length_8abf5 hok (d - 1) (by omega) N p1  q13) rfl hq14 rfl rfl (by omega) (Nat.le_of_ble_eq_true rfl) (Nat.zero_le _) (Nat.zero_le _) rfl ?_
    refine z_icmp_ge 60 dX8_spells_30 (by decide) (fun c30 => ?_) (fun c30 => ?_)
    · have hf := zifp hf c30
      cases hf
      refine z_mask (ls' := [_, _, _, _]) [true, true, true, false] rfl ?_
      exact k2  _ rfl
    · have hf := zifn hf c30
      refine z_aload_n dX8_spells_33 rfl ?_
      refine z_aload_n dX8_spells_34 rfl ?_
      refine z_iload_n dX8_spells_35 rfl ?_
      obtain ⟨x15, s16, q17, hf⟩ := zbn_of hf
      refine z_cV (as := [_]) hok dX8_spells_36 kX8_132 (tX8_placeOf hok (d - 1) (by omega) N p0  q17) rfl (at_Words s12) rfl rfl (by omega) (Nat.le_of_ble_eq_true rfl) (Nat.zero_le _) (Nat.zero_le _) rfl ?_
      refine z_iload_n dX8_spells_39 rfl ?_
      refine z_iadd dX8_spells_40 ?_
      obtain ⟨x18, s19, q20, hf⟩ := zbn_of hf
      refine z_cV (as := [_]) hok dX8_spells_41 kX8_54 (tX8_byteAt hok (d - 1) N (x15 + v3)  q20) rfl (at_Words s16) rfl rfl (by omega) (Nat.le_of_ble_eq_true rfl) (Nat.zero_le _) (Nat.zero_le _) rfl ?_
      refine z_aload_n dX8_spells_44 rfl ?_
      refine z_iload_n dX8_spells_45 rfl ?_
      obtain ⟨hq24, hf⟩ := zifs hf
      obtain ⟨x21, s22, q23, hf⟩ := zbn_of hf
      refine z_callVs (as := [_]) hok dX8_spells_46 kX8_135 (tJ0_charAt_5068e hok (d - 1) (by omega) N p1 v3  q23) rfl hq24 rfl rfl (by omega) (Nat.le_of_ble_eq_true rfl) (Nat.zero_le _) (Nat.zero_le _) rfl ?_
      refine z_icmp_eq 54 dX8_spells_49 (by decide) (fun c49 => ?_) (fun c49 => ?_)
      · have hf := zifp hf c49
        refine z_iinc (ls' := [_, _, _, _]) (v3 + 1) dX8_spells_54 rfl rfl (by decide) rfl ?_
        refine z_goto 25 dX8_spells_57 (by decide) ?_
        refine z_mask (ls' := [_, _, _, _]) [true, true, true, true] rfl ?_
        exact hrec (v3 + 1) s22 hf
      · have hf := zifn hf c49
        refine z_iconst 0 dX8_spells_52 (by decide +kernel) ?_
        cases hf
        exact z_zret rfl (by decide) dX8_spells_53 (Nat.zero_le _) (Nat.zero_le _) (k1 _ _ rfl)
noncomputable def fX8_spells (N : Nat) (p0 : Int32) (p1 : Nat) (s : zS) : Option (Int32 × zS) := zbn (fX8_kindOf N p0 s) (fun x1 s2 => if x1 = 1 then zbn (fX8_valueOf N p0 s2) (fun x4 s5 => if zsk p1 = true then zbn (fJ0_length_8abf5 N p1 s5) (fun x7 s8 => if x4 = x7 then zbl (fX8_spells_L25 N p0 p1 N 0 s8) (fun x => some x) (fun s28 => some (1, s28)) else some (0, s8)) else none) else some (0, s2))
set_option maxHeartbeats 400000 in
set_option maxRecDepth 100000 in
theorem tX8_spells {g : zGl} (hok : zGok g) (d : Nat) (hd : 4 ≤ d) (N : Nat) (p0 : Int32) (p1 : Nat)  {s s' : zS} {w : Int32} (hf : fX8_spells N p0 p1 s = some (w, s')) : zMet g mX8_spells d 0 0 [.ref 4, .int p0, .ref p1] (zHp s) (zret (some (.int w)) (zHp s')) := by
  refine zMet.ofW (by decide +kernel) (Nat.le_of_ble_eq_true rfl) ?_
  show zW g mX8_spells d 0 0 51 _ 0 0 (zHp s) [some (.ref 4), some (.int p0), some (.ref p1), none] [] 0
  unfold fX8_spells at hf
  refine z_aload_n dX8_spells_0 rfl ?_
  refine z_iload_n dX8_spells_1 rfl ?_
  obtain ⟨x1, s2, q3, hf⟩ := zbn_of hf
  refine z_cV (as := [_]) hok dX8_spells_2 kX8_122 (tX8_kindOf hok (d - 1) (by omega) N p0  q3) rfl (at_Words s) rfl rfl (by omega) (Nat.le_of_ble_eq_true rfl) (Nat.zero_le _) (Nat.zero_le _) rfl ?_
  refine z_iconst 1 dX8_spells_5 (by decide +kernel) ?_
  refine z_icmp_ne 21 dX8_spells_6 (by decide) (fun c6 => ?_) (fun c6 => ?_)
  · have hf := zifn hf c6
    refine z_iconst 0 dX8_spells_21 (by decide +kernel) ?_
    cases hf
    exact z_zret rfl (by decide) dX8_spells_22 (Nat.zero_le _) (Nat.zero_le _) ⟨rfl, rfl⟩
  · have hf := zifp hf c6
    refine z_aload_n dX8_spells_9 rfl ?_
    refine z_iload_n dX8_spells_10 rfl ?_
    obtain ⟨x4, s5, q6, hf⟩ := zbn_of hf
    refine z_cV (as := [_]) hok dX8_spells_11 kX8_125 (tX8_valueOf hok (d - 1) (by omega) N p0  q6) rfl (at_Words s2) rfl rfl (by omega) (Nat.le_of_ble_eq_true rfl) (Nat.zero_le _) (Nat.zero_le _) rfl ?_
    refine z_aload_n dX8_spells_14 rfl ?_
    obtain ⟨hq10, hf⟩ := zifs hf
    obtain ⟨x7, s8, q9, hf⟩ := zbn_of hf
    refine z_callVs (as := []) hok dX8_spells_15 kX8_128 (tJ0_length_8abf5 hok (d - 1) (by omega) N p1  q9) rfl hq10 rfl rfl (by omega) (Nat.le_of_ble_eq_true rfl) (Nat.zero_le _) (Nat.zero_le _) rfl ?_
    refine z_icmp_eq 23 dX8_spells_18 (by decide) (fun c18 => ?_) (fun c18 => ?_)
    · have hf := zifp hf c18
      refine z_iconst 0 dX8_spells_23 (by decide +kernel) ?_
      refine z_istore_n (ls' := [_, _, _, _]) dX8_spells_24 (by decide) rfl ?_
      refine z_mask (ls' := [_, _, _, _]) [true, true, true, true] rfl ?_
      rcases zbl_of hf with ⟨lr26, le27, hf⟩ | ⟨lr26, le27, hf⟩
      · cases hf
        exact tX8_spells_L25 hok d (by omega) N p0 p1  N 0 s8 _ le27 (fun w1 s1 hh => by cases hh; exact ⟨rfl, rfl⟩) (fun  _ hh => by cases hh)
      · obtain ⟨s28, rfl⟩ : ∃ z, z = lr26 := ⟨_, rfl⟩
        refine tX8_spells_L25 hok d (by omega) N p0 p1  N 0 s8 _ le27 (fun w1 s1 hh => by cases hh) (fun  _ hh => ?_)
        cases hh
        refine z_iconst 1 dX8_spells_60 (by decide +kernel) ?_
        cases hf
        exact z_zret rfl (by decide) dX8_spells_61 (Nat.zero_le _) (Nat.zero_le _) ⟨rfl, rfl⟩
    · have hf := zifn hf c18
      refine z_iconst 0 dX8_spells_21 (by decide +kernel) ?_
      cases hf
      exact z_zret rfl (by decide) dX8_spells_22 (Nat.zero_le _) (Nat.zero_le _) ⟨rfl, rfl⟩

noncomputable def fX2_numberOf_L2S (N : Nat) (p1 : Int32) (rec : Int32 → zS → Option ((Int32 × zS) ⊕ (zS))) (v2 : Int32) (s : zS) : Option ((Int32 × zS) ⊕ (zS)) := if 4 < v2 then some (.inr (s)) else zbn (fX2_nameOf N v2 s) (fun x1 s2 => zbn (fX8_spells N p1 x1 s2) (fun x4 s5 => if x4 = 0 then rec (v2 + 1) s5 else some (.inl (v2, s5))))
noncomputable def fX2_numberOf_L2 (N : Nat) (p1 : Int32) (n : Nat) : Int32 → zS → Option ((Int32 × zS) ⊕ (zS)) := Nat.rec (motive := fun _ => Int32 → zS → Option ((Int32 × zS) ⊕ (zS))) (fun _ _ => none) (fun _ rec => fX2_numberOf_L2S N p1 rec) n
set_option maxHeartbeats 400000 in
set_option maxRecDepth 100000 in
theorem tX2_numberOf_L2 {g : zGl} (hok : zGok g) (d : Nat) (hd : 5 ≤ d) (N : Nat) (p1 : Int32)  {mc ms n0 : Nat} {Q : zO → List zE → Prop} (n : Nat) : ∀ (v2 : Int32) (s : zS) (r : (Int32 × zS) ⊕ (zS)) (hf : fX2_numberOf_L2 N p1 n v2 s = some r) (k1 : ∀ w s', r = .inl (w, s') → Q (.inl (some (.int w))) (zHp s')) (k2 : ∀  (s' : zS), r = .inr (s') → zW g mX2_numberOf d mc ms n0 Q 0 0 (zHp s') [some (.ref 4), some (.int p1), none] [] 27), zW g mX2_numberOf d mc ms n0 Q 0 0 (zHp s) [some (.ref 4), some (.int p1), some (.int v2)] [] 2 := by
  induction n with
  | zero => intro v2 s r hf; cases hf
  | succ n ih =>
    intro v2 s r hf k1 k2
    have hrec : ∀ (v2 : Int32) (s : zS) (r1 : (Int32 × zS) ⊕ (zS)), fX2_numberOf_L2 N p1 n v2 s = some r1 → r1 = r → zW g mX2_numberOf d mc ms n0 Q 0 0 (zHp s) [some (.ref 4), some (.int p1), some (.int v2)] [] 2 := fun v2 s r1 h e => ih v2 s r1 h (by subst e; exact k1) (by subst e; exact k2)
    have hrec : ∀ (v2 : Int32) (s : zS), fX2_numberOf_L2 N p1 n v2 s = some r → zW g mX2_numberOf d mc ms n0 Q 0 0 (zHp s) [some (.ref 4), some (.int p1), some (.int v2)] [] 2 := fun v2 s h => hrec v2 s r h rfl
    have hf : fX2_numberOf_L2S N p1 (fX2_numberOf_L2 N p1 n) v2 s = some r := hf
    unfold fX2_numberOf_L2S at hf
    refine z_iload_n dX2_numberOf_2 rfl ?_
    refine z_iconst 4 dX2_numberOf_3 (by decide +kernel) ?_
    refine z_icmp_gt 27 dX2_numberOf_4 (by decide) (fun c4 => ?_) (fun c4 => ?_)
    · have hf := zifp hf c4
      cases hf
      refine z_mask (ls' := [_, _, _]) [true, true, false] rfl ?_
      exact k2  _ rfl
    · have hf := zifn hf c4
      refine z_aload_n dX2_numberOf_7 rfl ?_
      refine z_iload_n dX2_numberOf_8 rfl ?_
      refine z_iload_n dX2_numberOf_9 rfl ?_
      obtain ⟨x1, s2, q3, hf⟩ := zbn_of hf
      refine z_cS (as := [_]) hok dX2_numberOf_10 kX2_17 (tX2_nameOf hok (d - 1) N v2  q3) rfl rfl (by omega) (Nat.le_of_ble_eq_true rfl) (Nat.zero_le _) (Nat.zero_le _) rfl ?_
      obtain ⟨x4, s5, q6, hf⟩ := zbn_of hf
      refine z_cV (as := [_, _]) hok dX2_numberOf_13 kX2_21 (tX8_spells hok (d - 1) (by omega) N p1 x1  q6) rfl (at_Words s2) rfl rfl (by omega) (Nat.le_of_ble_eq_true rfl) (Nat.zero_le _) (Nat.zero_le _) rfl ?_
      refine z_if_eq 21 dX2_numberOf_16 (by decide) (fun c16 => ?_) (fun c16 => ?_)
      · have hf := zifp hf c16
        refine z_iinc (ls' := [_, _, _]) (v2 + 1) dX2_numberOf_21 rfl rfl (by decide) rfl ?_
        refine z_goto 2 dX2_numberOf_24 (by decide) ?_
        refine z_mask (ls' := [_, _, _]) [true, true, true] rfl ?_
        exact hrec (v2 + 1) s5 hf
      · have hf := zifn hf c16
        refine z_iload_n dX2_numberOf_19 rfl ?_
        cases hf
        exact z_iret rfl dX2_numberOf_20 (Nat.zero_le _) (Nat.zero_le _) (k1 _ _ rfl)
noncomputable def fX2_numberOf (N : Nat) (p1 : Int32) (s : zS) : Option (Int32 × zS) := zbl (fX2_numberOf_L2 N p1 N 1 s) (fun x => some x) (fun s10 => some (0, s10))
set_option maxHeartbeats 400000 in
set_option maxRecDepth 100000 in
theorem tX2_numberOf {g : zGl} (hok : zGok g) (d : Nat) (hd : 5 ≤ d) (N : Nat) (p1 : Int32)  {s s' : zS} {w : Int32} (hf : fX2_numberOf N p1 s = some (w, s')) : zMet g mX2_numberOf d 0 0 [.ref 4, .int p1] (zHp s) (zret (some (.int w)) (zHp s')) := by
  refine zMet.ofW (by decide +kernel) (Nat.le_of_ble_eq_true rfl) ?_
  show zW g mX2_numberOf d 0 0 51 _ 0 0 (zHp s) [some (.ref 4), some (.int p1), none] [] 0
  unfold fX2_numberOf at hf
  refine z_iconst 1 dX2_numberOf_0 (by decide +kernel) ?_
  refine z_istore_n (ls' := [_, _, _]) dX2_numberOf_1 (by decide) rfl ?_
  refine z_mask (ls' := [_, _, _]) [true, true, true] rfl ?_
  rcases zbl_of hf with ⟨lr8, le9, hf⟩ | ⟨lr8, le9, hf⟩
  · cases hf
    exact tX2_numberOf_L2 hok d (by omega) N p1  N 1 s _ le9 (fun w1 s1 hh => by cases hh; exact ⟨rfl, rfl⟩) (fun  _ hh => by cases hh)
  · obtain ⟨s10, rfl⟩ : ∃ z, z = lr8 := ⟨_, rfl⟩
    refine tX2_numberOf_L2 hok d (by omega) N p1  N 1 s _ le9 (fun w1 s1 hh => by cases hh) (fun  _ hh => ?_)
    cases hh
    refine z_iconst 0 dX2_numberOf_27 (by decide +kernel) ?_
    cases hf
    exact z_iret rfl dX2_numberOf_28 (Nat.zero_le _) (Nat.zero_le _) ⟨rfl, rfl⟩

