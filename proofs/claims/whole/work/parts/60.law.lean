def zScr (sa : Nat → Nat) (L : Nat) (xs : Nat → Int32) (A : Nat → Prop) (U : State) (H : Heap) : Prop := va_X (sa 200) L xs U H ∧ ¬ A (sa 200) ∧ sa 200 < H.size
theorem zk1_le {α : Type} (w : Option α) : zk1 w ≤ 1 := by cases w <;> simp [zk1]
theorem zk6_le {α : Type} (w : Option α) : zk6 w ≤ 6 := by cases w <;> simp [zk6]
def zbr {β : Type} (o : Option (Option Int32 × zS)) (k : Int32 → zS → Option β) : Option β := match o with
  | none => none
  | some q => k (zrk q.1) (zrs q.1 q.2)
theorem zbr_of {β : Type} {o : Option (Option Int32 × zS)} {k : Int32 → zS → Option β} {r : β} (h : zbr o k = some r) : ∃ w s1, o = some (w, s1) ∧ k (zrk w) (zrs w s1) = some r := by
  cases o with
  | none => cases h
  | some q => exact ⟨q.1, q.2, rfl, h⟩
theorem rd_w4 : Cond.static yL_read ∈ zT := by decide +kernel
theorem rd_w5 : Cond.initialized RL ∈ zT := by decide +kernel
theorem at_long (s : zS) : (zHp s)[50]? = some (.inl (1, 1, .inr (.inl s.2.2.2))) := rfl
section ZR
variable {g : zGl} {M : zMd} {d mc ms n0 cells slots pc : Nat} {Q : zO → List zE → Prop} {h : List zE} {ls ls' : List (Option Value)} {st : List Value}
theorem z_slen {L : Nat} {xs : Nat → Int32} (hsc : ∀ (A : Nat → Prop) (U : State) (H : Heap), g.2.2.2.2 A U H → zScr g.2.2.2.1 L xs A U H) (hd : decode M.2.1 pc = .ok (.arraylength, 1)) (k : zW g M d mc ms n0 Q cells slots (h) ls (.int (nI L) :: st) (pc + 1)) : zW g M d mc ms n0 Q cells slots (h) ls (.ref 1200 :: st) (pc) := by
  intro p e R s m args below meth c H locs A ad ad0 cls F Ro S E hn L0
  obtain ⟨hX, hbA, hbl⟩ := hsc _ _ _ S.2.2.2.2.1
  have e4 : (.ref 1200 :: st : List Value).map (zc ad) = .ref (g.2.2.2.1 200) :: st.map (zc ad) := congrArg (fun x => Value.ref x :: st.map (zc ad)) (S.2.2.2.2.2.1 200)
  rw [e4]
  exact va_slen F.1 F.2.1 hX hbl hbA S.2.2.1 hd (k p e R s m args below meth c H locs A ad ad0 cls F Ro S E hn L0)
theorem z_sld {L : Nat} {xs : Nat → Int32} {i : Int32} (hsc : ∀ (A : Nat → Prop) (U : State) (H : Heap), g.2.2.2.2 A U H → zScr g.2.2.2.1 L xs A U H) (hd : decode M.2.1 pc = .ok (.iaload, 1)) (hi : vp_in i L) (k : zW g M d mc ms n0 Q cells slots (h) ls (.int (xs i.toNatClampNeg) :: st) (pc + 1)) : zW g M d mc ms n0 Q cells slots (h) ls (.int i :: .ref 1200 :: st) (pc) := by
  intro p e R s m args below meth c H locs A ad ad0 cls F Ro S E hn L0
  obtain ⟨hX, hbA, hbl⟩ := hsc _ _ _ S.2.2.2.2.1
  have e4 : (.int i :: .ref 1200 :: st : List Value).map (zc ad) = .int i :: .ref (g.2.2.2.1 200) :: st.map (zc ad) := congrArg (fun x => Value.int i :: Value.ref x :: st.map (zc ad)) (S.2.2.2.2.2.1 200)
  rw [e4]
  exact va_sld F.1 F.2.1 hX hbl hbA S.2.2.1 hi hd (k p e R s m args below meth c H locs A ad ad0 cls F Ro S E hn L0)
theorem z_cRd {idx N d1 : Nat} {s0 s1 : zS} {w : Option Int32} (hok : zGok g) (hd : decode M.2.1 pc = .ok (.invokestatic idx, 3)) (w1 : Cond.methodLink M.1.cls idx yL_read ∈ zT) (hf : fX9_read N s0 = some (w, s1)) (hd0 : 424 ≤ d1) (hd1 : d1 < d) (hcat : (st.map fun v => v.category).sum ≤ 8) (h1 : cells + zk1 w ≤ mc) (h2 : slots + zk6 w ≤ ms)
    (k : zW g M d mc ms n0 Q (cells + zk1 w) (slots + zk6 w) (zHp (zrs w s1)) ls (.int (zrk w) :: st) (pc + 3)) : zW g M d mc ms n0 Q cells slots (zHp s0) ls (.ref 50 :: .ref 0 :: st) (pc) := by
  intro p e R s m args below meth c H locs A ad ad0 cls F Ro S E hn L0
  have hM := tL_read hok d1 hd0 N hf ad H.size S.2.2.2.2.2.1
  have hts := F.2.2.2.2.2.2.1
  have hG : GoodIn zT (va_wsS M.1.cls idx yL_read (Cond.codeWith yL_read cL_read 3 (some .int) zhh :: zT)) := fun x hx => by
    have : x ∈ zT := by
      unfold va_wsS at hx
      rcases List.mem_append.mp hx with hx | hx
      · rcases List.mem_cons.mp hx with rfl | hx
        · exact w1
        · rcases List.mem_cons.mp hx with rfl | hx
          · exact rd_w4
          · rcases List.mem_cons.mp hx with rfl | hx
            · exact rd_w5
            · cases hx
      · rcases List.mem_cons.mp hx with rfl | hx
        · exact rd_w1
        · exact hx
    exact ⟨this, zT_good this⟩
  have cw := vx_cwSW (R := R) (s := s) (args := args) (own := M.1.cls) (index := idx) (maxL := 3) (mc := zk1 w) (ms := zk6 w) (y := yL_read) (rm := zRm d1 (zk1 w) (zk6 w)) 2 hts hG rfl rfl rfl ⟨by decide, by decide, by decide +kernel⟩ (zRo_call Ro hd1 (by decide))
  have hr := vx_runSX (l := g.1) (e := e) (below := below) (meth := meth) (locs := locs) (cells := cells) (slots := slots) (As := [.ref (ad 0), .ref (ad 50)]) (rest := st.map (zc ad)) (g := F0 m pc cls (.ref (ad 50) :: .ref (ad 0) :: st.map (zc ad))) ⟨F.1, F.2.1, F.2.2.1, F.2.2.2.2.2.1, hts⟩ hM cw ⟨zPc_blind hok, fun U hU hW => zPc_at (as := [.ref 0, .ref 50]) hok F.2.2.2.2.2.2.2.2.2 S hU hW⟩ rfl rfl L0.1 rfl (lv_room (by rw [zc_cats]; exact hcat)) hd ⟨Nat.le_trans h1 Ro.2.2.1, Nat.le_trans h2 Ro.2.2.2⟩
  refine z_back F Ro S E hn L0 h1 h2 hr (fun v' h' q => ?_) (fun X h' q => by cases q.1)
  obtain ⟨q1, q2⟩ := q
  cases q1
  subst q2
  exact ⟨⟨List.all_eq_true.mpr fun x _ => zfo_nn _ x, List.all_eq_true.mpr fun x _ => zfv_nn _ x⟩, k⟩
end ZR
theorem rd_w6 : Cond.methodLink RL 29 yL_read ∈ zT := by decide +kernel
abbrev mL_law : zMd := (yL_law, cL_law, 7, some .boolean)
noncomputable def fL_law_L23S (N : Nat) (L : Nat) (xs : Nat → Int32) (rec : Int32 → zS → Option ((Int32 × zS) ⊕ (zS))) (v4 : Int32) (s : zS) : Option ((Int32 × zS) ⊕ (zS)) := if ((nI L) - 6) < v4 then some (.inr (s)) else if zga v4 L = true then if ((xs v4.toNatClampNeg) &&& 15) = 0 then if zga (v4 + 1) L = true then if zga (v4 + 2) L = true then if zga (v4 + 3) L = true then if zga (v4 + 4) L = true then if zga (v4 + 5) L = true then zbn (fX9_feed N (xs (v4 + 1).toNatClampNeg) (xs (v4 + 2).toNatClampNeg) (xs (v4 + 3).toNatClampNeg) (xs (v4 + 4).toNatClampNeg) (xs (v4 + 5).toNatClampNeg) s) (fun x7 s8 => if zga (v4 + 1) L = true then if zga (v4 + 2) L = true then if zga (v4 + 3) L = true then if zga (v4 + 4) L = true then if zga (v4 + 5) L = true then zbn (fX10_feed N (xs (v4 + 1).toNatClampNeg) (xs (v4 + 2).toNatClampNeg) (xs (v4 + 3).toNatClampNeg) (xs (v4 + 4).toNatClampNeg) (xs (v4 + 5).toNatClampNeg) s8) (fun x15 s16 => rec (v4 + 6) s16) else none else none else none else none else none) else none else none else none else none else none else if ((xs v4.toNatClampNeg) &&& 15) = 1 then if zga (v4 + 1) L = true then zbn (fX9_end N (xs (v4 + 1).toNatClampNeg) s) (fun x19 s20 => if zga (v4 + 1) L = true then zbn (fX10_end N (xs (v4 + 1).toNatClampNeg) s20) (fun x23 s24 => if x19 = x23 then rec (v4 + 6) s24 else some (.inl (0, s24))) else none) else none else if ((xs v4.toNatClampNeg) &&& 15) = 2 then zbr (fX9_read N s) (fun x26 s27 => zbn (fX10_read N  s27) (fun x31 s32 => zbn (fX10_thrown N  s32) (fun x34 s35 => if x34 = x26 then if x26 = 0 then if (lg_cmp (s35.2.2.2 (0 : Int32).toNatClampNeg) x31.toInt64) = 0 then rec (v4 + 6) s35 else some (.inl (0, s35)) else rec (v4 + 6) s35 else some (.inl (0, s35))))) else if ((xs v4.toNatClampNeg) &&& 15) = 3 then if zga (v4 + 1) L = true then zbn (fX9_fault N (xs (v4 + 1).toNatClampNeg) s) (fun x38 s39 => if zga (v4 + 1) L = true then zbn (fX10_fault N (xs (v4 + 1).toNatClampNeg) s39) (fun x42 s43 => if x38 = x42 then rec (v4 + 6) s43 else some (.inl (0, s43))) else none) else none else if ((xs v4.toNatClampNeg) &&& 15) = 4 then if zga (v4 + 1) L = true then zbn (fX9_count N (xs (v4 + 1).toNatClampNeg) s) (fun x46 s47 => if zga (v4 + 1) L = true then zbn (fX10_count N (xs (v4 + 1).toNatClampNeg) s47) (fun x50 s51 => if x46 = x50 then rec (v4 + 6) s51 else some (.inl (0, s51))) else none) else none else if ((xs v4.toNatClampNeg) &&& 15) = 5 then if zga (v4 + 1) L = true then if zga (v4 + 2) L = true then zbn (fX9_statement N (xs (v4 + 1).toNatClampNeg) (xs (v4 + 2).toNatClampNeg) s) (fun x55 s56 => if zga (v4 + 1) L = true then if zga (v4 + 2) L = true then zbn (fX10_statement N (xs (v4 + 1).toNatClampNeg) (xs (v4 + 2).toNatClampNeg) s56) (fun x60 s61 => if x55 = x60 then rec (v4 + 6) s61 else some (.inl (0, s61))) else none else none) else none else none else if ((xs v4.toNatClampNeg) &&& 15) = 6 then if zga (v4 + 1) L = true then if zga (v4 + 2) L = true then zbn (fX9_operand N (xs (v4 + 1).toNatClampNeg) (xs (v4 + 2).toNatClampNeg) s) (fun x65 s66 => if zga (v4 + 1) L = true then if zga (v4 + 2) L = true then zbn (fX10_operand N (xs (v4 + 1).toNatClampNeg) (xs (v4 + 2).toNatClampNeg) s66) (fun x70 s71 => if x65 = x70 then rec (v4 + 6) s71 else some (.inl (0, s71))) else none else none) else none else none else if ((xs v4.toNatClampNeg) &&& 15) = 7 then if zga (v4 + 1) L = true then zbn (fX9_constant N (xs (v4 + 1).toNatClampNeg) s) (fun x74 s75 => if zga (v4 + 1) L = true then zbn (fX10_constant N (xs (v4 + 1).toNatClampNeg) s75) (fun x78 s79 => if (lg_cmp x74 x78) = 0 then rec (v4 + 6) s79 else some (.inl (0, s79))) else none) else none else if ((xs v4.toNatClampNeg) &&& 15) = 8 then if zga (v4 + 1) L = true then if zga (v4 + 2) L = true then zbn (fX9_item N (xs (v4 + 1).toNatClampNeg) (xs (v4 + 2).toNatClampNeg) s) (fun x83 s84 => if zga (v4 + 1) L = true then if zga (v4 + 2) L = true then zbn (fX10_item N (xs (v4 + 1).toNatClampNeg) (xs (v4 + 2).toNatClampNeg) s84) (fun x88 s89 => if x83 = x88 then rec (v4 + 6) s89 else some (.inl (0, s89))) else none else none) else none else none else if ((xs v4.toNatClampNeg) &&& 15) = 9 then if zga (v4 + 1) L = true then if zga (v4 + 2) L = true then zbn (fX9_name N (xs (v4 + 1).toNatClampNeg) (xs (v4 + 2).toNatClampNeg) s) (fun x93 s94 => if zga (v4 + 1) L = true then if zga (v4 + 2) L = true then zbn (fX10_name N (xs (v4 + 1).toNatClampNeg) (xs (v4 + 2).toNatClampNeg) s94) (fun x98 s99 => if x93 = x98 then rec (v4 + 6) s99 else some (.inl (0, s99))) else none else none) else none else none else if ((xs v4.toNatClampNeg) &&& 15) = 10 then if zga (v4 + 1) L = true then if zga (v4 + 2) L = true then zbn (fX9_string N (xs (v4 + 1).toNatClampNeg) (xs (v4 + 2).toNatClampNeg) s) (fun x103 s104 => if zga (v4 + 1) L = true then if zga (v4 + 2) L = true then zbn (fX10_string N (xs (v4 + 1).toNatClampNeg) (xs (v4 + 2).toNatClampNeg) s104) (fun x108 s109 => if x103 = x108 then rec (v4 + 6) s109 else some (.inl (0, s109))) else none else none) else none else none else if ((xs v4.toNatClampNeg) &&& 15) = 11 then if zga (v4 + 1) L = true then if zga (v4 + 2) L = true then if zga (v4 + 3) L = true then if zga (v4 + 4) L = true then zbn (fX9_find N ((((xs (v4 + 1).toNatClampNeg).toInt64) <<< ((32 : Int32).toInt64 &&& 63)) ||| (((xs (v4 + 2).toNatClampNeg).toInt64) &&& 4294967295)) ((((xs (v4 + 3).toNatClampNeg).toInt64) <<< ((32 : Int32).toInt64 &&& 63)) ||| (((xs (v4 + 4).toNatClampNeg).toInt64) &&& 4294967295)) s) (fun x115 s116 => if zga (v4 + 1) L = true then if zga (v4 + 2) L = true then if zga (v4 + 3) L = true then if zga (v4 + 4) L = true then zbn (fX10_find N ((((xs (v4 + 1).toNatClampNeg).toInt64) <<< ((32 : Int32).toInt64 &&& 63)) ||| (((xs (v4 + 2).toNatClampNeg).toInt64) &&& 4294967295)) ((((xs (v4 + 3).toNatClampNeg).toInt64) <<< ((32 : Int32).toInt64 &&& 63)) ||| (((xs (v4 + 4).toNatClampNeg).toInt64) &&& 4294967295)) s116) (fun x122 s123 => if x115 = x122 then rec (v4 + 6) s123 else some (.inl (0, s123))) else none else none else none else none) else none else none else none else none else if ((xs v4.toNatClampNeg) &&& 15) = 12 then if zga (v4 + 1) L = true then zbn (fX9_tell N (xs (v4 + 1).toNatClampNeg) s) (fun x126 s127 => if zga (v4 + 1) L = true then zbn (fX10_tell N (xs (v4 + 1).toNatClampNeg) s127) (fun x130 s131 => if x126 = x130 then rec (v4 + 6) s131 else some (.inl (0, s131))) else none) else none else if ((xs v4.toNatClampNeg) &&& 15) = 13 then if zga (v4 + 1) L = true then zbn (fX9_letter N (xs (v4 + 1).toNatClampNeg) s) (fun x134 s135 => if zga (v4 + 1) L = true then zbn (fX10_letter N (xs (v4 + 1).toNatClampNeg) s135) (fun x138 s139 => if x134 = x138 then rec (v4 + 6) s139 else some (.inl (0, s139))) else none) else none else rec (v4 + 6) s else none
noncomputable def fL_law_L23 (N : Nat) (L : Nat) (xs : Nat → Int32) (n : Nat) : Int32 → zS → Option ((Int32 × zS) ⊕ (zS)) := Nat.rec (motive := fun _ => Int32 → zS → Option ((Int32 × zS) ⊕ (zS))) (fun _ _ => none) (fun _ rec => fL_law_L23S N L xs rec) n
set_option maxHeartbeats 400000 in
set_option maxRecDepth 100000 in
theorem tL_law_L23 {g : zGl} (hok : zGok g) (d : Nat) (hd : 426 ≤ d) (N : Nat) (L : Nat) (xs : Nat → Int32) (hsc : ∀ (A : Nat → Prop) (U : State) (H : Heap), g.2.2.2.2 A U H → zScr g.2.2.2.1 L xs A U H) {mc ms n0 : Nat} {Q : zO → List zE → Prop} (n : Nat) : ∀ (v4 : Int32) (s : zS) (cl sl : Nat) (hb1 : cl + n ≤ mc) (hb2 : sl + 6 * n ≤ ms) (r : (Int32 × zS) ⊕ (zS)) (hf : fL_law_L23 N L xs n v4 s = some r) (k1 : ∀ w s', r = .inl (w, s') → Q (.inl (some (.int w))) (zHp s')) (k2 : ∀ (s' : zS) (cl sl : Nat), cl ≤ mc → sl ≤ ms → r = .inr (s') → zW g mL_law d mc ms n0 Q cl sl (zHp s') [some (.ref 1200), some (.ref 0), some (.ref 33), some (.ref 50), none, none, none] [] 670), zW g mL_law d mc ms n0 Q cl sl (zHp s) [some (.ref 1200), some (.ref 0), some (.ref 33), some (.ref 50), some (.int v4), none, none] [] 23 := by
  induction n with
  | zero => intro v4 s cl sl hb1 hb2 r hf; cases hf
  | succ n ih =>
    intro v4 s cl sl hb1 hb2 r hf k1 k2
    have hrec : ∀ (v4 : Int32) (s : zS) (cl sl : Nat) (hb1 : cl + n ≤ mc) (hb2 : sl + 6 * n ≤ ms), fL_law_L23 N L xs n v4 s = some r → zW g mL_law d mc ms n0 Q cl sl (zHp s) [some (.ref 1200), some (.ref 0), some (.ref 33), some (.ref 50), some (.int v4), none, none] [] 23 := fun v4 s cl sl hb1 hb2 h => ih v4 s cl sl hb1 hb2 r h k1 k2
    have hf : fL_law_L23S N L xs (fL_law_L23 N L xs n) v4 s = some r := hf
    unfold fL_law_L23S at hf
    refine z_iload dL_law_23 rfl ?_
    refine z_aload_n dL_law_25 rfl ?_
    refine z_slen hsc dL_law_26 ?_
    refine z_bipush 6 dL_law_27 (by decide +kernel) ?_
    refine z_isub dL_law_29 ?_
    refine z_icmp_gt 670 dL_law_30 (by decide) (fun c30 => ?_) (fun c30 => ?_)
    · have hf := zifp hf c30
      cases hf
      refine z_mask (ls' := [_, _, _, _, _, _, _]) [true, true, true, true, false, false, false] rfl ?_
      exact k2 _ _ _ (by omega) (by omega) rfl
    · have hf := zifn hf c30
      refine z_aload_n dL_law_33 rfl ?_
      refine z_iload dL_law_34 rfl ?_
      obtain ⟨hi1, hf⟩ := zifs hf
      refine z_sld hsc dL_law_36 (zga_in hi1) ?_
      refine z_bipush 15 dL_law_37 (by decide +kernel) ?_
      refine z_iand dL_law_39 ?_
      refine z_tab [(0, 112), (1, 183), (2, 208), (3, 252), (4, 277), (5, 302), (6, 339), (7, 376), (8, 402), (9, 439), (10, 476), (11, 513), (12, 614), (13, 639)] 664 dL_law_40 (by decide +kernel) (by decide +kernel) (by decide +kernel) (by decide +kernel) ?_
      refine z_selc (fun c40_0 => ?_) (fun c40_0 => ?_)
      · have hf := zifp hf c40_0
        refine z_aload_n dL_law_112 rfl ?_
        refine z_aload_n dL_law_113 rfl ?_
        refine z_iload dL_law_114 rfl ?_
        refine z_iconst 1 dL_law_116 (by decide +kernel) ?_
        refine z_iadd dL_law_117 ?_
        obtain ⟨hi2, hf⟩ := zifs hf
        refine z_sld hsc dL_law_118 (zga_in hi2) ?_
        refine z_aload_n dL_law_119 rfl ?_
        refine z_iload dL_law_120 rfl ?_
        refine z_iconst 2 dL_law_122 (by decide +kernel) ?_
        refine z_iadd dL_law_123 ?_
        obtain ⟨hi3, hf⟩ := zifs hf
        refine z_sld hsc dL_law_124 (zga_in hi3) ?_
        refine z_aload_n dL_law_125 rfl ?_
        refine z_iload dL_law_126 rfl ?_
        refine z_iconst 3 dL_law_128 (by decide +kernel) ?_
        refine z_iadd dL_law_129 ?_
        obtain ⟨hi4, hf⟩ := zifs hf
        refine z_sld hsc dL_law_130 (zga_in hi4) ?_
        refine z_aload_n dL_law_131 rfl ?_
        refine z_iload dL_law_132 rfl ?_
        refine z_iconst 4 dL_law_134 (by decide +kernel) ?_
        refine z_iadd dL_law_135 ?_
        obtain ⟨hi5, hf⟩ := zifs hf
        refine z_sld hsc dL_law_136 (zga_in hi5) ?_
        refine z_aload_n dL_law_137 rfl ?_
        refine z_iload dL_law_138 rfl ?_
        refine z_iconst 5 dL_law_140 (by decide +kernel) ?_
        refine z_iadd dL_law_141 ?_
        obtain ⟨hi6, hf⟩ := zifs hf
        refine z_sld hsc dL_law_142 (zga_in hi6) ?_
        obtain ⟨x7, s8, q9, hf⟩ := zbn_of hf
        refine z_cV (as := [_, _, _, _, _]) hok dL_law_143 kL_19 (tX9_feed hok (d - 1) (by omega) N (xs (v4 + 1).toNatClampNeg) (xs (v4 + 2).toNatClampNeg) (xs (v4 + 3).toNatClampNeg) (xs (v4 + 4).toNatClampNeg) (xs (v4 + 5).toNatClampNeg)  q9) rfl (at_UnitText s) rfl rfl (by omega) (Nat.le_of_ble_eq_true rfl) (by omega) (by omega) rfl ?_
        refine z_aload_n dL_law_146 rfl ?_
        refine z_aload_n dL_law_147 rfl ?_
        refine z_iload dL_law_148 rfl ?_
        refine z_iconst 1 dL_law_150 (by decide +kernel) ?_
        refine z_iadd dL_law_151 ?_
        obtain ⟨hi10, hf⟩ := zifs hf
        refine z_sld hsc dL_law_152 (zga_in hi10) ?_
        refine z_aload_n dL_law_153 rfl ?_
        refine z_iload dL_law_154 rfl ?_
        refine z_iconst 2 dL_law_156 (by decide +kernel) ?_
        refine z_iadd dL_law_157 ?_
        obtain ⟨hi11, hf⟩ := zifs hf
        refine z_sld hsc dL_law_158 (zga_in hi11) ?_
        refine z_aload_n dL_law_159 rfl ?_
        refine z_iload dL_law_160 rfl ?_
        refine z_iconst 3 dL_law_162 (by decide +kernel) ?_
        refine z_iadd dL_law_163 ?_
        obtain ⟨hi12, hf⟩ := zifs hf
        refine z_sld hsc dL_law_164 (zga_in hi12) ?_
        refine z_aload_n dL_law_165 rfl ?_
        refine z_iload dL_law_166 rfl ?_
        refine z_iconst 4 dL_law_168 (by decide +kernel) ?_
        refine z_iadd dL_law_169 ?_
        obtain ⟨hi13, hf⟩ := zifs hf
        refine z_sld hsc dL_law_170 (zga_in hi13) ?_
        refine z_aload_n dL_law_171 rfl ?_
        refine z_iload dL_law_172 rfl ?_
        refine z_iconst 5 dL_law_174 (by decide +kernel) ?_
        refine z_iadd dL_law_175 ?_
        obtain ⟨hi14, hf⟩ := zifs hf
        refine z_sld hsc dL_law_176 (zga_in hi14) ?_
        obtain ⟨x15, s16, q17, hf⟩ := zbn_of hf
        refine z_cV (as := [_, _, _, _, _]) hok dL_law_177 kL_23 (tX10_feed hok (d - 1) (by omega) N (xs (v4 + 1).toNatClampNeg) (xs (v4 + 2).toNatClampNeg) (xs (v4 + 3).toNatClampNeg) (xs (v4 + 4).toNatClampNeg) (xs (v4 + 5).toNatClampNeg)  q17) rfl (at_Model s8) rfl rfl (by omega) (Nat.le_of_ble_eq_true rfl) (by omega) (by omega) rfl ?_
        refine z_goto 664 dL_law_180 (by decide) ?_
        refine z_iinc (ls' := [_, _, _, _, _, _, _]) (v4 + 6) dL_law_664 rfl rfl (by decide) rfl ?_
        refine z_goto 23 dL_law_667 (by decide) ?_
        refine z_mask (ls' := [_, _, _, _, _, _, _]) [true, true, true, true, true, false, false] rfl ?_
        exact hrec (v4 + 6) s16 _ _ (by omega) (by omega) hf
      · have hf := zifn hf c40_0
        refine z_selc (fun c40_1 => ?_) (fun c40_1 => ?_)
        · have hf := zifp hf c40_1
          refine z_aload_n dL_law_183 rfl ?_
          refine z_aload_n dL_law_184 rfl ?_
          refine z_iload dL_law_185 rfl ?_
          refine z_iconst 1 dL_law_187 (by decide +kernel) ?_
          refine z_iadd dL_law_188 ?_
          obtain ⟨hi18, hf⟩ := zifs hf
          refine z_sld hsc dL_law_189 (zga_in hi18) ?_
          obtain ⟨x19, s20, q21, hf⟩ := zbn_of hf
          refine z_cV (as := [_]) hok dL_law_190 kL_24 (tX9_end hok (d - 1) (by omega) N (xs (v4 + 1).toNatClampNeg)  q21) rfl (at_UnitText s) rfl rfl (by omega) (Nat.le_of_ble_eq_true rfl) (by omega) (by omega) rfl ?_
          refine z_aload_n dL_law_193 rfl ?_
          refine z_aload_n dL_law_194 rfl ?_
          refine z_iload dL_law_195 rfl ?_
          refine z_iconst 1 dL_law_197 (by decide +kernel) ?_
          refine z_iadd dL_law_198 ?_
          obtain ⟨hi22, hf⟩ := zifs hf
          refine z_sld hsc dL_law_199 (zga_in hi22) ?_
          obtain ⟨x23, s24, q25, hf⟩ := zbn_of hf
          refine z_cV (as := [_]) hok dL_law_200 kL_28 (tX10_end hok (d - 1) N (xs (v4 + 1).toNatClampNeg)  q25) rfl (at_Model s20) rfl rfl (by omega) (Nat.le_of_ble_eq_true rfl) (by omega) (by omega) rfl ?_
          refine z_icmp_eq 664 dL_law_203 (by decide) (fun c203 => ?_) (fun c203 => ?_)
          · have hf := zifp hf c203
            refine z_iinc (ls' := [_, _, _, _, _, _, _]) (v4 + 6) dL_law_664 rfl rfl (by decide) rfl ?_
            refine z_goto 23 dL_law_667 (by decide) ?_
            refine z_mask (ls' := [_, _, _, _, _, _, _]) [true, true, true, true, true, false, false] rfl ?_
            exact hrec (v4 + 6) s24 _ _ (by omega) (by omega) hf
          · have hf := zifn hf c203
            refine z_iconst 0 dL_law_206 (by decide +kernel) ?_
            cases hf
            exact z_zret rfl (by decide) dL_law_207 (by omega) (by omega) (k1 _ _ rfl)
        · have hf := zifn hf c40_1
          refine z_selc (fun c40_2 => ?_) (fun c40_2 => ?_)
          · have hf := zifp hf c40_2
            refine z_aload_n dL_law_208 rfl ?_
            refine z_aload_n dL_law_209 rfl ?_
            obtain ⟨w29, t30, q28, hf⟩ := zbr_of hf
            have hk1 := zk1_le w29
            have hk6 := zk6_le w29
            refine z_cRd hok dL_law_210 rd_w6 q28 (d1 := d - 1) (by omega) (by omega) (Nat.le_of_ble_eq_true rfl) (by omega) (by omega) ?_
            generalize zk1 w29 = ca at hk1 ⊢
            generalize zk6 w29 = cb at hk6 ⊢
            generalize zrk w29 = x26 at hf ⊢
            generalize zrs w29 t30 = s27 at hf ⊢
            refine z_istore (ls' := [_, _, _, _, _, _, _]) dL_law_213 (by decide) rfl ?_
            refine z_aload_n dL_law_215 rfl ?_
            obtain ⟨x31, s32, q33, hf⟩ := zbn_of hf
            refine z_cV (as := []) hok dL_law_216 kL_34 (tX10_read hok (d - 1) (by omega) N   q33) rfl (at_Model s27) rfl rfl (by omega) (Nat.le_of_ble_eq_true rfl) (by omega) (by omega) rfl ?_
            refine z_istore (ls' := [_, _, _, _, _, _, _]) dL_law_219 (by decide) rfl ?_
            refine z_aload_n dL_law_221 rfl ?_
            obtain ⟨x34, s35, q36, hf⟩ := zbn_of hf
            refine z_cV (as := []) hok dL_law_222 kL_35 (tX10_thrown hok (d - 1) N   q36) rfl (at_Model s32) rfl rfl (by omega) (Nat.le_of_ble_eq_true rfl) (by omega) (by omega) rfl ?_
            refine z_iload dL_law_225 rfl ?_
            refine z_icmp_eq 232 dL_law_227 (by decide) (fun c227 => ?_) (fun c227 => ?_)
            · have hf := zifp hf c227
              refine z_iload dL_law_232 rfl ?_
              refine z_if_ne 249 dL_law_234 (by decide) (fun c234 => ?_) (fun c234 => ?_)
              · have hf := zifn hf c234
                refine z_goto 664 dL_law_249 (by decide) ?_
                refine z_iinc (ls' := [_, _, _, _, _, _, _]) (v4 + 6) dL_law_664 rfl rfl (by decide) rfl ?_
                refine z_goto 23 dL_law_667 (by decide) ?_
                refine z_mask (ls' := [_, _, _, _, _, _, _]) [true, true, true, true, true, false, false] rfl ?_
                exact hrec (v4 + 6) s35 _ _ (by omega) (by omega) hf
              · have hf := zifp hf c234
                refine z_aload_n dL_law_237 rfl ?_
                refine z_iconst 0 dL_law_238 (by decide +kernel) ?_
                refine z_lald dL_law_239 (at_long s35) (zga_in (by decide)) ?_
                refine z_iload dL_law_240 rfl ?_
                refine z_i2l dL_law_242 ?_
                refine z_lcmp dL_law_243 ?_
                refine z_if_eq 249 dL_law_244 (by decide) (fun c244 => ?_) (fun c244 => ?_)
                · have hf := zifp hf c244
                  refine z_goto 664 dL_law_249 (by decide) ?_
                  refine z_iinc (ls' := [_, _, _, _, _, _, _]) (v4 + 6) dL_law_664 rfl rfl (by decide) rfl ?_
                  refine z_goto 23 dL_law_667 (by decide) ?_
                  refine z_mask (ls' := [_, _, _, _, _, _, _]) [true, true, true, true, true, false, false] rfl ?_
                  exact hrec (v4 + 6) s35 _ _ (by omega) (by omega) hf
                · have hf := zifn hf c244
                  refine z_iconst 0 dL_law_247 (by decide +kernel) ?_
                  cases hf
                  exact z_zret rfl (by decide) dL_law_248 (by omega) (by omega) (k1 _ _ rfl)
            · have hf := zifn hf c227
              refine z_iconst 0 dL_law_230 (by decide +kernel) ?_
              cases hf
              exact z_zret rfl (by decide) dL_law_231 (by omega) (by omega) (k1 _ _ rfl)
          · have hf := zifn hf c40_2
            refine z_selc (fun c40_3 => ?_) (fun c40_3 => ?_)
            · have hf := zifp hf c40_3
              refine z_aload_n dL_law_252 rfl ?_
              refine z_aload_n dL_law_253 rfl ?_
              refine z_iload dL_law_254 rfl ?_
              refine z_iconst 1 dL_law_256 (by decide +kernel) ?_
              refine z_iadd dL_law_257 ?_
              obtain ⟨hi37, hf⟩ := zifs hf
              refine z_sld hsc dL_law_258 (zga_in hi37) ?_
              obtain ⟨x38, s39, q40, hf⟩ := zbn_of hf
              refine z_cV (as := [_]) hok dL_law_259 kL_38 (tX9_fault hok (d - 1) N (xs (v4 + 1).toNatClampNeg)  q40) rfl (at_UnitText s) rfl rfl (by omega) (Nat.le_of_ble_eq_true rfl) (by omega) (by omega) rfl ?_
              refine z_aload_n dL_law_262 rfl ?_
              refine z_aload_n dL_law_263 rfl ?_
              refine z_iload dL_law_264 rfl ?_
              refine z_iconst 1 dL_law_266 (by decide +kernel) ?_
              refine z_iadd dL_law_267 ?_
              obtain ⟨hi41, hf⟩ := zifs hf
              refine z_sld hsc dL_law_268 (zga_in hi41) ?_
              obtain ⟨x42, s43, q44, hf⟩ := zbn_of hf
              refine z_cV (as := [_]) hok dL_law_269 kL_41 (tX10_fault hok (d - 1) N (xs (v4 + 1).toNatClampNeg)  q44) rfl (at_Model s39) rfl rfl (by omega) (Nat.le_of_ble_eq_true rfl) (by omega) (by omega) rfl ?_
              refine z_icmp_eq 664 dL_law_272 (by decide) (fun c272 => ?_) (fun c272 => ?_)
              · have hf := zifp hf c272
                refine z_iinc (ls' := [_, _, _, _, _, _, _]) (v4 + 6) dL_law_664 rfl rfl (by decide) rfl ?_
                refine z_goto 23 dL_law_667 (by decide) ?_
                refine z_mask (ls' := [_, _, _, _, _, _, _]) [true, true, true, true, true, false, false] rfl ?_
                exact hrec (v4 + 6) s43 _ _ (by omega) (by omega) hf
              · have hf := zifn hf c272
                refine z_iconst 0 dL_law_275 (by decide +kernel) ?_
                cases hf
                exact z_zret rfl (by decide) dL_law_276 (by omega) (by omega) (k1 _ _ rfl)
            · have hf := zifn hf c40_3
              refine z_selc (fun c40_4 => ?_) (fun c40_4 => ?_)
              · have hf := zifp hf c40_4
                refine z_aload_n dL_law_277 rfl ?_
                refine z_aload_n dL_law_278 rfl ?_
                refine z_iload dL_law_279 rfl ?_
                refine z_iconst 1 dL_law_281 (by decide +kernel) ?_
                refine z_iadd dL_law_282 ?_
                obtain ⟨hi45, hf⟩ := zifs hf
                refine z_sld hsc dL_law_283 (zga_in hi45) ?_
                obtain ⟨x46, s47, q48, hf⟩ := zbn_of hf
                refine z_cV (as := [_]) hok dL_law_284 kL_42 (tX9_count hok (d - 1) N (xs (v4 + 1).toNatClampNeg)  q48) rfl (at_UnitText s) rfl rfl (by omega) (Nat.le_of_ble_eq_true rfl) (by omega) (by omega) rfl ?_
                refine z_aload_n dL_law_287 rfl ?_
                refine z_aload_n dL_law_288 rfl ?_
                refine z_iload dL_law_289 rfl ?_
                refine z_iconst 1 dL_law_291 (by decide +kernel) ?_
                refine z_iadd dL_law_292 ?_
                obtain ⟨hi49, hf⟩ := zifs hf
                refine z_sld hsc dL_law_293 (zga_in hi49) ?_
                obtain ⟨x50, s51, q52, hf⟩ := zbn_of hf
                refine z_cV (as := [_]) hok dL_law_294 kL_45 (tX10_count hok (d - 1) N (xs (v4 + 1).toNatClampNeg)  q52) rfl (at_Model s47) rfl rfl (by omega) (Nat.le_of_ble_eq_true rfl) (by omega) (by omega) rfl ?_
                refine z_icmp_eq 664 dL_law_297 (by decide) (fun c297 => ?_) (fun c297 => ?_)
                · have hf := zifp hf c297
                  refine z_iinc (ls' := [_, _, _, _, _, _, _]) (v4 + 6) dL_law_664 rfl rfl (by decide) rfl ?_
                  refine z_goto 23 dL_law_667 (by decide) ?_
                  refine z_mask (ls' := [_, _, _, _, _, _, _]) [true, true, true, true, true, false, false] rfl ?_
                  exact hrec (v4 + 6) s51 _ _ (by omega) (by omega) hf
                · have hf := zifn hf c297
                  refine z_iconst 0 dL_law_300 (by decide +kernel) ?_
                  cases hf
                  exact z_zret rfl (by decide) dL_law_301 (by omega) (by omega) (k1 _ _ rfl)
              · have hf := zifn hf c40_4
                refine z_selc (fun c40_5 => ?_) (fun c40_5 => ?_)
                · have hf := zifp hf c40_5
                  refine z_aload_n dL_law_302 rfl ?_
                  refine z_aload_n dL_law_303 rfl ?_
                  refine z_iload dL_law_304 rfl ?_
                  refine z_iconst 1 dL_law_306 (by decide +kernel) ?_
                  refine z_iadd dL_law_307 ?_
                  obtain ⟨hi53, hf⟩ := zifs hf
                  refine z_sld hsc dL_law_308 (zga_in hi53) ?_
                  refine z_aload_n dL_law_309 rfl ?_
                  refine z_iload dL_law_310 rfl ?_
                  refine z_iconst 2 dL_law_312 (by decide +kernel) ?_
                  refine z_iadd dL_law_313 ?_
                  obtain ⟨hi54, hf⟩ := zifs hf
                  refine z_sld hsc dL_law_314 (zga_in hi54) ?_
                  obtain ⟨x55, s56, q57, hf⟩ := zbn_of hf
                  refine z_cV (as := [_, _]) hok dL_law_315 kL_46 (tX9_statement hok (d - 1) (by omega) N (xs (v4 + 1).toNatClampNeg) (xs (v4 + 2).toNatClampNeg)  q57) rfl (at_UnitText s) rfl rfl (by omega) (Nat.le_of_ble_eq_true rfl) (by omega) (by omega) rfl ?_
                  refine z_aload_n dL_law_318 rfl ?_
                  refine z_aload_n dL_law_319 rfl ?_
                  refine z_iload dL_law_320 rfl ?_
                  refine z_iconst 1 dL_law_322 (by decide +kernel) ?_
                  refine z_iadd dL_law_323 ?_
                  obtain ⟨hi58, hf⟩ := zifs hf
                  refine z_sld hsc dL_law_324 (zga_in hi58) ?_
                  refine z_aload_n dL_law_325 rfl ?_
                  refine z_iload dL_law_326 rfl ?_
                  refine z_iconst 2 dL_law_328 (by decide +kernel) ?_
                  refine z_iadd dL_law_329 ?_
                  obtain ⟨hi59, hf⟩ := zifs hf
                  refine z_sld hsc dL_law_330 (zga_in hi59) ?_
                  obtain ⟨x60, s61, q62, hf⟩ := zbn_of hf
                  refine z_cV (as := [_, _]) hok dL_law_331 kL_50 (tX10_statement hok (d - 1) N (xs (v4 + 1).toNatClampNeg) (xs (v4 + 2).toNatClampNeg)  q62) rfl (at_Model s56) rfl rfl (by omega) (Nat.le_of_ble_eq_true rfl) (by omega) (by omega) rfl ?_
                  refine z_icmp_eq 664 dL_law_334 (by decide) (fun c334 => ?_) (fun c334 => ?_)
                  · have hf := zifp hf c334
                    refine z_iinc (ls' := [_, _, _, _, _, _, _]) (v4 + 6) dL_law_664 rfl rfl (by decide) rfl ?_
                    refine z_goto 23 dL_law_667 (by decide) ?_
                    refine z_mask (ls' := [_, _, _, _, _, _, _]) [true, true, true, true, true, false, false] rfl ?_
                    exact hrec (v4 + 6) s61 _ _ (by omega) (by omega) hf
                  · have hf := zifn hf c334
                    refine z_iconst 0 dL_law_337 (by decide +kernel) ?_
                    cases hf
                    exact z_zret rfl (by decide) dL_law_338 (by omega) (by omega) (k1 _ _ rfl)
                · have hf := zifn hf c40_5
                  refine z_selc (fun c40_6 => ?_) (fun c40_6 => ?_)
                  · have hf := zifp hf c40_6
                    refine z_aload_n dL_law_339 rfl ?_
                    refine z_aload_n dL_law_340 rfl ?_
                    refine z_iload dL_law_341 rfl ?_
                    refine z_iconst 1 dL_law_343 (by decide +kernel) ?_
                    refine z_iadd dL_law_344 ?_
                    obtain ⟨hi63, hf⟩ := zifs hf
                    refine z_sld hsc dL_law_345 (zga_in hi63) ?_
                    refine z_aload_n dL_law_346 rfl ?_
                    refine z_iload dL_law_347 rfl ?_
                    refine z_iconst 2 dL_law_349 (by decide +kernel) ?_
                    refine z_iadd dL_law_350 ?_
                    obtain ⟨hi64, hf⟩ := zifs hf
                    refine z_sld hsc dL_law_351 (zga_in hi64) ?_
                    obtain ⟨x65, s66, q67, hf⟩ := zbn_of hf
                    refine z_cV (as := [_, _]) hok dL_law_352 kL_51 (tX9_operand hok (d - 1) (by omega) N (xs (v4 + 1).toNatClampNeg) (xs (v4 + 2).toNatClampNeg)  q67) rfl (at_UnitText s) rfl rfl (by omega) (Nat.le_of_ble_eq_true rfl) (by omega) (by omega) rfl ?_
                    refine z_aload_n dL_law_355 rfl ?_
                    refine z_aload_n dL_law_356 rfl ?_
                    refine z_iload dL_law_357 rfl ?_
                    refine z_iconst 1 dL_law_359 (by decide +kernel) ?_
                    refine z_iadd dL_law_360 ?_
                    obtain ⟨hi68, hf⟩ := zifs hf
                    refine z_sld hsc dL_law_361 (zga_in hi68) ?_
                    refine z_aload_n dL_law_362 rfl ?_
                    refine z_iload dL_law_363 rfl ?_
                    refine z_iconst 2 dL_law_365 (by decide +kernel) ?_
                    refine z_iadd dL_law_366 ?_
                    obtain ⟨hi69, hf⟩ := zifs hf
                    refine z_sld hsc dL_law_367 (zga_in hi69) ?_
                    obtain ⟨x70, s71, q72, hf⟩ := zbn_of hf
                    refine z_cV (as := [_, _]) hok dL_law_368 kL_54 (tX10_operand hok (d - 1) N (xs (v4 + 1).toNatClampNeg) (xs (v4 + 2).toNatClampNeg)  q72) rfl (at_Model s66) rfl rfl (by omega) (Nat.le_of_ble_eq_true rfl) (by omega) (by omega) rfl ?_
                    refine z_icmp_eq 664 dL_law_371 (by decide) (fun c371 => ?_) (fun c371 => ?_)
                    · have hf := zifp hf c371
                      refine z_iinc (ls' := [_, _, _, _, _, _, _]) (v4 + 6) dL_law_664 rfl rfl (by decide) rfl ?_
                      refine z_goto 23 dL_law_667 (by decide) ?_
                      refine z_mask (ls' := [_, _, _, _, _, _, _]) [true, true, true, true, true, false, false] rfl ?_
                      exact hrec (v4 + 6) s71 _ _ (by omega) (by omega) hf
                    · have hf := zifn hf c371
                      refine z_iconst 0 dL_law_374 (by decide +kernel) ?_
                      cases hf
                      exact z_zret rfl (by decide) dL_law_375 (by omega) (by omega) (k1 _ _ rfl)
                  · have hf := zifn hf c40_6
                    refine z_selc (fun c40_7 => ?_) (fun c40_7 => ?_)
                    · have hf := zifp hf c40_7
                      refine z_aload_n dL_law_376 rfl ?_
                      refine z_aload_n dL_law_377 rfl ?_
                      refine z_iload dL_law_378 rfl ?_
                      refine z_iconst 1 dL_law_380 (by decide +kernel) ?_
                      refine z_iadd dL_law_381 ?_
                      obtain ⟨hi73, hf⟩ := zifs hf
                      refine z_sld hsc dL_law_382 (zga_in hi73) ?_
                      obtain ⟨x74, s75, q76, hf⟩ := zbn_of hf
                      refine z_cV (as := [_]) hok dL_law_383 kL_55 (tX9_constant hok (d - 1) (by omega) N (xs (v4 + 1).toNatClampNeg)  q76) rfl (at_UnitText s) rfl rfl (by omega) (Nat.le_of_ble_eq_true rfl) (by omega) (by omega) rfl ?_
                      refine z_aload_n dL_law_386 rfl ?_
                      refine z_aload_n dL_law_387 rfl ?_
                      refine z_iload dL_law_388 rfl ?_
                      refine z_iconst 1 dL_law_390 (by decide +kernel) ?_
                      refine z_iadd dL_law_391 ?_
                      obtain ⟨hi77, hf⟩ := zifs hf
                      refine z_sld hsc dL_law_392 (zga_in hi77) ?_
                      obtain ⟨x78, s79, q80, hf⟩ := zbn_of hf
                      refine z_cV (as := [_]) hok dL_law_393 kL_59 (tX10_constant hok (d - 1) (by omega) N (xs (v4 + 1).toNatClampNeg)  q80) rfl (at_Model s75) rfl rfl (by omega) (Nat.le_of_ble_eq_true rfl) (by omega) (by omega) rfl ?_
                      refine z_lcmp dL_law_396 ?_
                      refine z_if_eq 664 dL_law_397 (by decide) (fun c397 => ?_) (fun c397 => ?_)
                      · have hf := zifp hf c397
                        refine z_iinc (ls' := [_, _, _, _, _, _, _]) (v4 + 6) dL_law_664 rfl rfl (by decide) rfl ?_
                        refine z_goto 23 dL_law_667 (by decide) ?_
                        refine z_mask (ls' := [_, _, _, _, _, _, _]) [true, true, true, true, true, false, false] rfl ?_
                        exact hrec (v4 + 6) s79 _ _ (by omega) (by omega) hf
                      · have hf := zifn hf c397
                        refine z_iconst 0 dL_law_400 (by decide +kernel) ?_
                        cases hf
                        exact z_zret rfl (by decide) dL_law_401 (by omega) (by omega) (k1 _ _ rfl)
                    · have hf := zifn hf c40_7
                      refine z_selc (fun c40_8 => ?_) (fun c40_8 => ?_)
                      · have hf := zifp hf c40_8
                        refine z_aload_n dL_law_402 rfl ?_
                        refine z_aload_n dL_law_403 rfl ?_
                        refine z_iload dL_law_404 rfl ?_
                        refine z_iconst 1 dL_law_406 (by decide +kernel) ?_
                        refine z_iadd dL_law_407 ?_
                        obtain ⟨hi81, hf⟩ := zifs hf
                        refine z_sld hsc dL_law_408 (zga_in hi81) ?_
                        refine z_aload_n dL_law_409 rfl ?_
                        refine z_iload dL_law_410 rfl ?_
                        refine z_iconst 2 dL_law_412 (by decide +kernel) ?_
                        refine z_iadd dL_law_413 ?_
                        obtain ⟨hi82, hf⟩ := zifs hf
                        refine z_sld hsc dL_law_414 (zga_in hi82) ?_
                        obtain ⟨x83, s84, q85, hf⟩ := zbn_of hf
                        refine z_cV (as := [_, _]) hok dL_law_415 kL_60 (tX9_item hok (d - 1) (by omega) N (xs (v4 + 1).toNatClampNeg) (xs (v4 + 2).toNatClampNeg)  q85) rfl (at_UnitText s) rfl rfl (by omega) (Nat.le_of_ble_eq_true rfl) (by omega) (by omega) rfl ?_
                        refine z_aload_n dL_law_418 rfl ?_
                        refine z_aload_n dL_law_419 rfl ?_
                        refine z_iload dL_law_420 rfl ?_
                        refine z_iconst 1 dL_law_422 (by decide +kernel) ?_
                        refine z_iadd dL_law_423 ?_
                        obtain ⟨hi86, hf⟩ := zifs hf
                        refine z_sld hsc dL_law_424 (zga_in hi86) ?_
                        refine z_aload_n dL_law_425 rfl ?_
                        refine z_iload dL_law_426 rfl ?_
                        refine z_iconst 2 dL_law_428 (by decide +kernel) ?_
                        refine z_iadd dL_law_429 ?_
                        obtain ⟨hi87, hf⟩ := zifs hf
                        refine z_sld hsc dL_law_430 (zga_in hi87) ?_
                        obtain ⟨x88, s89, q90, hf⟩ := zbn_of hf
                        refine z_cV (as := [_, _]) hok dL_law_431 kL_63 (tX10_item hok (d - 1) N (xs (v4 + 1).toNatClampNeg) (xs (v4 + 2).toNatClampNeg)  q90) rfl (at_Model s84) rfl rfl (by omega) (Nat.le_of_ble_eq_true rfl) (by omega) (by omega) rfl ?_
                        refine z_icmp_eq 664 dL_law_434 (by decide) (fun c434 => ?_) (fun c434 => ?_)
                        · have hf := zifp hf c434
                          refine z_iinc (ls' := [_, _, _, _, _, _, _]) (v4 + 6) dL_law_664 rfl rfl (by decide) rfl ?_
                          refine z_goto 23 dL_law_667 (by decide) ?_
                          refine z_mask (ls' := [_, _, _, _, _, _, _]) [true, true, true, true, true, false, false] rfl ?_
                          exact hrec (v4 + 6) s89 _ _ (by omega) (by omega) hf
                        · have hf := zifn hf c434
                          refine z_iconst 0 dL_law_437 (by decide +kernel) ?_
                          cases hf
                          exact z_zret rfl (by decide) dL_law_438 (by omega) (by omega) (k1 _ _ rfl)
                      · have hf := zifn hf c40_8
                        refine z_selc (fun c40_9 => ?_) (fun c40_9 => ?_)
                        · have hf := zifp hf c40_9
                          refine z_aload_n dL_law_439 rfl ?_
                          refine z_aload_n dL_law_440 rfl ?_
                          refine z_iload dL_law_441 rfl ?_
                          refine z_iconst 1 dL_law_443 (by decide +kernel) ?_
                          refine z_iadd dL_law_444 ?_
                          obtain ⟨hi91, hf⟩ := zifs hf
                          refine z_sld hsc dL_law_445 (zga_in hi91) ?_
                          refine z_aload_n dL_law_446 rfl ?_
                          refine z_iload dL_law_447 rfl ?_
                          refine z_iconst 2 dL_law_449 (by decide +kernel) ?_
                          refine z_iadd dL_law_450 ?_
                          obtain ⟨hi92, hf⟩ := zifs hf
                          refine z_sld hsc dL_law_451 (zga_in hi92) ?_
                          obtain ⟨x93, s94, q95, hf⟩ := zbn_of hf
                          refine z_cV (as := [_, _]) hok dL_law_452 kL_64 (tX9_name hok (d - 1) (by omega) N (xs (v4 + 1).toNatClampNeg) (xs (v4 + 2).toNatClampNeg)  q95) rfl (at_UnitText s) rfl rfl (by omega) (Nat.le_of_ble_eq_true rfl) (by omega) (by omega) rfl ?_
                          refine z_aload_n dL_law_455 rfl ?_
                          refine z_aload_n dL_law_456 rfl ?_
                          refine z_iload dL_law_457 rfl ?_
                          refine z_iconst 1 dL_law_459 (by decide +kernel) ?_
                          refine z_iadd dL_law_460 ?_
                          obtain ⟨hi96, hf⟩ := zifs hf
                          refine z_sld hsc dL_law_461 (zga_in hi96) ?_
                          refine z_aload_n dL_law_462 rfl ?_
                          refine z_iload dL_law_463 rfl ?_
                          refine z_iconst 2 dL_law_465 (by decide +kernel) ?_
                          refine z_iadd dL_law_466 ?_
                          obtain ⟨hi97, hf⟩ := zifs hf
                          refine z_sld hsc dL_law_467 (zga_in hi97) ?_
                          obtain ⟨x98, s99, q100, hf⟩ := zbn_of hf
                          refine z_cV (as := [_, _]) hok dL_law_468 kL_67 (tX10_name hok (d - 1) N (xs (v4 + 1).toNatClampNeg) (xs (v4 + 2).toNatClampNeg)  q100) rfl (at_Model s94) rfl rfl (by omega) (Nat.le_of_ble_eq_true rfl) (by omega) (by omega) rfl ?_
                          refine z_icmp_eq 664 dL_law_471 (by decide) (fun c471 => ?_) (fun c471 => ?_)
                          · have hf := zifp hf c471
                            refine z_iinc (ls' := [_, _, _, _, _, _, _]) (v4 + 6) dL_law_664 rfl rfl (by decide) rfl ?_
                            refine z_goto 23 dL_law_667 (by decide) ?_
                            refine z_mask (ls' := [_, _, _, _, _, _, _]) [true, true, true, true, true, false, false] rfl ?_
                            exact hrec (v4 + 6) s99 _ _ (by omega) (by omega) hf
                          · have hf := zifn hf c471
                            refine z_iconst 0 dL_law_474 (by decide +kernel) ?_
                            cases hf
                            exact z_zret rfl (by decide) dL_law_475 (by omega) (by omega) (k1 _ _ rfl)
                        · have hf := zifn hf c40_9
                          refine z_selc (fun c40_10 => ?_) (fun c40_10 => ?_)
                          · have hf := zifp hf c40_10
                            refine z_aload_n dL_law_476 rfl ?_
                            refine z_aload_n dL_law_477 rfl ?_
                            refine z_iload dL_law_478 rfl ?_
                            refine z_iconst 1 dL_law_480 (by decide +kernel) ?_
                            refine z_iadd dL_law_481 ?_
                            obtain ⟨hi101, hf⟩ := zifs hf
                            refine z_sld hsc dL_law_482 (zga_in hi101) ?_
                            refine z_aload_n dL_law_483 rfl ?_
                            refine z_iload dL_law_484 rfl ?_
                            refine z_iconst 2 dL_law_486 (by decide +kernel) ?_
                            refine z_iadd dL_law_487 ?_
                            obtain ⟨hi102, hf⟩ := zifs hf
                            refine z_sld hsc dL_law_488 (zga_in hi102) ?_
                            obtain ⟨x103, s104, q105, hf⟩ := zbn_of hf
                            refine z_cV (as := [_, _]) hok dL_law_489 kL_68 (tX9_string hok (d - 1) (by omega) N (xs (v4 + 1).toNatClampNeg) (xs (v4 + 2).toNatClampNeg)  q105) rfl (at_UnitText s) rfl rfl (by omega) (Nat.le_of_ble_eq_true rfl) (by omega) (by omega) rfl ?_
                            refine z_aload_n dL_law_492 rfl ?_
                            refine z_aload_n dL_law_493 rfl ?_
                            refine z_iload dL_law_494 rfl ?_
                            refine z_iconst 1 dL_law_496 (by decide +kernel) ?_
                            refine z_iadd dL_law_497 ?_
                            obtain ⟨hi106, hf⟩ := zifs hf
                            refine z_sld hsc dL_law_498 (zga_in hi106) ?_
                            refine z_aload_n dL_law_499 rfl ?_
                            refine z_iload dL_law_500 rfl ?_
                            refine z_iconst 2 dL_law_502 (by decide +kernel) ?_
                            refine z_iadd dL_law_503 ?_
                            obtain ⟨hi107, hf⟩ := zifs hf
                            refine z_sld hsc dL_law_504 (zga_in hi107) ?_
                            obtain ⟨x108, s109, q110, hf⟩ := zbn_of hf
                            refine z_cV (as := [_, _]) hok dL_law_505 kL_71 (tX10_string hok (d - 1) N (xs (v4 + 1).toNatClampNeg) (xs (v4 + 2).toNatClampNeg)  q110) rfl (at_Model s104) rfl rfl (by omega) (Nat.le_of_ble_eq_true rfl) (by omega) (by omega) rfl ?_
                            refine z_icmp_eq 664 dL_law_508 (by decide) (fun c508 => ?_) (fun c508 => ?_)
                            · have hf := zifp hf c508
                              refine z_iinc (ls' := [_, _, _, _, _, _, _]) (v4 + 6) dL_law_664 rfl rfl (by decide) rfl ?_
                              refine z_goto 23 dL_law_667 (by decide) ?_
                              refine z_mask (ls' := [_, _, _, _, _, _, _]) [true, true, true, true, true, false, false] rfl ?_
                              exact hrec (v4 + 6) s109 _ _ (by omega) (by omega) hf
                            · have hf := zifn hf c508
                              refine z_iconst 0 dL_law_511 (by decide +kernel) ?_
                              cases hf
                              exact z_zret rfl (by decide) dL_law_512 (by omega) (by omega) (k1 _ _ rfl)
                          · have hf := zifn hf c40_10
                            refine z_selc (fun c40_11 => ?_) (fun c40_11 => ?_)
                            · have hf := zifp hf c40_11
                              refine z_aload_n dL_law_513 rfl ?_
                              refine z_aload_n dL_law_514 rfl ?_
                              refine z_iload dL_law_515 rfl ?_
                              refine z_iconst 1 dL_law_517 (by decide +kernel) ?_
                              refine z_iadd dL_law_518 ?_
                              obtain ⟨hi111, hf⟩ := zifs hf
                              refine z_sld hsc dL_law_519 (zga_in hi111) ?_
                              refine z_i2l dL_law_520 ?_
                              refine z_bipush 32 dL_law_521 (by decide +kernel) ?_
                              refine z_lshl dL_law_523 ?_
                              refine z_aload_n dL_law_524 rfl ?_
                              refine z_iload dL_law_525 rfl ?_
                              refine z_iconst 2 dL_law_527 (by decide +kernel) ?_
                              refine z_iadd dL_law_528 ?_
                              obtain ⟨hi112, hf⟩ := zifs hf
                              refine z_sld hsc dL_law_529 (zga_in hi112) ?_
                              refine z_i2l dL_law_530 ?_
                              refine z_ldc2 dL_law_531 lL_72 ?_
                              refine z_land dL_law_534 ?_
                              refine z_lor dL_law_535 ?_
                              refine z_aload_n dL_law_536 rfl ?_
                              refine z_iload dL_law_537 rfl ?_
                              refine z_iconst 3 dL_law_539 (by decide +kernel) ?_
                              refine z_iadd dL_law_540 ?_
                              obtain ⟨hi113, hf⟩ := zifs hf
                              refine z_sld hsc dL_law_541 (zga_in hi113) ?_
                              refine z_i2l dL_law_542 ?_
                              refine z_bipush 32 dL_law_543 (by decide +kernel) ?_
                              refine z_lshl dL_law_545 ?_
                              refine z_aload_n dL_law_546 rfl ?_
                              refine z_iload dL_law_547 rfl ?_
                              refine z_iconst 4 dL_law_549 (by decide +kernel) ?_
                              refine z_iadd dL_law_550 ?_
                              obtain ⟨hi114, hf⟩ := zifs hf
                              refine z_sld hsc dL_law_551 (zga_in hi114) ?_
                              refine z_i2l dL_law_552 ?_
                              refine z_ldc2 dL_law_553 lL_72 ?_
                              refine z_land dL_law_556 ?_
                              refine z_lor dL_law_557 ?_
                              obtain ⟨x115, s116, q117, hf⟩ := zbn_of hf
                              refine z_cV (as := [_, _]) hok dL_law_558 kL_74 (tX9_find hok (d - 1) (by omega) N ((((xs (v4 + 1).toNatClampNeg).toInt64) <<< ((32 : Int32).toInt64 &&& 63)) ||| (((xs (v4 + 2).toNatClampNeg).toInt64) &&& 4294967295)) ((((xs (v4 + 3).toNatClampNeg).toInt64) <<< ((32 : Int32).toInt64 &&& 63)) ||| (((xs (v4 + 4).toNatClampNeg).toInt64) &&& 4294967295))  q117) rfl (at_UnitText s) rfl rfl (by omega) (Nat.le_of_ble_eq_true rfl) (by omega) (by omega) rfl ?_
                              refine z_aload_n dL_law_561 rfl ?_
                              refine z_aload_n dL_law_562 rfl ?_
                              refine z_iload dL_law_563 rfl ?_
                              refine z_iconst 1 dL_law_565 (by decide +kernel) ?_
                              refine z_iadd dL_law_566 ?_
                              obtain ⟨hi118, hf⟩ := zifs hf
                              refine z_sld hsc dL_law_567 (zga_in hi118) ?_
                              refine z_i2l dL_law_568 ?_
                              refine z_bipush 32 dL_law_569 (by decide +kernel) ?_
                              refine z_lshl dL_law_571 ?_
                              refine z_aload_n dL_law_572 rfl ?_
                              refine z_iload dL_law_573 rfl ?_
                              refine z_iconst 2 dL_law_575 (by decide +kernel) ?_
                              refine z_iadd dL_law_576 ?_
                              obtain ⟨hi119, hf⟩ := zifs hf
                              refine z_sld hsc dL_law_577 (zga_in hi119) ?_
                              refine z_i2l dL_law_578 ?_
                              refine z_ldc2 dL_law_579 lL_72 ?_
                              refine z_land dL_law_582 ?_
                              refine z_lor dL_law_583 ?_
                              refine z_aload_n dL_law_584 rfl ?_
                              refine z_iload dL_law_585 rfl ?_
                              refine z_iconst 3 dL_law_587 (by decide +kernel) ?_
                              refine z_iadd dL_law_588 ?_
                              obtain ⟨hi120, hf⟩ := zifs hf
                              refine z_sld hsc dL_law_589 (zga_in hi120) ?_
                              refine z_i2l dL_law_590 ?_
                              refine z_bipush 32 dL_law_591 (by decide +kernel) ?_
                              refine z_lshl dL_law_593 ?_
                              refine z_aload_n dL_law_594 rfl ?_
                              refine z_iload dL_law_595 rfl ?_
                              refine z_iconst 4 dL_law_597 (by decide +kernel) ?_
                              refine z_iadd dL_law_598 ?_
                              obtain ⟨hi121, hf⟩ := zifs hf
                              refine z_sld hsc dL_law_599 (zga_in hi121) ?_
                              refine z_i2l dL_law_600 ?_
                              refine z_ldc2 dL_law_601 lL_72 ?_
                              refine z_land dL_law_604 ?_
                              refine z_lor dL_law_605 ?_
                              obtain ⟨x122, s123, q124, hf⟩ := zbn_of hf
                              refine z_cV (as := [_, _]) hok dL_law_606 kL_78 (tX10_find hok (d - 1) N ((((xs (v4 + 1).toNatClampNeg).toInt64) <<< ((32 : Int32).toInt64 &&& 63)) ||| (((xs (v4 + 2).toNatClampNeg).toInt64) &&& 4294967295)) ((((xs (v4 + 3).toNatClampNeg).toInt64) <<< ((32 : Int32).toInt64 &&& 63)) ||| (((xs (v4 + 4).toNatClampNeg).toInt64) &&& 4294967295))  q124) rfl (at_Model s116) rfl rfl (by omega) (Nat.le_of_ble_eq_true rfl) (by omega) (by omega) rfl ?_
                              refine z_icmp_eq 664 dL_law_609 (by decide) (fun c609 => ?_) (fun c609 => ?_)
                              · have hf := zifp hf c609
                                refine z_iinc (ls' := [_, _, _, _, _, _, _]) (v4 + 6) dL_law_664 rfl rfl (by decide) rfl ?_
                                refine z_goto 23 dL_law_667 (by decide) ?_
                                refine z_mask (ls' := [_, _, _, _, _, _, _]) [true, true, true, true, true, false, false] rfl ?_
                                exact hrec (v4 + 6) s123 _ _ (by omega) (by omega) hf
                              · have hf := zifn hf c609
                                refine z_iconst 0 dL_law_612 (by decide +kernel) ?_
                                cases hf
                                exact z_zret rfl (by decide) dL_law_613 (by omega) (by omega) (k1 _ _ rfl)
                            · have hf := zifn hf c40_11
                              refine z_selc (fun c40_12 => ?_) (fun c40_12 => ?_)
                              · have hf := zifp hf c40_12
                                refine z_aload_n dL_law_614 rfl ?_
                                refine z_aload_n dL_law_615 rfl ?_
                                refine z_iload dL_law_616 rfl ?_
                                refine z_iconst 1 dL_law_618 (by decide +kernel) ?_
                                refine z_iadd dL_law_619 ?_
                                obtain ⟨hi125, hf⟩ := zifs hf
                                refine z_sld hsc dL_law_620 (zga_in hi125) ?_
                                obtain ⟨x126, s127, q128, hf⟩ := zbn_of hf
                                refine z_cV (as := [_]) hok dL_law_621 kL_79 (tX9_tell hok (d - 1) (by omega) N (xs (v4 + 1).toNatClampNeg)  q128) rfl (at_UnitText s) rfl rfl (by omega) (Nat.le_of_ble_eq_true rfl) (by omega) (by omega) rfl ?_
                                refine z_aload_n dL_law_624 rfl ?_
                                refine z_aload_n dL_law_625 rfl ?_
                                refine z_iload dL_law_626 rfl ?_
                                refine z_iconst 1 dL_law_628 (by decide +kernel) ?_
                                refine z_iadd dL_law_629 ?_
                                obtain ⟨hi129, hf⟩ := zifs hf
                                refine z_sld hsc dL_law_630 (zga_in hi129) ?_
                                obtain ⟨x130, s131, q132, hf⟩ := zbn_of hf
                                refine z_cV (as := [_]) hok dL_law_631 kL_82 (tX10_tell hok (d - 1) (by omega) N (xs (v4 + 1).toNatClampNeg)  q132) rfl (at_Model s127) rfl rfl (by omega) (Nat.le_of_ble_eq_true rfl) (by omega) (by omega) rfl ?_
                                refine z_icmp_eq 664 dL_law_634 (by decide) (fun c634 => ?_) (fun c634 => ?_)
                                · have hf := zifp hf c634
                                  refine z_iinc (ls' := [_, _, _, _, _, _, _]) (v4 + 6) dL_law_664 rfl rfl (by decide) rfl ?_
                                  refine z_goto 23 dL_law_667 (by decide) ?_
                                  refine z_mask (ls' := [_, _, _, _, _, _, _]) [true, true, true, true, true, false, false] rfl ?_
                                  exact hrec (v4 + 6) s131 _ _ (by omega) (by omega) hf
                                · have hf := zifn hf c634
                                  refine z_iconst 0 dL_law_637 (by decide +kernel) ?_
                                  cases hf
                                  exact z_zret rfl (by decide) dL_law_638 (by omega) (by omega) (k1 _ _ rfl)
                              · have hf := zifn hf c40_12
                                refine z_selc (fun c40_13 => ?_) (fun c40_13 => ?_)
                                · have hf := zifp hf c40_13
                                  refine z_aload_n dL_law_639 rfl ?_
                                  refine z_aload_n dL_law_640 rfl ?_
                                  refine z_iload dL_law_641 rfl ?_
                                  refine z_iconst 1 dL_law_643 (by decide +kernel) ?_
                                  refine z_iadd dL_law_644 ?_
                                  obtain ⟨hi133, hf⟩ := zifs hf
                                  refine z_sld hsc dL_law_645 (zga_in hi133) ?_
                                  obtain ⟨x134, s135, q136, hf⟩ := zbn_of hf
                                  refine z_cV (as := [_]) hok dL_law_646 kL_83 (tX9_letter hok (d - 1) (by omega) N (xs (v4 + 1).toNatClampNeg)  q136) rfl (at_UnitText s) rfl rfl (by omega) (Nat.le_of_ble_eq_true rfl) (by omega) (by omega) rfl ?_
                                  refine z_aload_n dL_law_649 rfl ?_
                                  refine z_aload_n dL_law_650 rfl ?_
                                  refine z_iload dL_law_651 rfl ?_
                                  refine z_iconst 1 dL_law_653 (by decide +kernel) ?_
                                  refine z_iadd dL_law_654 ?_
                                  obtain ⟨hi137, hf⟩ := zifs hf
                                  refine z_sld hsc dL_law_655 (zga_in hi137) ?_
                                  obtain ⟨x138, s139, q140, hf⟩ := zbn_of hf
                                  refine z_cV (as := [_]) hok dL_law_656 kL_86 (tX10_letter hok (d - 1) N (xs (v4 + 1).toNatClampNeg)  q140) rfl (at_Model s135) rfl rfl (by omega) (Nat.le_of_ble_eq_true rfl) (by omega) (by omega) rfl ?_
                                  refine z_icmp_eq 664 dL_law_659 (by decide) (fun c659 => ?_) (fun c659 => ?_)
                                  · have hf := zifp hf c659
                                    refine z_iinc (ls' := [_, _, _, _, _, _, _]) (v4 + 6) dL_law_664 rfl rfl (by decide) rfl ?_
                                    refine z_goto 23 dL_law_667 (by decide) ?_
                                    refine z_mask (ls' := [_, _, _, _, _, _, _]) [true, true, true, true, true, false, false] rfl ?_
                                    exact hrec (v4 + 6) s139 _ _ (by omega) (by omega) hf
                                  · have hf := zifn hf c659
                                    refine z_iconst 0 dL_law_662 (by decide +kernel) ?_
                                    cases hf
                                    exact z_zret rfl (by decide) dL_law_663 (by omega) (by omega) (k1 _ _ rfl)
                                · have hf := zifn hf c40_13
                                  refine z_seln ?_
                                  refine z_iinc (ls' := [_, _, _, _, _, _, _]) (v4 + 6) dL_law_664 rfl rfl (by decide) rfl ?_
                                  refine z_goto 23 dL_law_667 (by decide) ?_
                                  refine z_mask (ls' := [_, _, _, _, _, _, _]) [true, true, true, true, true, false, false] rfl ?_
                                  exact hrec (v4 + 6) s _ _ (by omega) (by omega) hf
