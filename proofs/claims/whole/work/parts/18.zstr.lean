theorem zKn_s {sa : Nat → Nat} {A : Nat → Prop} {U : State} {H : Heap} (h : zKn sa A U H) {i : Nat} (hi : i < 23) : va_O "java/lang/String" (sa i) A U H ∧ va_OF "java/lang/String" "coder" "B" (.int 0) (sa i) A U H ∧ va_OF "java/lang/String" "value" "[B" (.ref (sa (300 + i))) (sa i) A U H ∧ va_T .byte (sa (300 + i)) (zsl.getD i 0) (fun j => .int ((zsb.getD i []).getD j 0)) A U H := by
  obtain ⟨h1, h2, h3, h4⟩ := (h.1 i hi).1 0 Nat.one_pos
  exact ⟨h1, h2, h3, h4⟩
theorem zKn_r {sa : Nat → Nat} {A : Nat → Prop} {s : State} {H : Heap} {locs : List Loc} (h : zKn sa A s s.heap) {i : Nat} (hi : i < 23) (hS : va_S A s.heap H locs) : ∃ cell : Cell, H[sa i]? = some cell ∧ cell.vm.isStatics = false ∧ s.vm.findClass "java/lang/String" = some cell.cls := by
  obtain ⟨cell, h1, h2, h3⟩ := vk_recv (h.1 i hi) (i := 0) Nat.one_pos hS
  exact ⟨cell, h1, h2, h3⟩
def zsk (q : Nat) : Bool := decide (1000 ≤ q) && decide (q < 1023)
def zbk (q : Nat) : Bool := decide (1300 ≤ q) && decide (q < 1323)
def zbl_ (b : Nat) : Nat := zsl.getD (b - 1300) 0
def zbv (b j : Nat) : Int32 := (zsb.getD (b - 1300) []).getD j 0
def zfa (sa : Nat → Nat) : Value := if sa 151 = 0 then .null else .ref 1150
theorem zfa_c {sa ad : Nat → Nat} (h : ∀ i, ad (1000 + i) = sa i) : zc ad (zfa sa) = zfm sa := by
  unfold zfa zfm
  split
  · rfl
  · exact congrArg Value.ref (h 150)
theorem zsk_i {q : Nat} (h : zsk q = true) : q - 1000 < 23 ∧ q = 1000 + (q - 1000) := by
  unfold zsk at h
  simp only [Bool.and_eq_true, decide_eq_true_eq] at h
  omega
theorem zbk_i {q : Nat} (h : zbk q = true) : q - 1300 < 23 ∧ q = 1000 + (300 + (q - 1300)) := by
  unfold zbk at h
  simp only [Bool.and_eq_true, decide_eq_true_eq] at h
  omega
/-- .. of a class that has natives of its own -/
theorem zMet.ofWF {g : zGl} {M : zMd} {d mc ms : Nat} {as : List Value} {h : List zE} {Q : zO → List zE → Prop} (hy : plainFor M.1 = true) (hl : (zar as).length ≤ M.2.2.1)
    (k : zW g M d mc ms h.length Q 0 0 h (zen M.2.2.1 as) [] 0) : zMet g M d mc ms as h Q := by
  intro hh ad sz hsa
  refine MetFree.of_bodySF (code := M.2.1) (maxLocals := M.2.2.1) (ret := M.2.2.2) hy ?_ ?_
  · intro args s m h hn
    obtain ⟨meth, c, h1, h2, h3, h4, h5, h6, -, -⟩ := Cond.code_spec hn (atoms_spec (ws := Cond.code M.1 M.2.1 M.2.2.1 M.2.2.2 :: zT) h _ List.mem_cons_self)
    exact ⟨meth, c, h1, h2, h3, h4, h5, h6⟩
  · intro p e s m args below meth c s₁ B hml hv _
    have hh0 : s₁.heap = s.heap := by rw [B.state]; rfl
    have htab : ∀ x ∈ c.exceptionTable.toList, False := by
      obtain ⟨meth9, c9, h1, h2, -, -, -, -, h7, -⟩ := Cond.code_spec B.named (atoms_spec (ws := Cond.code M.1 M.2.1 M.2.2.1 M.2.2.2 :: zT) B.pre _ List.mem_cons_self)
      cases Option.some.inj (h1.symm.trans B.method)
      cases Option.some.inj (h2.symm.trans (Stand.of_body B).code)
      intro x hx
      rw [Array.isEmpty_iff.mp h7] at hx
      cases hx
    obtain ⟨rfl, hsz, hP, hK, hD, hG⟩ := hv
    subst hsz
    have hts0 := atoms_spec (ws := Cond.code M.1 M.2.1 M.2.2.1 M.2.2.2 :: zT) B.pre
    have K := k p e (zRm d mc ms) s m (as.map (zc ad)).toArray below meth c s.heap [] (va_A (zH g.2.2.1 ad h) s.heap.size) ad ad _
      ⟨B.exec, B.bytes, hml, B.returns, B.notSynchronized, findClass_of_methodNamed B.named, fun w hw => hts0 w (List.mem_cons_of_mem _ hw), htab, (name_of_methodNamed B.named B.method).1, hK⟩
      ⟨Nat.le_refl _, Nat.le_refl _, Nat.le_refl _, Nat.le_refl _⟩ ⟨hP, hD, va_S.rf, fun q hq => Or.inr hq, hG, hsa, hh⟩ (fun _ _ => rfl) (Nat.le_refl _) (zLo_en hl)
    rw [lg_entry_eq]
    obtain ⟨t, a1, o, b1, b2, b3⟩ := K s₁ hh0 (Stand.of_body B)
    exact ⟨t, o, a1, b1, b2, b3⟩
section ZR
variable {g : zGl} {M : zMd} {d mc ms n0 cells slots pc : Nat} {Q : zO → List zE → Prop} {h : List zE} {ls ls' : List (Option Value)} {st : List Value}
theorem z_i2c {x : Int32} (hd : decode M.2.1 pc = .ok (.i2c, 1)) (k : zW g M d mc ms n0 Q cells slots (h) ls (.int ((x.toUInt32 % 65536).toInt32) :: st) (pc + 1)) : zW g M d mc ms n0 Q cells slots (h) ls (.int x :: st) (pc) := by
  intro p e R s m args below meth c H locs A ad ad0 cls F Ro S E hn L
  exact lv_i2c F.1 F.2.1 hd rfl (k p e R s m args below meth c H locs A ad ad0 cls F Ro S E hn L)
theorem z_ldcS {idx : Nat} {tx : String} (i : Nat) (hok : zGok g) (hd : decode M.2.1 pc = .ok (.ldc idx, 2)) (hi : zso[i]? = some (M.1.cls, idx, tx)) (k : zW g M d mc ms n0 Q cells slots (h) ls (.ref (1000 + i) :: st) (pc + 2)) : zW g M d mc ms n0 Q cells slots (h) ls (st) (pc) := by
  intro p e R s m args below meth c H locs A ad ad0 cls F Ro S E hn L
  have K := k p e R s m args below meth c H locs A ad ad0 cls F Ro S E hn L
  have eA : (.ref (1000 + i) :: st : List Value).map (zc ad) = .ref (g.2.2.2.1 i) :: st.map (zc ad) := congrArg (fun x => Value.ref x :: st.map (zc ad)) (S.2.2.2.2.2.1 i)
  rw [eA] at K
  exact va_ldcS F.1 F.2.1 F.2.2.2.2.2.1 ((hok.2.2.2.2.1 _ _ _ S.2.2.2.2.1).2.1 i _ hi) hd K
theorem z_lev {idx : Nat} (hok : zGok g) (hd : decode M.2.1 pc = .ok (.getstatic idx, 3)) (hw : Cond.fieldLink M.1.cls idx "UnitText$Items" "LEVELS" "[I" ∈ zT) (k : zW g M d mc ms n0 Q cells slots (h) ls (.ref 1100 :: st) (pc + 3)) : zW g M d mc ms n0 Q cells slots (h) ls (st) (pc) := by
  intro p e R s m args below meth c H locs A ad ad0 cls F Ro S E hn L
  have K := k p e R s m args below meth c H locs A ad ad0 cls F Ro S E hn L
  have eA : (.ref 1100 :: st : List Value).map (zc ad) = .ref (g.2.2.2.1 100) :: st.map (zc ad) := congrArg (fun x => Value.ref x :: st.map (zc ad)) (S.2.2.2.2.2.1 100)
  rw [eA] at K
  exact va_gets F.1 F.2.1 (hok.2.2.2.2.1 _ _ _ S.2.2.2.2.1).2.2.1 S.2.2.1 F.2.2.2.2.2.1 (F.2.2.2.2.2.2.1 _ hw) (fun _ h => h) hd K
theorem z_levlen (hok : zGok g) (hd : decode M.2.1 pc = .ok (.arraylength, 1)) (k : zW g M d mc ms n0 Q cells slots (h) ls (.int 10 :: st) (pc + 1)) : zW g M d mc ms n0 Q cells slots (h) ls (.ref 1100 :: st) (pc) := by
  intro p e R s m args below meth c H locs A ad ad0 cls F Ro S E hn L
  have eA : (.ref 1100 :: st : List Value).map (zc ad) = .ref (g.2.2.2.1 100) :: st.map (zc ad) := congrArg (fun x => Value.ref x :: st.map (zc ad)) (S.2.2.2.2.2.1 100)
  rw [eA]
  exact va_tlen F.1 F.2.1 (hok.2.2.2.2.1 _ _ _ S.2.2.2.2.1).2.2.2.1 S.2.2.1 (by decide) hd (k p e R s m args below meth c H locs A ad ad0 cls F Ro S E hn L)
theorem z_levld {i : Int32} (hok : zGok g) (hd : decode M.2.1 pc = .ok (.iaload, 1)) (hi : vp_in i 10) (k : zW g M d mc ms n0 Q cells slots (h) ls (.int (zlev i.toNatClampNeg) :: st) (pc + 1)) : zW g M d mc ms n0 Q cells slots (h) ls (.int i :: .ref 1100 :: st) (pc) := by
  intro p e R s m args below meth c H locs A ad ad0 cls F Ro S E hn L
  have eA : (.int i :: .ref 1100 :: st : List Value).map (zc ad) = .int i :: .ref (g.2.2.2.1 100) :: st.map (zc ad) := congrArg (fun x => Value.int i :: Value.ref x :: st.map (zc ad)) (S.2.2.2.2.2.1 100)
  rw [eA]
  exact va_ti F.1 F.2.1 (hok.2.2.2.2.1 _ _ _ S.2.2.2.2.1).2.2.2.1 S.2.2.1 hi rfl hd (k p e R s m args below meth c H locs A ad ad0 cls F Ro S E hn L)
theorem z_gcs {idx : Nat} (hok : zGok g) (hd : decode M.2.1 pc = .ok (.getstatic idx, 3)) (hw : Cond.fieldLink M.1.cls idx "java/lang/String" "COMPACT_STRINGS" "Z" ∈ zT) (k : zW g M d mc ms n0 Q cells slots (h) ls (.int 1 :: st) (pc + 3)) : zW g M d mc ms n0 Q cells slots (h) ls (st) (pc) := by
  intro p e R s m args below meth c H locs A ad ad0 cls F Ro S E hn L
  exact va_gets F.1 F.2.1 (hok.2.2.2.2.1 _ _ _ S.2.2.2.2.1).2.2.2.2.1 S.2.2.1 F.2.2.2.2.2.1 (F.2.2.2.2.2.2.1 _ hw) (fun _ h => h) hd (k p e R s m args below meth c H locs A ad ad0 cls F Ro S E hn L)
theorem z_gfm {idx : Nat} (hok : zGok g) (hd : decode M.2.1 pc = .ok (.getstatic idx, 3)) (hw : Cond.fieldLink M.1.cls idx "jdk/internal/util/Preconditions" "SIOOBE_FORMATTER" "Ljava/util/function/BiFunction;" ∈ zT) (k : zW g M d mc ms n0 Q cells slots (h) ls (zfa g.2.2.2.1 :: st) (pc + 3)) : zW g M d mc ms n0 Q cells slots (h) ls (st) (pc) := by
  intro p e R s m args below meth c H locs A ad ad0 cls F Ro S E hn L
  have K := k p e R s m args below meth c H locs A ad ad0 cls F Ro S E hn L
  rw [List.map_cons, zfa_c S.2.2.2.2.2.1] at K
  exact va_gets F.1 F.2.1 (hok.2.2.2.2.1 _ _ _ S.2.2.2.2.1).2.2.2.2.2.1 S.2.2.1 F.2.2.2.2.2.1 (F.2.2.2.2.2.2.1 _ hw) (fun _ h => h) hd K
theorem z_sval {idx q : Nat} (hok : zGok g) (hd : decode M.2.1 pc = .ok (.getfield idx, 3)) (hw : Cond.fieldLink M.1.cls idx "java/lang/String" "value" "[B" ∈ zT) (hq : zsk q = true) (k : zW g M d mc ms n0 Q cells slots (h) ls (.ref (q + 300) :: st) (pc + 3)) : zW g M d mc ms n0 Q cells slots (h) ls (.ref q :: st) (pc) := by
  intro p e R s m args below meth c H locs A ad ad0 cls F Ro S E hn L
  obtain ⟨h1, h2⟩ := zsk_i hq
  have K := k p e R s m args below meth c H locs A ad ad0 cls F Ro S E hn L
  have e1 : ad q = g.2.2.2.1 (q - 1000) := (congrArg ad h2).trans (S.2.2.2.2.2.1 _)
  have e2 : ad (q + 300) = g.2.2.2.1 (300 + (q - 1000)) := (congrArg ad (by omega : q + 300 = 1000 + (300 + (q - 1000)))).trans (S.2.2.2.2.2.1 _)
  have e3 : (.ref (q + 300) :: st : List Value).map (zc ad) = .ref (g.2.2.2.1 (300 + (q - 1000))) :: st.map (zc ad) := congrArg (fun x => Value.ref x :: st.map (zc ad)) e2
  have e4 : (.ref q :: st : List Value).map (zc ad) = .ref (g.2.2.2.1 (q - 1000)) :: st.map (zc ad) := congrArg (fun x => Value.ref x :: st.map (zc ad)) e1
  rw [e3] at K
  rw [e4]
  exact vk_getf F.1 F.2.1 (zKn_s (hok.2.2.2.2.1 _ _ _ S.2.2.2.2.1) h1).2.2.1 S.2.2.1 F.2.2.2.2.2.1 (F.2.2.2.2.2.2.1 _ hw) (fun _ h => h) hd K
theorem z_scod {idx q : Nat} (hok : zGok g) (hd : decode M.2.1 pc = .ok (.getfield idx, 3)) (hw : Cond.fieldLink M.1.cls idx "java/lang/String" "coder" "B" ∈ zT) (hq : zsk q = true) (k : zW g M d mc ms n0 Q cells slots (h) ls (.int 0 :: st) (pc + 3)) : zW g M d mc ms n0 Q cells slots (h) ls (.ref q :: st) (pc) := by
  intro p e R s m args below meth c H locs A ad ad0 cls F Ro S E hn L
  obtain ⟨h1, h2⟩ := zsk_i hq
  have e1 : ad q = g.2.2.2.1 (q - 1000) := (congrArg ad h2).trans (S.2.2.2.2.2.1 _)
  have e4 : (.ref q :: st : List Value).map (zc ad) = .ref (g.2.2.2.1 (q - 1000)) :: st.map (zc ad) := congrArg (fun x => Value.ref x :: st.map (zc ad)) e1
  rw [e4]
  exact vk_getf F.1 F.2.1 (zKn_s (hok.2.2.2.2.1 _ _ _ S.2.2.2.2.1) h1).2.1 S.2.2.1 F.2.2.2.2.2.1 (F.2.2.2.2.2.2.1 _ hw) (fun _ h => h) hd (k p e R s m args below meth c H locs A ad ad0 cls F Ro S E hn L)
theorem z_blen {b : Nat} (hok : zGok g) (hd : decode M.2.1 pc = .ok (.arraylength, 1)) (hq : zbk b = true) (k : zW g M d mc ms n0 Q cells slots (h) ls (.int (nI (zbl_ b)) :: st) (pc + 1)) : zW g M d mc ms n0 Q cells slots (h) ls (.ref b :: st) (pc) := by
  intro p e R s m args below meth c H locs A ad ad0 cls F Ro S E hn L
  obtain ⟨h1, h2⟩ := zbk_i hq
  have e1 : ad b = g.2.2.2.1 (300 + (b - 1300)) := (congrArg ad h2).trans (S.2.2.2.2.2.1 _)
  have e4 : (.ref b :: st : List Value).map (zc ad) = .ref (g.2.2.2.1 (300 + (b - 1300))) :: st.map (zc ad) := congrArg (fun x => Value.ref x :: st.map (zc ad)) e1
  rw [e4]
  exact va_tlen F.1 F.2.1 (zKn_s (hok.2.2.2.2.1 _ _ _ S.2.2.2.2.1) h1).2.2.2 S.2.2.1 rfl hd (k p e R s m args below meth c H locs A ad ad0 cls F Ro S E hn L)
theorem z_bald {b : Nat} {i : Int32} (hok : zGok g) (hd : decode M.2.1 pc = .ok (.baload, 1)) (hq : zbk b = true) (hi : vp_in i (zbl_ b)) (k : zW g M d mc ms n0 Q cells slots (h) ls (.int (zbv b i.toNatClampNeg) :: st) (pc + 1)) : zW g M d mc ms n0 Q cells slots (h) ls (.int i :: .ref b :: st) (pc) := by
  intro p e R s m args below meth c H locs A ad ad0 cls F Ro S E hn L
  obtain ⟨h1, h2⟩ := zbk_i hq
  have e1 : ad b = g.2.2.2.1 (300 + (b - 1300)) := (congrArg ad h2).trans (S.2.2.2.2.2.1 _)
  have e4 : (.int i :: .ref b :: st : List Value).map (zc ad) = .int i :: .ref (g.2.2.2.1 (300 + (b - 1300))) :: st.map (zc ad) := congrArg (fun x => Value.int i :: Value.ref x :: st.map (zc ad)) e1
  rw [e4]
  exact va_tb F.1 F.2.1 (zKn_s (hok.2.2.2.2.1 _ _ _ S.2.2.2.2.1) h1).2.2.2 S.2.2.1 hi rfl hd (k p e R s m args below meth c H locs A ad ad0 cls F Ro S E hn L)
theorem z_callVs {M' : zMd} {as st0 : List Value} {b : Nat} {idx n d1 : Nat} {v : Option Value} {h1 : List zE} (hok : zGok g) (hd : decode M.2.1 pc = .ok (.invokevirtual idx, 3)) (hw : zCv M.1.cls idx M' n) (hm : zMet g M' d1 0 0 (.ref b :: as) h (zret v h1)) (hst : st0 = as.reverse ++ .ref b :: st) (hb : zsk b = true) (hci : M'.1.cls = "java/lang/String") (hlen : as.length = n) (hd1 : d1 < d) (hcat : (st.map fun v => v.category).sum ≤ 8) (hc1 : cells ≤ mc) (hc2 : slots ≤ ms) (hl : h1.length = h.length)
    (k : zW g M d mc ms n0 Q cells slots (h1) ls (v.toList ++ st) (pc + 3)) : zW g M d mc ms n0 Q cells slots (h) ls (st0) (pc) := by
  intro p e R s m args below meth c H locs A ad ad0 cls F Ro S E hn L
  obtain ⟨w1, w2, w3, w4, w5, w6, w7⟩ := hw
  have hrecv : ∃ cellB : Cell, H[ad b]? = some cellB ∧ cellB.vm.isStatics = false ∧ s.vm.findClass M'.1.cls = some cellB.cls := by
    obtain ⟨i1, i2⟩ := zsk_i hb
    have e1 : ad b = g.2.2.2.1 (b - 1000) := (congrArg ad i2).trans (S.2.2.2.2.2.1 _)
    rw [hci, e1]
    exact zKn_r (hok.2.2.2.2.1 _ _ _ S.2.2.2.2.1) i1 S.2.2.1
  have cw : CallW R s args M.1.cls M'.1.cls idx M'.1 M'.2.1 M'.2.2.1 M'.2.2.2 (Cond.code M'.1 M'.2.1 M'.2.2.1 M'.2.2.2 :: zT) (zRm d1 0 0) 0 0 n :=
    ⟨callB_of n F.2.2.2.2.2.2.1 (zGoodIn w2) rfl rfl rfl (F.2.2.2.2.2.2.1 _ w5) (F.2.2.2.2.2.2.1 _ w1) w6 (zRo_call Ro hd1 w7), F.2.2.2.2.2.2.1 _ w3, F.2.2.2.2.2.2.1 _ w4⟩
  have hM := hm S.2.2.2.2.2.2 ad H.size S.2.2.2.2.2.1
  rw [hst]
  have hst2 : (as.reverse ++ .ref b :: st).map (zc ad) = (as.map (zc ad)).reverse ++ .ref (ad b) :: st.map (zc ad) := by
    rw [List.map_append, List.map_reverse]; rfl
  rw [hst2]
  have hr := vx_runV (l := g.1) (e := e) (below := below) (meth := meth) (locs := locs) (cells := cells) (slots := slots) (As := as.map (zc ad)) (rest := st.map (zc ad)) (b := ad b) (g := F0 m pc cls ((as.map (zc ad)).reverse ++ .ref (ad b) :: st.map (zc ad))) ⟨F.1, F.2.1, F.2.2.1, F.2.2.2.2.2.1, F.2.2.2.2.2.2.1⟩ hM cw ⟨zPc_blind hok, hrecv, fun U hU hW => zPc_at (as := .ref b :: as) hok F.2.2.2.2.2.2.2.2.2 S hU hW⟩ rfl (by rw [List.length_map]; exact hlen) L.1 rfl (lv_room (by rw [zc_cats]; exact hcat)) hd ⟨Nat.le_trans hc1 Ro.2.2.1, Nat.le_trans hc2 Ro.2.2.2⟩
  refine z_back F Ro S E hn L hc1 hc2 hr (fun v' h' q => ?_) (fun X h' q => by cases q.1)
  obtain ⟨q1, q2⟩ := q
  cases q1
  subst q2
  rw [hl]
  exact ⟨⟨List.all_eq_true.mpr fun x _ => zfo_nn _ x, List.all_eq_true.mpr fun x _ => zfv_nn _ x⟩, k⟩
end ZR
