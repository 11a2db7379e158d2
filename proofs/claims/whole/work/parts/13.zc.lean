theorem zLo_ad {cls : Array Slot} {nL n1 n2 : Nat} {ad ad' : Nat → Nat} {ls : List (Option Value)} (L : zLo cls nL ad ls) (hf : ls.all (zfo n1 n2) = true) (ha : ∀ k, k < n1 ∨ n2 ≤ k → ad' k = ad k) : zLo cls nL ad' ls := by
  refine ⟨L.1, L.2.1, fun i v hi => ?_⟩
  have h1 := List.all_eq_true.mp hf _ (List.mem_of_getElem? hi)
  rw [zfv_eq (v := v) h1 ha]
  exact L.2.2 i v hi
section ZR
variable {g : zGl} {M : zMd} {d mc ms n0 cells slots pc : Nat} {Q : zO → List zE → Prop} {h : List zE} {ls ls' : List (Option Value)} {st : List Value}
/-- what a new cell leaves as it was -/
def zFr (h : List zE) (ls : List (Option Value)) (st : List Value) : Prop := h.all (zfc h.length (h.length + 1)) = true ∧ ls.all (zfo h.length (h.length + 1)) = true ∧ st.all (zfv h.length (h.length + 1)) = true ∧ h.length + 1 ≤ 1000
theorem z_new {idx ci : Nat} {fs : List Value} (N : Nat) (hd : decode M.2.1 pc = .ok (.new idx, 3)) (hw : zNw M.1.cls idx ci fs) (hN : fs.length = N) (hfz : ∀ ad, fs.map (zc ad) = fs) (hfr : zFr h ls st) (hfc : fs.all (zfv h.length (h.length + 1)) = true) (h1 : cells + 1 ≤ mc) (h2 : slots + N ≤ ms)
    (k : zW g M d mc ms n0 Q (cells + 1) (slots + N) (h ++ [.inr (ci, fs)]) ls (.ref h.length :: st) (pc + 3)) : zW g M d mc ms n0 Q cells slots (h) ls (st) (pc) := by
  intro p e R s m args below meth c H locs A ad ad0 cls F Ro S E hn L
  obtain ⟨C, T, N', ty, hcl, hNN, hin, hty, hlk, hins, hini, hdf⟩ := hw
  obtain ⟨r1, r2, r3, r4⟩ := hfr
  have hN' : N' = N := hNN.symm.trans hN
  subst hN'
  refine va_new F.1 F.2.1 F.2.2.2.2.2.2.1 hin ty hty F.2.2.2.2.2.1 (F.2.2.2.2.2.2.1 _ hlk) (F.2.2.2.2.2.2.1 _ hins) (F.2.2.2.2.2.2.1 _ hini) F.2.2.2.2.2.2.2.2.2 S.1 S.2.1 S.2.2.1 S.2.2.2.1 hcl hdf (Nat.le_trans h1 Ro.2.2.1) (Nat.le_trans h2 Ro.2.2.2) hd (fun q H1 hP hD hS => ?_)
  have eH := zH_push (tc := g.2.2.1) (ad := ad) (c := .inr (ci, fs)) (q := q) r1 hfc
  have eC : zcE g.2.2.1 ad (.inr (ci, fs)) = .inr (ci, fs) := congrArg (fun x => (Sum.inr (ci, x) : va_E)) (hfz ad)
  rw [eC] at eH
  have ha : ∀ k, k < h.length ∨ h.length + 1 ≤ k → (fun k => if k = h.length then q else ad k) k = ad k := fun k hk => if_neg (by omega)
  have K := k p e R s m args below meth c H1 locs A (fun k => if k = h.length then q else ad k) ad0 cls F Ro
    ⟨by rw [eH]; exact hP, by rw [eH]; exact hD, hS, S.2.2.2.1, S.2.2.2.2.1, fun i => (ha (1000 + i) (Or.inr (by omega))).trans (S.2.2.2.2.2.1 i), by rw [List.length_append]; exact r4⟩
    (fun k hk => by
      rw [List.length_append, List.length_singleton] at hk
      exact (ha k (by omega)).trans (E k (by omega))) (by rw [List.length_append]; omega) (zLo_ad L r2 ha)
  have e1 : (.ref h.length :: st : List Value).map (zc (fun k => if k = h.length then q else ad k)) = .ref q :: st.map (zc ad) := by
    rw [List.map_cons, zfs_eq r3 ha]
    exact congrArg (fun x => Value.ref x :: st.map (zc ad)) (if_pos rfl)
  rw [e1] at K
  exact K
theorem z_newa {n : Int32} (N : Nat) (t : Nat) (ty : FieldType) (a0 : vp_A) {atype : ArrayType} (hd : decode M.2.1 pc = .ok (.newarray atype, 2)) (hty : newarray.typeOf atype = ty) (hzt : (zty g)[t]? = some (g.2.2.1 t, ty)) (ha0 : ∀ cA : ClassId, vp_cell cA a0 = arrV cA N (fun _ => defaultValue ty)) (hra : ∀ (U : State) (cA : ClassId), va_RA U cA ty = (U.vm.findClass ("[" ++ ty.toString) = some cA)) (hw : Cond.arrayClass ty ∈ zT) (hn1 : ¬ n < 0) (hN : n.toNatClampNeg = N) (hby : N * componentBytes ty ≤ 536870912) (hfr : zFr h ls st) (h1 : cells + 1 ≤ mc) (h2 : slots + N ≤ ms)
    (k : zW g M d mc ms n0 Q (cells + 1) (slots + N) (h ++ [.inl (t, a0)]) ls (.ref h.length :: st) (pc + 2)) : zW g M d mc ms n0 Q cells slots (h) ls (.int n :: st) (pc) := by
  intro p e R s m args below meth c H locs A ad ad0 cls F Ro S E hn L
  obtain ⟨r1, r2, r3, r4⟩ := hfr
  refine va_newa F.1 F.2.1 (by rw [hty]; exact F.2.2.2.2.2.2.1 _ hw) hty F.2.2.2.2.2.2.2.2.2 S.1 S.2.1 S.2.2.1 S.2.2.2.1 (n := n) ha0 hn1 hN hby (Nat.le_trans h1 Ro.2.2.1) (Nat.le_trans h2 Ro.2.2.2) hd (fun q cA H1 hK' hP hD hS => ?_)
  have hcA : cA = g.2.2.1 t := by
    have q1 := (hK'.2 _ (cA, ty) (by rw [List.getElem?_append_right (Nat.le_refl _), Nat.sub_self]; rfl)).2
    have q2 := (F.2.2.2.2.2.2.2.2.2.2 t _ hzt).2
    rw [hra] at q1 q2
    exact Option.some.inj (q1.symm.trans q2)
  subst hcA
  have eH := zH_push (tc := g.2.2.1) (ad := ad) (c := .inl (t, a0)) (q := q) r1 rfl
  have ha : ∀ k, k < h.length ∨ h.length + 1 ≤ k → (fun k => if k = h.length then q else ad k) k = ad k := fun k hk => if_neg (by omega)
  have K := k p e R s m args below meth c H1 locs A (fun k => if k = h.length then q else ad k) ad0 cls F Ro
    ⟨by rw [eH]; exact hP, by rw [eH]; exact hD, hS, S.2.2.2.1, S.2.2.2.2.1, fun i => (ha (1000 + i) (Or.inr (by omega))).trans (S.2.2.2.2.2.1 i), by rw [List.length_append]; exact r4⟩
    (fun k hk => by
      rw [List.length_append, List.length_singleton] at hk
      exact (ha k (by omega)).trans (E k (by omega))) (by rw [List.length_append]; omega) (zLo_ad L r2 ha)
  have e1 : (.ref h.length :: st : List Value).map (zc (fun k => if k = h.length then q else ad k)) = .ref q :: st.map (zc ad) := by
    rw [List.map_cons, zfs_eq r3 ha]
    exact congrArg (fun x => Value.ref x :: st.map (zc ad)) (if_pos rfl)
  rw [e1] at K
  exact K
/-- behind a call -/
theorem z_back {p : Program} {e : Env} {R : Room} {s : State} {m : MethodId} {args : Array Value} {below : List Frame} {meth : Method} {c : Code} {H : Heap} {locs : List Loc} {A : Nat → Prop} {ad ad0 : Nat → Nat} {cls : Array Slot} {mc1 ms1 : Nat} {Q1 : zO → List zE → Prop} {st0 : List Value} {aa : Array Value}
    (F : zFx g M p s m args meth c) (Ro : zRo R d mc ms) (S : zSt g A s ad h H locs) (E : ∀ k, k < n0 ∨ h.length ≤ k → ad k = ad0 k) (hn : n0 ≤ h.length) (L : zLo cls M.2.2.1 ad ls) (h1 : cells + mc1 ≤ mc) (h2 : slots + ms1 ≤ ms)
    (hr : vx_Run p g.1 e R s m args below meth c H locs cells slots mc1 ms1 (F0 m pc cls st0) (st.map (zc ad)) (zQc g Q1 ad h.length (va_A (zH g.2.2.1 ad h) H.size) aa) (zXC g Q1 ad h.length (va_A (zH g.2.2.1 ad h) H.size)) (va_A (zH g.2.2.1 ad h) H.size))
    (kr : ∀ v h', Q1 (.inl v) h' → (ls.all (zfo h.length h'.length) = true ∧ st.all (zfv h.length h'.length) = true) ∧ zW g M d mc ms n0 Q (cells + mc1) (slots + ms1) (h') ls (v.toList ++ st) (pc + 3))
    (kx : ∀ X h', Q1 (.inr X) h' → Q (.inr X) h') :
    W p g.1 e R s m args below meth c H locs cells slots (vx_MQ below (zQc g Q ad0 n0 A) (zXC g Q ad0 n0 A) args s mc ms A) (F0 m pc cls st0) := by
  have hAA : ∀ q, va_A (zH g.2.2.1 ad h) H.size q → A q := fun q hq => hq.elim (fun ⟨k, x, hk⟩ => S.2.1.2 k (q, x) hk) (fun hq => S.2.2.2.1 q (Nat.le_trans S.2.2.1.1 hq))
  intro T hT X
  rcases hr T hT X with ⟨v, st₀, t, T', L', h0, X', hL, e1, e2, ⟨v', h', ad', hv, hq, ha, hn1, hle, hP, hD, hF⟩, sg⟩ | ⟨q, st₀, t, T', L', XE, ce, h0, X', hL, e1, e2, ⟨h', ad', hq, ha, hn1, hle, hP, hD, hF⟩, hce, hcv, hcl, sg⟩
  · obtain ⟨k1, k2, k3⟩ := vx_keep h0 e1 S.2.2.1 (fun q _ h => hAA q h) hAA hL hF
    obtain ⟨⟨r1, r2⟩, K⟩ := kr v' h' hq
    cases hv
    have K2 := K p e R s m args below meth c T'.heap (locs ++ L') A ad' ad0 cls F Ro ⟨by rw [e1]; exact hP, hD.weaken (fun _ _ _ z => hAA _ z), k3, S.2.2.2.1, S.2.2.2.2.1, fun i => (ha (1000 + i) (Or.inr (by omega))).trans (S.2.2.2.2.2.1 i), hle⟩
      (fun k hk => (ha k (by omega)).trans (E k (by omega))) (Nat.le_trans hn hn1) (zLo_ad L r1 ha) T' rfl X'
    obtain ⟨t2, a1, b1⟩ := K2
    refine ⟨t2, sg t2 ?_, b1⟩
    have e3 : (v'.toList ++ st).map (zc ad') = (v'.map (zc ad')).toList ++ st.map (zc ad) := by
      rw [List.map_append, zfs_eq r2 ha]
      cases v' <;> rfl
    rw [e3] at a1
    exact a1
  · obtain ⟨k1, k2, k3⟩ := vx_keep h0 e1 S.2.2.1 (fun q _ h => hAA q h) hAA hL hF
    have K : vx_W p g.1 e R s m args below meth c T'.heap (locs ++ L') (cells + mc1) (slots + ms1) (vx_MQ below (zQc g Q ad0 n0 A) (zXC g Q ad0 n0 A) args s mc ms A) (F0 m pc cls (st.map (zc ad))) q :=
      vx_out (fun x hx => absurd hx (fun hx => F.2.2.2.2.2.2.2.1 x hx)) F.2.2.2.2.1 (by rw [e1]; exact hce) hcv hcl
        (fun t' ht' _ => ⟨h', ad', kx _ _ hq, fun k hk => (ha k (by omega)).trans (E k (by omega)), Nat.le_trans hn hn1, hle, by rw [ht', e1]; exact hP, hD.weaken (fun _ _ _ z => hAA _ z), k3.F ht'⟩) k3.2.2 h1 h2
    obtain ⟨t2, a1, b1⟩ := K T' rfl X'
    exact ⟨t2, sg.trans a1, b1⟩
theorem zPc_blind {ad : Nat → Nat} {as : List Value} {sz : Nat} (hok : zGok g) : FrameBlind (zPc g ad as h sz) := fun a U j mk q => by
  obtain ⟨q0, q1, qP, qK, qD, qG⟩ := q
  exact ⟨q0, q1, qP, va_K.moved (u := U) (U := U.calling j mk a) (Vm.Alike.refl U.vm) qK, qD, hok.1 _ U (U.calling j mk a) _ (State.WarmedH.refl U) qG⟩
theorem zPc_at {s U : State} {H : Heap} {A : Nat → Prop} {ad : Nat → Nat} {locs : List Loc} {as : List Value} (hok : zGok g) (hK : va_K g.2.1 vwCl (zty g) s) (S : zSt g A s ad h H locs) (hU : U.heap = H) (hW : s.WarmedH U.vm) : zPc g ad as h H.size (as.map (zc ad)).toArray U := by
  have hAA : ∀ q, va_A (zH g.2.2.1 ad h) H.size q → A q := fun q hq => hq.elim (fun ⟨k, x, hk⟩ => S.2.1.2 k (q, x) hk) (fun hq => S.2.2.2.1 q (Nat.le_trans S.2.2.1.1 hq))
  refine ⟨rfl, by rw [hU], by rw [hU]; exact S.1, va_K.moved hW.alike hK, S.2.1.self, ?_⟩
  rw [hU]
  exact hok.2.2.1 A _ U H hAA (hok.2.1 A U s.heap H S.2.2.1.2.1 (hok.1 A s U s.heap hW S.2.2.2.2.1))
theorem zGoodIn {M' : zMd} (hc : Cond.code M'.1 M'.2.1 M'.2.2.1 M'.2.2.2 ∈ zT) : GoodIn zT (Cond.code M'.1 M'.2.1 M'.2.2.1 M'.2.2.2 :: zT) := fun w hw => by
  have : w ∈ zT := (List.mem_cons.mp hw).elim (fun q => by rw [q]; exact hc) id
  exact ⟨this, zT_good this⟩
theorem zRo_call {R : Room} {d1 mc1 ms1 : Nat} {nL : Nat} (Ro : zRo R d mc ms) (hd1 : d1 < d) (hm : nL ≤ 21) : (zRm d1 mc1 ms1).frames + 1 ≤ R.frames ∧ 8 + (nL + 11) + (zRm d1 mc1 ms1).locals ≤ R.locals := by
  obtain ⟨a, b, -, -⟩ := Ro
  show 20 + d1 + 1 ≤ R.frames ∧ 8 + (nL + 11) + (300 + 40 * d1) ≤ R.locals
  omega
theorem z_callV {M' : zMd} {as st0 : List Value} {b ci : Nat} {fs : List Value} {idx n mc1 ms1 d1 : Nat} {Q1 : zO → List zE → Prop} (hok : zGok g) (hd : decode M.2.1 pc = .ok (.invokevirtual idx, 3)) (hw : zCv M.1.cls idx M' n) (hm : zMet g M' d1 mc1 ms1 (.ref b :: as) h Q1) (hst : st0 = as.reverse ++ .ref b :: st) (hb : h[b]? = some (.inr (ci, fs))) (hci : (vwCl[ci]?).map (fun q => q.1) = some M'.1.cls) (hlen : as.length = n) (hd1 : d1 < d) (hcat : (st.map fun v => v.category).sum ≤ 8) (h1 : cells + mc1 ≤ mc) (h2 : slots + ms1 ≤ ms)
    (kr : ∀ v h', Q1 (.inl v) h' → (ls.all (zfo h.length h'.length) = true ∧ st.all (zfv h.length h'.length) = true) ∧ zW g M d mc ms n0 Q (cells + mc1) (slots + ms1) (h') ls (v.toList ++ st) (pc + 3))
    (kx : ∀ X h', Q1 (.inr X) h' → Q (.inr X) h') : zW g M d mc ms n0 Q cells slots (h) ls (st0) (pc) := by
  intro p e R s m args below meth c H locs A ad ad0 cls F Ro S E hn L
  obtain ⟨w1, w2, w3, w4, w5, w6, w7⟩ := hw
  have hrecv : ∃ cellB : Cell, H[ad b]? = some cellB ∧ cellB.vm.isStatics = false ∧ s.vm.findClass M'.1.cls = some cellB.cls := by
    cases hq : vwCl[ci]? with
    | none => rw [hq] at hci; cases hci
    | some q =>
      rw [hq] at hci
      have := va_recv F.2.2.2.2.2.2.2.2.2 S.1 hq (zH_at hb)
      rw [show q.1 = M'.1.cls from Option.some.inj hci] at this
      exact this
  have cw : CallW R s args M.1.cls M'.1.cls idx M'.1 M'.2.1 M'.2.2.1 M'.2.2.2 (Cond.code M'.1 M'.2.1 M'.2.2.1 M'.2.2.2 :: zT) (zRm d1 mc1 ms1) mc1 ms1 n :=
    ⟨callB_of n F.2.2.2.2.2.2.1 (zGoodIn w2) rfl rfl rfl (F.2.2.2.2.2.2.1 _ w5) (F.2.2.2.2.2.2.1 _ w1) w6 (zRo_call Ro hd1 w7), F.2.2.2.2.2.2.1 _ w3, F.2.2.2.2.2.2.1 _ w4⟩
  have hM := hm S.2.2.2.2.2.2 ad H.size S.2.2.2.2.2.1
  rw [hst]
  have hst2 : (as.reverse ++ .ref b :: st).map (zc ad) = (as.map (zc ad)).reverse ++ .ref (ad b) :: st.map (zc ad) := by
    rw [List.map_append, List.map_reverse]; rfl
  rw [hst2]
  have hr := vx_runV (l := g.1) (e := e) (below := below) (meth := meth) (locs := locs) (cells := cells) (slots := slots) (As := as.map (zc ad)) (rest := st.map (zc ad)) (b := ad b) (g := F0 m pc cls ((as.map (zc ad)).reverse ++ .ref (ad b) :: st.map (zc ad))) ⟨F.1, F.2.1, F.2.2.1, F.2.2.2.2.2.1, F.2.2.2.2.2.2.1⟩ hM cw ⟨zPc_blind hok, hrecv, fun U hU hW => zPc_at (as := .ref b :: as) hok F.2.2.2.2.2.2.2.2.2 S hU hW⟩ rfl (by rw [List.length_map]; exact hlen) L.1 rfl (lv_room (by rw [zc_cats]; exact hcat)) hd ⟨Nat.le_trans h1 Ro.2.2.1, Nat.le_trans h2 Ro.2.2.2⟩
  exact z_back F Ro S E hn L h1 h2 hr kr kx
theorem z_callS {M' : zMd} {as st0 : List Value} {idx n mc1 ms1 d1 : Nat} {Q1 : zO → List zE → Prop} (hok : zGok g) (hd : decode M.2.1 pc = .ok (.invokestatic idx, 3)) (hw : zCs M.1.cls idx M' n) (hm : zMet g M' d1 mc1 ms1 (as) h Q1) (hst : st0 = as.reverse ++ st) (hlen : as.length = n) (hd1 : d1 < d) (hcat : (st.map fun v => v.category).sum ≤ 8) (h1 : cells + mc1 ≤ mc) (h2 : slots + ms1 ≤ ms)
    (kr : ∀ v h', Q1 (.inl v) h' → (ls.all (zfo h.length h'.length) = true ∧ st.all (zfv h.length h'.length) = true) ∧ zW g M d mc ms n0 Q (cells + mc1) (slots + ms1) (h') ls (v.toList ++ st) (pc + 3))
    (kx : ∀ X h', Q1 (.inr X) h' → Q (.inr X) h') : zW g M d mc ms n0 Q cells slots (h) ls (st0) (pc) := by
  intro p e R s m args below meth c H locs A ad ad0 cls F Ro S E hn L
  obtain ⟨w1, w2, w3, w5, w6, w7⟩ := hw
  have cw : CallB R s args M.1.cls idx M'.1 M'.2.1 M'.2.2.1 M'.2.2.2 (Cond.code M'.1 M'.2.1 M'.2.2.1 M'.2.2.2 :: zT) (zRm d1 mc1 ms1) mc1 ms1 n ∧ (Cond.static M'.1).before args s = true :=
    ⟨callB_of n F.2.2.2.2.2.2.1 (zGoodIn w2) rfl rfl rfl (F.2.2.2.2.2.2.1 _ w5) (F.2.2.2.2.2.2.1 _ w1) w6 (zRo_call Ro hd1 w7), F.2.2.2.2.2.2.1 _ w3⟩
  have hM := hm S.2.2.2.2.2.2 ad H.size S.2.2.2.2.2.1
  rw [hst]
  have hst2 : (as.reverse ++ st).map (zc ad) = (as.map (zc ad)).reverse ++ st.map (zc ad) := by
    rw [List.map_append, List.map_reverse]
  rw [hst2]
  have hr := vx_runS (l := g.1) (e := e) (below := below) (meth := meth) (locs := locs) (cells := cells) (slots := slots) (As := as.map (zc ad)) (rest := st.map (zc ad)) (g := F0 m pc cls ((as.map (zc ad)).reverse ++ st.map (zc ad))) ⟨F.1, F.2.1, F.2.2.1, F.2.2.2.2.2.1, F.2.2.2.2.2.2.1⟩ hM cw ⟨zPc_blind hok, fun U hU hW => zPc_at (as := as) hok F.2.2.2.2.2.2.2.2.2 S hU hW⟩ rfl (by rw [List.length_map]; exact hlen) L.1 rfl (lv_room (by rw [zc_cats]; exact hcat)) hd ⟨Nat.le_trans h1 Ro.2.2.1, Nat.le_trans h2 Ro.2.2.2⟩
  exact z_back F Ro S E hn L h1 h2 hr kr kx
theorem zMet_met {l : Launch} {y : MethodName} {ws : List Cond} {rm : Room} {Pc : Array Value → State → Prop} {Q1 : zO → List zE → Prop} {ad : Nat → Nat} {n1 mc1 ms1 : Nat} {A : Nat → Prop} (hx : ∀ X h', ¬ Q1 (.inr X) h') (hM : vx_Met l y ws rm Pc (zQc g Q1 ad n1 A) (zXC g Q1 ad n1 A) mc1 ms1 A) : Met l y ws rm Pc (zQc g Q1 ad n1 A) mc1 ms1 A :=
  MetFree.mono hM (fun _ _ h => h) (fun _ _ _ _ _ h => h) (fun a st o t _ h => by
    rcases h with h | ⟨q, rfl, E, ce, L, ⟨h', ad', hq, -⟩, -⟩
    · exact h
    · exact absurd hq (hx _ _))
theorem z_callI {M' : zMd} {as st0 : List Value} {b : Nat} {idx n mc1 ms1 d1 : Nat} {Q1 : zO → List zE → Prop} (hok : zGok g) (hd : decode M.2.1 pc = .ok (.invokespecial idx, 3)) (hw : zCi M.1.cls idx M' n) (hm : zMet g M' d1 mc1 ms1 (.ref b :: as) h Q1) (hx : ∀ X h', ¬ Q1 (.inr X) h') (hst : st0 = as.reverse ++ .ref b :: st) (hlen : as.length = n) (hd1 : d1 < d) (hcat : (st.map fun v => v.category).sum ≤ 8) (h1 : cells + mc1 ≤ mc) (h2 : slots + ms1 ≤ ms)
    (kr : ∀ v h', Q1 (.inl v) h' → (ls.all (zfo h.length h'.length) = true ∧ st.all (zfv h.length h'.length) = true) ∧ zW g M d mc ms n0 Q (cells + mc1) (slots + ms1) (h') ls (v.toList ++ st) (pc + 3)) : zW g M d mc ms n0 Q cells slots (h) ls (st0) (pc) := by
  intro p e R s m args below meth c H locs A ad ad0 cls F Ro S E hn L
  obtain ⟨w1, w2, w3, w5, w8, w9, w6, w7⟩ := hw
  have hM := zMet_met hx (hm S.2.2.2.2.2.2 ad H.size S.2.2.2.2.2.1)
  obtain ⟨my, mcode, mnl, mret⟩ := M'
  dsimp only at w9
  subst w9
  have cw : CallB R s args M.1.cls idx my mcode mnl none (Cond.code my mcode mnl none :: zT) (zRm d1 mc1 ms1) mc1 ms1 n ∧ my.name = "<init>" ∧ (Cond.instanceMethod my).before args s = true :=
    ⟨callB_of n F.2.2.2.2.2.2.1 (zGoodIn w2) rfl rfl rfl (F.2.2.2.2.2.2.1 _ w5) (F.2.2.2.2.2.2.1 _ w1) w6 (zRo_call Ro hd1 w7), w8, F.2.2.2.2.2.2.1 _ w3⟩
  rw [hst]
  have hst2 : (as.reverse ++ .ref b :: st).map (zc ad) = (as.map (zc ad)).reverse ++ .ref (ad b) :: st.map (zc ad) := by
    rw [List.map_append, List.map_reverse]; rfl
  rw [hst2]
  have hr := va_runI (l := g.1) (e := e) (below := below) (meth := meth) (locs := locs) (cells := cells) (slots := slots) (As := as.map (zc ad)) (rest := st.map (zc ad)) (b := ad b) (g := F0 m pc cls ((as.map (zc ad)).reverse ++ .ref (ad b) :: st.map (zc ad))) ⟨F.1, F.2.1, F.2.2.1, F.2.2.2.2.2.1, F.2.2.2.2.2.2.1⟩ hM cw ⟨zPc_blind hok, fun U hU hW => zPc_at (as := .ref b :: as) hok F.2.2.2.2.2.2.2.2.2 S hU hW⟩ rfl (by rw [List.length_map]; exact hlen) L.1 rfl (lv_room (by rw [zc_cats]; exact hcat)) hd ⟨Nat.le_trans h1 Ro.2.2.1, Nat.le_trans h2 Ro.2.2.2⟩
  exact z_back F Ro S E hn L h1 h2 (fun T hT X => Or.inl (hr T hT X)) kr (fun X h' q => absurd q (hx X h'))
end ZR
