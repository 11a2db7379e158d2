theorem z_wide0 : True := by
  have _h := @Stand.thenCaughtThrough
  trivial
section VXC
variable {p : Program} {l : Launch} {e : Env} {R : Room} {s : State} {m : MethodId} {args : Array Value} {below : List Frame} {meth : Method} {c : Code} {H : Heap} {locs : List Loc} {cells slots : Nat} {Q : State → Prop} {pc : Nat} {ls : Array Slot} {rest : List Value}
/-- caught by the row x of this method's table; the rows ahead don't take it -/
theorem vx_catch {own name : String} {E : String} {ce : Cell} {q : Addr} (hown : s.vm.findClass own = some m.cls) (pre : List ExceptionTableEntry) (x : ExceptionTableEntry) (suf : List ExceptionTableEntry) (hsplit : c.exceptionTable.toList = pre ++ x :: suf)
    (hpass : ∀ z ∈ pre, covers z pc = false ∨ (z.catchType ≠ 0 ∧ ∃ nm : String, (Cond.classLink own z.catchType nm).before args s = true ∧ va_Nc E nm s)) (hx : covers x pc = true) (h0 : x.catchType ≠ 0)
    (hlink : (Cond.classLink own x.catchType name).before args s = true) (hcast : (Cond.castable E name).before args s = true) (hcell : H[q]? = some ce) (hv : ce.vm = .none) (hcl : s.vm.findClass E = some ce.cls)
    (kk : W p l e R s m args below meth c H locs cells slots Q (F0 m x.handlerPc ls [.ref q])) : vx_W p l e R s m args below meth c H locs cells slots Q (F0 m pc ls rest) q := by
  intro T hT X
  have hpl : e.platform.magicAccessors = ({} : Platform).magicAccessors := by rw [X.admits.platform]
  obtain ⟨c3, c4, hc3, hc4, hasg⟩ := Cond.castable_spec hcast
  cases Option.some.inj (hc3.symm.trans hcl)
  obtain ⟨c5, hc5, hcl5⟩ := Cond.classLink_spec hown hlink e.platform hpl
  cases Option.some.inj (hc4.symm.trans hc5)
  obtain ⟨vm', X', st⟩ := X.thenCaughtThrough q (g := F0 m pc ls rest) rfl (Steps.refl _) (by rw [hT]; exact hcell) (by rw [hv]; rfl) (by obtain ⟨k9, h9, -⟩ := Vm.findClass_spec hcl; exact ⟨k9, h9⟩) pre x suf hsplit
    (fun z hz => by
      rcases hpass z hz with h | ⟨hz0, nm, hl1, hn1⟩
      · exact Or.inl h
      · obtain ⟨c6, hc6, hcl6⟩ := Cond.classLink_spec hown hl1 e.platform hpl
        obtain ⟨a8, b8, h1, h2, h3⟩ := hn1
        cases Option.some.inj (h1.symm.trans hcl)
        cases Option.some.inj (h2.symm.trans hc6)
        exact Or.inr ⟨hz0, _, hcl6, h3⟩) hx (Or.inr ⟨h0, c4, hcl5, hasg⟩)
  obtain ⟨t, a1, b1⟩ := kk (T.setVm vm') hT X'
  exact ⟨t, st.trans a1, b1⟩
end VXC
def zhh : List (Nat × Nat × Nat × Nat) := [(0, 8, 11, 13)]
theorem rd_w1 : Cond.codeWith yL_read cL_read 3 (some .int) zhh ∈ zT := by decide +kernel
theorem rd_w2 : Cond.classLink RL 13 zIAE ∈ zT := by decide +kernel
theorem rd_w3 : Cond.castable zIAE zIAE ∈ zNs := by decide +kernel
def zrk (w : Option Int32) : Int32 := match w with
  | none => 1
  | some _ => 0
def zsl0 (s : zS) (x : Int64) : zS := (s.1, s.2.1, s.2.2.1, vp_updL s.2.2.2 0 x)
def zrs (w : Option Int32) (s : zS) : zS := match w with
  | none => s
  | some x => zsl0 s x.toInt64
theorem st_long (s : zS) (x : Int64) : (zHp s).set 50 (.inl (1, 1, .inr (.inl (vp_updL s.2.2.2 (0 : Int32).toNatClampNeg x)))) = zHp (zsl0 s x) := rfl
set_option maxHeartbeats 1000000 in
set_option maxRecDepth 100000 in
theorem tL_read {g : zGl} (hok : zGok g) (d : Nat) (hd : 424 ≤ d) (N : Nat) {s s1 : zS} {w : Option Int32} (hf : fX9_read N s = some (w, s1)) (ad : Nat → Nat) (sz : Nat) (hsa : ∀ i, ad (1000 + i) = g.2.2.2.1 i) :
    vx_Met g.1 yL_read (Cond.codeWith yL_read cL_read 3 (some .int) zhh :: zT) (zRm d (zk1 w) (zk6 w)) (zPc g ad [.ref 0, .ref 50] (zHp s) sz) (zQc g (zret (some (.int (zrk w))) (zHp (zrs w s1))) ad 51 (va_A (zH g.2.2.1 ad (zHp s)) sz)) (zXC g (zret (some (.int (zrk w))) (zHp (zrs w s1))) ad 51 (va_A (zH g.2.2.1 ad (zHp s)) sz)) (zk1 w) (zk6 w) (va_A (zH g.2.2.1 ad (zHp s)) sz) := by
  refine vx_ofWH (hh := zhh) (by decide +kernel) rfl ?_
  intro p e st m args below meth c s₁ B hml hv
  obtain ⟨rfl, hsz, hP, hK, hD, hG⟩ := hv
  subst hsz
  have hts0 := atoms_spec (ws := Cond.codeWith yL_read cL_read 3 (some .int) zhh :: zT) B.pre
  have hts : ∀ w ∈ zT, w.before _ st = true := fun w hw => hts0 w (List.mem_cons_of_mem _ hw)
  have htab := vx_table (x := yL_read) B (hts0 _ List.mem_cons_self)
  have hown : st.vm.findClass RL = some m.cls := findClass_of_methodNamed B.named
  have hl := lv_entry ([.ref (ad 0), .ref (ad 50)]) (n := 3) (Nat.le_of_ble_eq_true rfl)
  show W _ _ _ _ _ _ _ _ _ _ _ _ _ _ _ (entryFrame m ([.ref (ad 0), .ref (ad 50)] : List Value).toArray 3)
  rw [lg_entry_eq]
  generalize (lg_sl ([.ref (ad 0), .ref (ad 50)]) ++ List.replicate (3 - (lg_sl ([.ref (ad 0), .ref (ad 50)])).length) Slot.unset).toArray = ls at hl ⊢
  have hl : lv_has ls 3 [(0, .ref (ad 0)), (1, .ref (ad 50))] := hl
  generalize hAe : va_A (zH g.2.2.1 ad (zHp s)) st.heap.size = A at hD hG ⊢
  have hA : ∀ q : Nat, st.heap.size ≤ q → A q := fun q h => by rw [← hAe]; exact Or.inr h
  have hS : va_S A st.heap st.heap [] := va_S.rf
  have S : zSt g A st ad (zHp s) st.heap [] := ⟨hP, hD, hS, hA, hG, hsa, Nat.le_of_ble_eq_true rfl⟩
  refine lv_aload_n B.exec B.bytes dL_read_0 rfl (lv_at hl 1 rfl) ?_
  refine lv_iconst (v := 0) B.exec B.bytes dL_read_1 (by decide) ?_
  refine lv_aload_n B.exec B.bytes dL_read_2 rfl (lv_at hl 0 rfl) ?_
  have hM := tX9_read hok (d - 1) (by omega) N hf (Nat.le_of_ble_eq_true rfl) ad st.heap.size hsa
  obtain ⟨w1, w2, w3, w4, w5, w6, w7⟩ := (kL_7 : zCv RL 7 mX9_read 0)
  have cw : CallW (zRm d (zk1 w) (zk6 w)) st _ RL RX9 7 mX9_read.1 mX9_read.2.1 mX9_read.2.2.1 mX9_read.2.2.2 (Cond.code mX9_read.1 mX9_read.2.1 mX9_read.2.2.1 mX9_read.2.2.2 :: zT) (zRm (d - 1) (zk1 w) (zk6 w)) (zk1 w) (zk6 w) 0 :=
    ⟨callB_of 0 hts (zGoodIn w2) rfl rfl rfl (hts _ w5) (hts _ w1) w6 (zRo_call (d := d) (mc := zk1 w) (ms := zk6 w) ⟨Nat.le_refl _, Nat.le_refl _, Nat.le_refl _, Nat.le_refl _⟩ (by omega) w7), hts _ w3, hts _ w4⟩
  have hr := vx_runV (l := g.1) (e := e) (below := below) (meth := meth) (locs := []) (cells := 0) (slots := 0) (As := []) (rest := [.int 0, .ref (ad 50)]) (b := ad 0) (g := F0 m 3 ls [.ref (ad 0), .int 0, .ref (ad 50)]) ⟨B.exec, B.bytes, hml, hown, hts⟩ hM cw ⟨zPc_blind hok, va_recv hK hP (ci := 6) (q0 := 0) rfl (zH_at (at_UnitText s)), fun U hU hW => zPc_at (as := [.ref 0]) hok hK S hU hW⟩ rfl rfl hl.1 rfl (lv_room (Nat.le_of_ble_eq_true rfl)) dL_read_3 ⟨by show 0 + zk1 w ≤ zk1 w; omega, by show 0 + zk6 w ≤ zk6 w; omega⟩
  rw [hAe] at hr
  intro T hT X
  rcases hr T hT X with ⟨v, st₀, t, T', L', h0, X', hL, e1, e2, ⟨v', h', ad', hv, hq, ha, hn1, hle, hP1, hD1, hF⟩, sg⟩ | ⟨q, st₀, t, T', L', XE, ce, h0, X', hL, e1, e2, ⟨h', ad', hq, ha, hn1, hle, hP1, hD1, hF⟩, hce, hcv, hcl, sg⟩
  · obtain ⟨k1, k2, k3⟩ := vx_keep h0 e1 hS (fun q _ h => h) (fun q h => h) hL hF
    cases w with
    | none => cases hq.1
    | some x =>
      obtain ⟨q1, q2⟩ := hq
      cases q1
      subst q2
      have ead : ad' = ad := funext (fun k => ha k (by show k < 51 ∨ 51 ≤ k; omega))
      subst ead
      cases hv
      have hP2 : va_P g.2.1 vwCl (zH g.2.2.1 ad' (zHp s1)) T'.heap := by rw [e1]; exact hP1
      have K : W p g.1 e (headSpec (Cond.codeWith yL_read cL_read 3 (some .int) zhh :: zT) (zRm d (zk1 (some x)) (zk6 (some x)))).room st m ([.ref 0, .ref 50].map (zc ad')).toArray below meth c T'.heap ([] ++ L') (0 + zk1 (some x)) (0 + zk6 (some x)) (vx_MQ below (zQc g (zret (some (.int (zrk (some x)))) (zHp (zrs (some x) s1))) ad' 51 A) (zXC g (zret (some (.int (zrk (some x)))) (zHp (zrs (some x) s1))) ad' 51 A) ([.ref 0, .ref 50].map (zc ad')).toArray st (zk1 (some x)) (zk6 (some x)) A) (F0 m 6 ls [.int x, .int 0, .ref (ad' 50)]) := by
        refine W.widen (k := zk1 (some x)) (n := zk6 (some x)) (by omega) (by omega) ?_
        refine lv_i2l B.exec B.bytes dL_read_6 rfl ?_
        refine va_last B.exec B.bytes hK hP2 hD1 k3 50 1 (zH_at (c := .inl (1, 1, .inr (.inl s1.2.2.2))) rfl) rfl (zga_in (by decide)) dL_read_7 (fun H1 locs1 hP3 hD3 hS3 => ?_)
        refine lv_goto (tgt := 14) B.exec B.bytes dL_read_8 (by decide) ?_
        refine lv_iconst (v := 0) B.exec B.bytes dL_read_14 (by decide) ?_
        have eS : (zH g.2.2.1 ad' (zHp s1)).set 50 (ad' 50, .inl (g.2.2.1 1, 1, .inr (.inl (vp_updL s1.2.2.2 (0 : Int32).toNatClampNeg x.toInt64)))) = zH g.2.2.1 ad' (zHp (zsl0 s1 x.toInt64)) := (zH_set (c := .inl (1, 1, .inr (.inl (vp_updL s1.2.2.2 (0 : Int32).toNatClampNeg x.toInt64))))).trans (by rw [st_long])
        rw [eS] at hP3 hD3
        exact vx_ret (W.iret B.exec B.bytes B.returns (fun t ht hW => ⟨some (.int 0), zHp (zsl0 s1 x.toInt64), ad', rfl, ⟨rfl, rfl⟩, fun _ _ => rfl, Nat.le_refl _, Nat.le_of_ble_eq_true rfl, by rw [ht]; exact hP3, hD3, hS3.F ht⟩) hS3.2.2 dL_read_15 B.notSynchronized)
      obtain ⟨t2, a1, b1⟩ := K T' rfl X'
      exact ⟨t2, sg t2 a1, b1⟩
  · obtain ⟨k1, k2, k3⟩ := vx_keep h0 e1 hS (fun q _ h => h) (fun q h => h) hL hF
    cases w with
    | some x => cases hq.1
    | none =>
      obtain ⟨q1, q2⟩ := hq
      cases q1
      subst q2
      have ead : ad' = ad := funext (fun k => ha k (by show k < 51 ∨ 51 ≤ k; omega))
      subst ead
      have hP2 : va_P g.2.1 vwCl (zH g.2.2.1 ad' (zHp s1)) T'.heap := by rw [e1]; exact hP1
      have K : vx_W p g.1 e (headSpec (Cond.codeWith yL_read cL_read 3 (some .int) zhh :: zT) (zRm d (zk1 (none : Option Int32)) (zk6 (none : Option Int32)))).room st m ([.ref 0, .ref 50].map (zc ad')).toArray below meth c T'.heap ([] ++ L') (0 + zk1 (none : Option Int32)) (0 + zk6 (none : Option Int32)) (vx_MQ below (zQc g (zret (some (.int (zrk none))) (zHp (zrs none s1))) ad' 51 A) (zXC g (zret (some (.int (zrk none))) (zHp (zrs none s1))) ad' 51 A) ([.ref 0, .ref 50].map (zc ad')).toArray st (zk1 (none : Option Int32)) (zk6 (none : Option Int32)) A) (F0 m 3 ls [.int 0, .ref (ad' 50)]) q := by
        refine vx_catch hown [] { startPc := 0, endPc := 8, handlerPc := 11, catchType := 13 } [] (htab.trans rfl) (fun z hz => by cases hz) (by decide) (by decide) (hts _ rd_w2) (va_Nw.use rfl (hok.2.2.2.1 _ _ _ hG _ rd_w3)) (by rw [e1]; exact hce) hcv hcl ?_
        refine W.widen (k := zk1 (none : Option Int32)) (n := zk6 (none : Option Int32)) (by omega) (by omega) ?_
        refine lv_astore_n (lv' := [(2, .ref q), (0, .ref (ad' 0)), (1, .ref (ad' 50))]) B.exec B.bytes dL_read_11 rfl hl (by decide) rfl (fun ls hl => ?_)
        refine lv_iconst (v := 1) B.exec B.bytes dL_read_12 (by decide) ?_
        exact vx_ret (W.iret B.exec B.bytes B.returns (fun t ht hW => ⟨some (.int 1), zHp s1, ad', rfl, ⟨rfl, rfl⟩, fun _ _ => rfl, Nat.le_refl _, Nat.le_of_ble_eq_true rfl, by rw [ht]; exact hP2, hD1, k3.F ht⟩) k3.2.2 dL_read_13 B.notSynchronized)
      obtain ⟨t2, a1, b1⟩ := K T' rfl X'
      exact ⟨t2, sg.trans a1, b1⟩
