def R_law : String := "UnitTextLaw"
def lw_P (b : Addr) (xs : List Int32) (args : Array Value) (s : State) : Prop := args = #[.ref b] ∧ s.IntsAt b xs ∧ xs.length ≤ 288 ∧ (Jvm.Cond.and given_1 narrow_1).before args s = true
def lw_Q (_ : Array Value) (s : State) (o : Outcome) (t : State) : Prop := o = .returned (some (.int 1)) ∧ Framed s o t [] 600096 7301386
def lw_Z (below : List Frame) (a : Array Value) (s : State) : State → Prop := fun t => ∃ o, t.status = .running ∧ Ended t below o ∧ lw_Q a s o t
/-- the law's own end, with 1 on the stack, nothing written that was there before, its room as the claim has it -/
theorem lw_ret {p : Program} {l : Launch} {e : Env} {s : State} {m : MethodId} {below : List Frame} {meth : Method} {c : Code} {b : Nat} (hx : p.tables.exec = Jvm.exec) (hb : c.code = code) (hr : meth.sig.returnType = ret) (hlocks : meth.locks = false) {pc : Nat} {H : Heap} {ls : Array Slot} (hdg : decode code pc = .ok (.ireturn, 1)) : W p l e room_1 s m #[Value.ref b] below meth c H [] 600096 7301386 (lw_Z below #[Value.ref b] s) (F0 m pc ls [.int 1]) := by
  intro T hT X
  obtain ⟨fs, hret, hrun, hended, hW, hframe⟩ := X.leave (v := some (.int 1)) (hlocks := hlocks) (fun h => by rw [hr] at h; cases h)
  have hmeth' : T.vm.method? m = some meth := X.method'
  refine ⟨T.setFrames fs, ?_, .returned (some (.int 1)), hrun, hended, rfl, ⟨_, rfl⟩, hW, hframe⟩
  jvm_step X.here [X.here.top, hx, hb, hdg, hmeth', hr, ret, narrow_b1]
  (try refine ⟨rfl, ?_⟩); (try refine ⟨rfl, ?_⟩)
  first | (intro acts; rw [hret _ acts rfl rfl rfl]) | rw [hret _ _ rfl rfl rfl]
  exact Steps.refl _
/-- what holds at the law's entry: the machine, the code, the tables' words (any of lw_tbl by 'hts w (by decide +kernel)'), the script of L ints xs at the cell b, what the Statement gives of the start (any of its parts by flat_of_before) -/
def lw_At (l : Launch) (p : Program) (s : State) (m : MethodId) (meth : Method) (c : Code) (b L : Nat) (xs : Nat → Int32) : Prop :=
  p.tables.exec = Jvm.exec ∧ c.code = code ∧ meth.sig.returnType = ret ∧ c.maxLocals = 7 ∧ s.vm.findClass R_law = some m.cls ∧ (∀ w ∈ lw_tbl, w.before #[Value.ref b] s = true) ∧ va_X b L xs s s.heap ∧ b < s.heap.size ∧ meth.locks = false ∧ (Jvm.Cond.and given_1 narrow_1).before #[Value.ref b] s = true ∧ (∀ x ∈ c.exceptionTable.toList, False) ∧ meth.name = "law" ∧ l.stackTraces = false
theorem zl_fr {s t : State} {o : Outcome} {L : List Loc} {k n : Nat} (h : FrameEnd s o t L k n) (hL : ∀ q ∈ L, s.heap.size ≤ q.base) : Framed s o t [] k n := by
  obtain ⟨h1, h2, h3⟩ := h
  refine ⟨h1, h2, h3.1, h3.2.1, h3.2.2.1, h3.2.2.2.1, h3.2.2.2.2.1, fun a c hc => ?_⟩
  obtain ⟨c', e1, e2, e3, e4⟩ := h3.2.2.2.2.2 a c hc
  refine ⟨c', e1, e2, e3, fun i _ => e4 i (fun hm => ?_)⟩
  exact absurd (Array.getElem?_eq_some_iff.mp hc).1 (Nat.not_lt.mpr (hL _ hm))
def zq1 : zO → List zE → Prop := fun o _ => o = .inl (some (.int 1))
theorem zl_end {g : zGl} {below : List Frame} {ad0 : Nat → Nat} {args : Array Value} {s t : State}
    (h : vx_MQ below (zQc g zq1 ad0 0 (fun q => s.heap.size ≤ q)) (zXC g zq1 ad0 0 (fun q => s.heap.size ≤ q)) args s 600096 7301386 (fun q => s.heap.size ≤ q) t) : lw_Z below args s t := by
  obtain ⟨o, hr, he, hq⟩ := h
  rcases hq with ⟨⟨v, h', ad, ho, hQ, -⟩, L, hF, hL⟩ | ⟨q, rfl, E, ce, L, ⟨h', ad, hQ, -⟩, -⟩
  · cases hQ
    exact ⟨o, hr, he, ho, zl_fr hF hL⟩
  · cases hQ
theorem zl_mono {p : Program} {l : Launch} {e : Env} {R : Room} {s : State} {m : MethodId} {args : Array Value} {below : List Frame} {meth : Method} {c : Code} {H : Heap} {locs : List Loc} {cells slots : Nat} {Q Q' : State → Prop} {g : JFrame} (h : ∀ t, Q t → Q' t) (w : W p l e R s m args below meth c H locs cells slots Q g) : W p l e R s m args below meth c H locs cells slots Q' g := fun T hT X => by
  obtain ⟨t, a1, b1⟩ := w T hT X
  exact ⟨t, a1, h t b1⟩
set_option maxHeartbeats 1000000 in
set_option maxRecDepth 100000 in
/-- the law, given what is known at the start, and the pure claim -/
theorem whole_of {p : Program} {e : Env} {s : State} {m : MethodId} {below : List Frame} {meth : Method} {c : Code} (l : Launch) {b L : Nat} {xs : Nat → Int32} (C0 : lw_At l p s m meth c b L xs)
    (D : va_G) (tc : Nat → ClassId) (sa : Nat → Nat) (G : (Nat → Prop) → State → Heap → Prop) (hok : zGok (l, D, tc, sa, G)) (hsc : ∀ (A : Nat → Prop) (U : State) (H : Heap), G A U H → zScr sa L xs A U H) (hK : va_K D vwCl (zty (l, D, tc, sa, G)) s) (hG : G (fun q => s.heap.size ≤ q) s s.heap) (hsa : sa 200 = b)
    (N n : Nat) (hn : n ≤ 1000) {s' : zS} (hf : fL_law_L23 N L xs n 0 zs0 = some (.inr s')) :
    W p l e room_1 s m #[Value.ref b] below meth c s.heap [] 0 0 (lw_Z below #[Value.ref b] s) (entryFrame m ([Value.ref b] : List Value).toArray 7) := by
  obtain ⟨hx, hb, hr, hml, hown, hts, hX, hbl, hlocks, hgv, htab, hnm, hst⟩ := C0
  have K := tL_law_0 (g := (l, D, tc, sa, G)) hok 1900 (by omega) N n L xs hsc (mc := 600096) (ms := 7301386) (Q := zq1) (by omega) (by omega) hf rfl
  have hl : zLo ((lg_sl ([.ref b]) ++ List.replicate (7 - (lg_sl ([.ref b])).length) Slot.unset).toArray) 7 (fun k => sa (k - 1000)) [some (.ref 1200), none, none, none, none, none, none] := by
    have h := lv_entry ([.ref b]) (n := 7) (Nat.le_of_ble_eq_true rfl)
    refine ⟨h.1, h.2.1, fun i v hi => ?_⟩
    match i, hi with
    | 0, hi =>
      cases hi
      have h0 := h.2.2 (0, .ref b) List.mem_cons_self
      rw [show zc (fun k => sa (k - 1000)) (.ref 1200) = .ref b from congrArg Value.ref hsa]
      exact h0
    | 1, hi => cases hi
    | 2, hi => cases hi
    | 3, hi => cases hi
    | 4, hi => cases hi
    | 5, hi => cases hi
    | 6, hi => cases hi
    | i + 7, hi => cases hi
  have K2 := K p e room_1 s m #[.ref b] below meth c s.heap [] (fun q => s.heap.size ≤ q) (fun k => sa (k - 1000)) (fun k => sa (k - 1000)) _
    ⟨hx, hb, hml, hr, hlocks, hown, fun w hw => hts w (zT_in hw), htab, hnm, hK⟩ ⟨by decide, by decide, by decide, by decide⟩
    ⟨fun k q h => by simp [zH] at h, ⟨fun i j p q h => by simp [zH] at h, fun k q h => by simp [zH] at h⟩, va_S.rf, fun _ h => h, hG, fun i => congrArg sa (by omega), Nat.zero_le _⟩ (fun _ _ => rfl) (Nat.le_refl _) hl
  rw [lg_entry_eq]
  exact zl_mono (fun t ht => zl_end ht) K2
