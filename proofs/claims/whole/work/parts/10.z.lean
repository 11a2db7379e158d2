/-! The abstract machine: the heap is a list of cells, a reference the number of a cell; zW: from this pc, with these locals, this stack and these cells, the method comes to an end that Q allows. -/
def zc (ad : Nat → Nat) (v : Value) : Value := match v with
  | .ref k => .ref (ad k)
  | .int x => .int x
  | .long x => .long x
  | .float x => .float x
  | .double x => .double x
  | .null => .null
  | .retAddr x => .retAddr x
theorem zc_cat (ad : Nat → Nat) (v : Value) : (zc ad v).category = v.category := by cases v <;> rfl
theorem zc_cats (ad : Nat → Nat) (l : List Value) : ((l.map (zc ad)).map fun v => v.category).sum = (l.map fun v => v.category).sum := by
  rw [List.map_map]
  exact congrArg List.sum (List.map_congr_left fun v _ => zc_cat ad v)
abbrev zE : Type := (Nat × vp_A) ⊕ (Nat × List Value)
def zcE (tc : Nat → ClassId) (ad : Nat → Nat) (c : zE) : va_E := match c with
  | .inl a => .inl (tc a.1, a.2)
  | .inr o => .inr (o.1, o.2.map (zc ad))
def zH (tc : Nat → ClassId) (ad : Nat → Nat) (h : List zE) : va_W := h.mapIdx (fun k c => (ad k, zcE tc ad c))
theorem zH_at {tc : Nat → ClassId} {ad : Nat → Nat} {h : List zE} {k : Nat} {c : zE} (hk : h[k]? = some c) : (zH tc ad h)[k]? = some (ad k, zcE tc ad c) := by
  unfold zH
  rw [List.getElem?_mapIdx, hk]
  rfl
theorem zH_of {tc : Nat → ClassId} {ad : Nat → Nat} {h : List zE} {k : Nat} {q : Nat × va_E} (hk : (zH tc ad h)[k]? = some q) : ∃ c, h[k]? = some c ∧ q = (ad k, zcE tc ad c) := by
  unfold zH at hk
  rw [List.getElem?_mapIdx] at hk
  cases e : h[k]? with
  | none => rw [e] at hk; cases hk
  | some c => rw [e] at hk; exact ⟨c, rfl, (Option.some.inj hk).symm⟩
theorem zH_set {tc : Nat → ClassId} {ad : Nat → Nat} {h : List zE} {k : Nat} {c : zE} : (zH tc ad h).set k (ad k, zcE tc ad c) = zH tc ad (h.set k c) := by
  apply List.ext_getElem?
  intro i
  unfold zH
  rw [List.getElem?_set, List.getElem?_mapIdx, List.getElem?_mapIdx, List.getElem?_set, List.length_mapIdx]
  by_cases e : k = i
  · subst e
    by_cases g : k < h.length <;> simp [g]
  · simp [e]
theorem zH_len {tc : Nat → ClassId} {ad : Nat → Nat} {h : List zE} : (zH tc ad h).length = h.length := by
  unfold zH
  exact List.length_mapIdx
/-- what holds no reference to the cells n0 .. n1 - 1 -/
def zfv (n0 n1 : Nat) (v : Value) : Bool := match v with
  | .ref k => decide (k < n0) || decide (n1 ≤ k)
  | _ => true
def zfc (n0 n1 : Nat) (c : zE) : Bool := match c with
  | .inl _ => true
  | .inr o => o.2.all (zfv n0 n1)
def zfo (n0 n1 : Nat) (x : Option Value) : Bool := match x with
  | none => true
  | some v => zfv n0 n1 v
theorem zfv_eq {ad ad' : Nat → Nat} {n0 n1 : Nat} {v : Value} (h : zfv n0 n1 v = true) (ha : ∀ k, k < n0 ∨ n1 ≤ k → ad' k = ad k) : zc ad' v = zc ad v := by
  cases v <;> try rfl
  case ref k =>
    simp only [zfv, Bool.or_eq_true, decide_eq_true_eq] at h
    exact congrArg Value.ref (ha k h)
theorem zfv_nn (n : Nat) (v : Value) : zfv n n v = true := by
  cases v <;> try rfl
  case ref k =>
    simp only [zfv, Bool.or_eq_true, decide_eq_true_eq]
    exact Nat.lt_or_ge k n
theorem zfo_nn (n : Nat) (v : Option Value) : zfo n n v = true := by
  cases v with
  | none => rfl
  | some v => exact zfv_nn n v
theorem zfs_eq {ad ad' : Nat → Nat} {n0 n1 : Nat} {st : List Value} (h : st.all (zfv n0 n1) = true) (ha : ∀ k, k < n0 ∨ n1 ≤ k → ad' k = ad k) : st.map (zc ad') = st.map (zc ad) :=
  List.map_congr_left fun v hv => zfv_eq (List.all_eq_true.mp h v hv) ha
theorem zfc_eq {tc : Nat → ClassId} {ad ad' : Nat → Nat} {n0 n1 : Nat} {c : zE} (h : zfc n0 n1 c = true) (ha : ∀ k, k < n0 ∨ n1 ≤ k → ad' k = ad k) : zcE tc ad' c = zcE tc ad c := by
  cases c with
  | inl a => rfl
  | inr o => exact congrArg (fun x => (Sum.inr (o.1, x) : va_E)) (zfs_eq (show o.2.all (zfv n0 n1) = true from h) ha)
theorem zH_eq {tc : Nat → ClassId} {ad ad' : Nat → Nat} {n1 : Nat} {h : List zE} (hh : h.all (zfc h.length n1) = true) (ha : ∀ k, k < h.length ∨ n1 ≤ k → ad' k = ad k) : zH tc ad' h = zH tc ad h := by
  apply List.ext_getElem?
  intro i
  unfold zH
  rw [List.getElem?_mapIdx, List.getElem?_mapIdx]
  cases e : h[i]? with
  | none => rfl
  | some c =>
    have hi : i < h.length := (List.getElem?_eq_some_iff.mp e).1
    have hc := zfc_eq (tc := tc) (List.all_eq_true.mp hh c (List.mem_of_getElem? e)) ha
    show some (ad' i, zcE tc ad' c) = some (ad i, zcE tc ad c)
    rw [hc, ha i (Or.inl hi)]
theorem zH_push {tc : Nat → ClassId} {ad : Nat → Nat} {h : List zE} {c : zE} {q : Nat} (hh : h.all (zfc h.length (h.length + 1)) = true) (hc : zfc h.length (h.length + 1) c = true) :
    zH tc (fun k => if k = h.length then q else ad k) (h ++ [c]) = zH tc ad h ++ [(q, zcE tc ad c)] := by
  have ha : ∀ k, k < h.length ∨ h.length + 1 ≤ k → (fun k => if k = h.length then q else ad k) k = ad k := fun k hk => if_neg (by omega)
  have e1 := zH_eq (tc := tc) hh ha
  have e2 := zfc_eq (tc := tc) hc ha
  unfold zH at e1 ⊢
  rw [List.mapIdx_append, e1]
  refine congrArg (fun x => List.mapIdx (fun k c => (ad k, zcE tc ad c)) h ++ x) ?_
  show [((fun k => if k = h.length then q else ad k) (0 + h.length), zcE tc _ c)] = _
  rw [e2]
  simp
/-! globals: launch, numbers of classes and slots, array classes (0 int[], 1 long[]), addresses of what nobody writes (cells from 1000 on), what is known of them -/
abbrev zGl : Type := Launch × va_G × (Nat → ClassId) × (Nat → Nat) × ((Nat → Prop) → State → Heap → Prop)
abbrev zMd : Type := MethodName × ByteArray × Nat × Option FieldType
abbrev zO : Type := Option Value ⊕ String
abbrev zty (g : zGl) : List (ClassId × FieldType) := [(g.2.2.1 0, .int), (g.2.2.1 1, .long)]
def zRm (d mc ms : Nat) : Room := { frames := 20 + d, cells := mc, slots := ms, locals := 300 + 40 * d }
def zRo (R : Room) (d mc ms : Nat) : Prop := 20 + d ≤ R.frames ∧ 300 + 40 * d ≤ R.locals ∧ mc ≤ R.cells ∧ ms ≤ R.slots
/-- what stays while a method runs -/
def zFx (g : zGl) (M : zMd) (p : Program) (s : State) (m : MethodId) (args : Array Value) (meth : Method) (c : Code) : Prop :=
  p.tables.exec = Jvm.exec ∧ c.code = M.2.1 ∧ c.maxLocals = M.2.2.1 ∧ meth.sig.returnType = M.2.2.2 ∧ meth.locks = false ∧ s.vm.findClass M.1.cls = some m.cls ∧ (∀ w ∈ zT, w.before args s = true) ∧ (∀ x ∈ c.exceptionTable.toList, False) ∧ meth.name = M.1.name ∧ va_K g.2.1 vwCl (zty g) s
/-- the cells -/
def zSt (g : zGl) (A : Nat → Prop) (s : State) (ad : Nat → Nat) (h : List zE) (H : Heap) (locs : List Loc) : Prop :=
  va_P g.2.1 vwCl (zH g.2.2.1 ad h) H ∧ va_D A (zH g.2.2.1 ad h) ∧ va_S A s.heap H locs ∧ (∀ q, s.heap.size ≤ q → A q) ∧ g.2.2.2.2 A s s.heap ∧ (∀ i, ad (1000 + i) = g.2.2.2.1 i) ∧ h.length ≤ 1000
def zLo (cls : Array Slot) (nL : Nat) (ad : Nat → Nat) (ls : List (Option Value)) : Prop := cls.size = nL ∧ lv_wf cls ∧ ∀ (i : Nat) (v : Value), ls[i]? = some (some v) → cls[i]? = some (.val (zc ad v))
def zEn (g : zGl) (ad0 : Nat → Nat) (n0 : Nat) (A : Nat → Prop) (ad : Nat → Nat) (h : List zE) (st t : State) : Prop :=
  (∀ k, k < n0 ∨ h.length ≤ k → ad k = ad0 k) ∧ n0 ≤ h.length ∧ h.length ≤ 1000 ∧ va_P g.2.1 vwCl (zH g.2.2.1 ad h) t.heap ∧ va_D A (zH g.2.2.1 ad h) ∧ va_F A st t
def zQc (g : zGl) (Q : zO → List zE → Prop) (ad0 : Nat → Nat) (n0 : Nat) (A : Nat → Prop) : Array Value → State → Outcome → State → Prop := fun _ st o t =>
  ∃ (v : Option Value) (h : List zE) (ad : Nat → Nat), o = .returned (v.map (zc ad)) ∧ Q (.inl v) h ∧ zEn g ad0 n0 A ad h st t
def zXC (g : zGl) (Q : zO → List zE → Prop) (ad0 : Nat → Nat) (n0 : Nat) (A : Nat → Prop) : String → State → State → Prop := fun E st t =>
  ∃ (h : List zE) (ad : Nat → Nat), Q (.inr E) h ∧ zEn g ad0 n0 A ad h st t
def zW (g : zGl) (M : zMd) (d mc ms n0 : Nat) (Q : zO → List zE → Prop) (cells slots : Nat) (h : List zE) (ls : List (Option Value)) (st : List Value) (pc : Nat) : Prop :=
  ∀ (p : Program) (e : Env) (R : Room) (s : State) (m : MethodId) (args : Array Value) (below : List Frame) (meth : Method) (c : Code) (H : Heap) (locs : List Loc) (A : Nat → Prop) (ad ad0 : Nat → Nat) (cls : Array Slot),
    zFx g M p s m args meth c → zRo R d mc ms → zSt g A s ad h H locs → (∀ k, k < n0 ∨ h.length ≤ k → ad k = ad0 k) → n0 ≤ h.length → zLo cls M.2.2.1 ad ls →
    W p g.1 e R s m args below meth c H locs cells slots (vx_MQ below (zQc g Q ad0 n0 A) (zXC g Q ad0 n0 A) args s mc ms A) (F0 m pc cls (st.map (zc ad)))
abbrev zPc (g : zGl) (ad : Nat → Nat) (as : List Value) (h : List zE) (sz : Nat) : Array Value → State → Prop :=
  va_Pc (as.map (zc ad)) (fun U => U.heap.size = sz ∧ va_P g.2.1 vwCl (zH g.2.2.1 ad h) U.heap ∧ va_K g.2.1 vwCl (zty g) U ∧ va_D (va_A (zH g.2.2.1 ad h) sz) (zH g.2.2.1 ad h) ∧ g.2.2.2.2 (va_A (zH g.2.2.1 ad h) sz) U U.heap)
def zMet (g : zGl) (M : zMd) (d mc ms : Nat) (as : List Value) (h : List zE) (Q : zO → List zE → Prop) : Prop :=
  h.length ≤ 1000 → ∀ (ad : Nat → Nat) (sz : Nat), (∀ i, ad (1000 + i) = g.2.2.2.1 i) →
    vx_Met g.1 M.1 (Cond.code M.1 M.2.1 M.2.2.1 M.2.2.2 :: zT) (zRm d mc ms) (zPc g ad as h sz) (zQc g Q ad h.length (va_A (zH g.2.2.1 ad h) sz)) (zXC g Q ad h.length (va_A (zH g.2.2.1 ad h) sz)) mc ms (va_A (zH g.2.2.1 ad h) sz)
/-- the locals with which a method begins -/
def zar : List Value → List (Option Value)
  | [] => []
  | v :: r => if v.category = 2 then some v :: none :: zar r else some v :: zar r
def zen (nL : Nat) (as : List Value) : List (Option Value) := zar as ++ List.replicate (nL - (zar as).length) none
def zIsN (w : Cond) : Bool := match w with
  | .fieldLinkNest .. => true
  | .declares .. => true
  | .castable .. => true
  | _ => false
/-- the words on nest mates' fields -/
def zNs : List Cond := lw_tbl.filter zIsN
theorem zNs_mk {w : Cond} (h : w ∈ lw_tbl) (hg : zIsN w = true) : w ∈ zNs := List.mem_filter.mpr ⟨h, hg⟩
theorem zNs_on {w : Cond} (h : w ∈ zNs) : w.onTables = true := by
  have h2 := (List.mem_filter.mp h).2
  cases w <;> first | rfl | (simp [zIsN] at h2; done)
/-- what is asked of the knowledge of what nobody writes -/
def zGok (g : zGl) : Prop := (∀ (A : Nat → Prop) (u U : State) (H : Heap), u.WarmedH U.vm → g.2.2.2.2 A u H → g.2.2.2.2 A U H) ∧ (∀ (A : Nat → Prop) (U : State) (H H1 : Heap), (∀ a : Nat, a < H.size → ¬ A a → H1[a]? = H[a]?) → g.2.2.2.2 A U H → g.2.2.2.2 A U H1) ∧ (∀ (A B : Nat → Prop) (U : State) (H : Heap), (∀ q, B q → A q) → g.2.2.2.2 A U H → g.2.2.2.2 B U H) ∧ (∀ (A : Nat → Prop) (U : State) (H : Heap), g.2.2.2.2 A U H → ∀ w ∈ zNs, va_Nw w U) ∧ (∀ (A : Nat → Prop) (U : State) (H : Heap), g.2.2.2.2 A U H → zKn g.2.2.2.1 A U H) ∧ g.1.stackTraces = false


theorem zar_at {ad : Nat → Nat} : ∀ (as : List Value) (b i : Nat) (v : Value), (zar as)[i]? = some (some v) → (b + i, zc ad v) ∈ lv_args b (as.map (zc ad))
  | [], _, i, v, h => by simp [zar] at h
  | a :: r, b, i, v, h => by
    show _ ∈ (b, zc ad a) :: lv_args (if (zc ad a).category = 2 then b + 2 else b + 1) (r.map (zc ad))
    rw [zc_cat]
    unfold zar at h
    by_cases hc : a.category = 2
    · rw [if_pos hc] at h
      rw [if_pos hc]
      match i, h with
      | 0, h => cases h; exact List.mem_cons_self
      | 1, h => simp at h
      | i + 2, h =>
        have := zar_at (ad := ad) r (b + 2) i v (by simpa using h)
        exact List.mem_cons_of_mem _ (by rw [show b + (i + 2) = b + 2 + i by omega]; exact this)
    · rw [if_neg hc] at h
      rw [if_neg hc]
      match i, h with
      | 0, h => cases h; exact List.mem_cons_self
      | i + 1, h =>
        have := zar_at (ad := ad) r (b + 1) i v (by simpa using h)
        exact List.mem_cons_of_mem _ (by rw [show b + (i + 1) = b + 1 + i by omega]; exact this)
theorem zar_len {ad : Nat → Nat} : ∀ (as : List Value), (lg_sl (as.map (zc ad))).length = (zar as).length
  | [] => rfl
  | a :: r => by
    have ih := zar_len (ad := ad) r
    unfold lg_sl at ih ⊢
    unfold zar
    rw [List.map_cons, List.flatMap_cons, List.length_append, ih, zc_cat]
    by_cases hc : a.category = 2
    · rw [if_pos hc, if_pos hc]; simp; omega
    · rw [if_neg hc, if_neg hc]; simp; omega
theorem zLo_en {ad : Nat → Nat} {as : List Value} {nL : Nat} (hl : (zar as).length ≤ nL) :
    zLo ((lg_sl (as.map (zc ad)) ++ List.replicate (nL - (lg_sl (as.map (zc ad))).length) Slot.unset).toArray) nL ad (zen nL as) := by
  have h := lv_entry (as.map (zc ad)) (n := nL) (by rw [zar_len]; exact hl)
  refine ⟨h.1, h.2.1, fun i v hi => ?_⟩
  unfold zen at hi
  rw [List.getElem?_append] at hi
  split at hi
  · have := zar_at (ad := ad) as 0 i v hi
    rw [Nat.zero_add] at this
    exact h.2.2 _ this
  · rw [List.getElem?_replicate] at hi
    split at hi <;> simp at hi
theorem zMet.ofW {g : zGl} {M : zMd} {d mc ms : Nat} {as : List Value} {h : List zE} {Q : zO → List zE → Prop} (hy : plainName M.1.cls = true) (hl : (zar as).length ≤ M.2.2.1)
    (k : zW g M d mc ms h.length Q 0 0 h (zen M.2.2.1 as) [] 0) : zMet g M d mc ms as h Q := by
  intro hh ad sz hsa
  refine vx_ofW (cc := M.2.1) (maxL := M.2.2.1) (ret := M.2.2.2) hy rfl ?_
  intro p e s m args below meth c s₁ B hml htab hv
  obtain ⟨rfl, hsz, hP, hK, hD, hG⟩ := hv
  subst hsz
  have hts0 := atoms_spec (ws := Cond.code M.1 M.2.1 M.2.2.1 M.2.2.2 :: zT) B.pre
  have K := k p e (zRm d mc ms) s m (as.map (zc ad)).toArray below meth c s.heap [] (va_A (zH g.2.2.1 ad h) s.heap.size) ad ad _
    ⟨B.exec, B.bytes, hml, B.returns, B.notSynchronized, findClass_of_methodNamed B.named, fun w hw => hts0 w (List.mem_cons_of_mem _ hw), htab, (name_of_methodNamed B.named B.method).1, hK⟩
    ⟨Nat.le_refl _, Nat.le_refl _, Nat.le_refl _, Nat.le_refl _⟩ ⟨hP, hD, va_S.rf, fun q hq => Or.inr hq, hG, hsa, hh⟩ (fun _ _ => rfl) (Nat.le_refl _) (zLo_en hl)
  rw [lg_entry_eq]
  exact K

section ZR
variable {g : zGl} {M : zMd} {d mc ms n0 cells slots pc : Nat} {Q : zO → List zE → Prop} {h : List zE} {ls : List (Option Value)} {st : List Value}
theorem z_iadd {x y : Int32} (hd : decode M.2.1 pc = .ok (.iadd, 1)) (k : zW g M d mc ms n0 Q cells slots h ls (.int (x + y) :: st) (pc + 1)) : zW g M d mc ms n0 Q cells slots h ls (.int y :: .int x :: st) (pc) := by
  intro p e R s m args below meth c H locs A ad ad0 cls F Ro S E hn L
  exact lv_iadd F.1 F.2.1 hd (k p e R s m args below meth c H locs A ad ad0 cls F Ro S E hn L)
theorem z_isub {x y : Int32} (hd : decode M.2.1 pc = .ok (.isub, 1)) (k : zW g M d mc ms n0 Q cells slots h ls (.int (x - y) :: st) (pc + 1)) : zW g M d mc ms n0 Q cells slots h ls (.int y :: .int x :: st) (pc) := by
  intro p e R s m args below meth c H locs A ad ad0 cls F Ro S E hn L
  exact lv_isub F.1 F.2.1 hd (k p e R s m args below meth c H locs A ad ad0 cls F Ro S E hn L)
theorem z_imul {x y : Int32} (hd : decode M.2.1 pc = .ok (.imul, 1)) (k : zW g M d mc ms n0 Q cells slots h ls (.int (x * y) :: st) (pc + 1)) : zW g M d mc ms n0 Q cells slots h ls (.int y :: .int x :: st) (pc) := by
  intro p e R s m args below meth c H locs A ad ad0 cls F Ro S E hn L
  exact lv_imul F.1 F.2.1 hd (k p e R s m args below meth c H locs A ad ad0 cls F Ro S E hn L)
theorem z_iand {x y : Int32} (hd : decode M.2.1 pc = .ok (.iand, 1)) (k : zW g M d mc ms n0 Q cells slots h ls (.int (x &&& y) :: st) (pc + 1)) : zW g M d mc ms n0 Q cells slots h ls (.int y :: .int x :: st) (pc) := by
  intro p e R s m args below meth c H locs A ad ad0 cls F Ro S E hn L
  exact lv_iand F.1 F.2.1 hd (k p e R s m args below meth c H locs A ad ad0 cls F Ro S E hn L)
theorem z_ior {x y : Int32} (hd : decode M.2.1 pc = .ok (.ior, 1)) (k : zW g M d mc ms n0 Q cells slots h ls (.int (x ||| y) :: st) (pc + 1)) : zW g M d mc ms n0 Q cells slots h ls (.int y :: .int x :: st) (pc) := by
  intro p e R s m args below meth c H locs A ad ad0 cls F Ro S E hn L
  exact lv_ior F.1 F.2.1 hd (k p e R s m args below meth c H locs A ad ad0 cls F Ro S E hn L)
theorem z_ixor {x y : Int32} (hd : decode M.2.1 pc = .ok (.ixor, 1)) (k : zW g M d mc ms n0 Q cells slots h ls (.int (x ^^^ y) :: st) (pc + 1)) : zW g M d mc ms n0 Q cells slots h ls (.int y :: .int x :: st) (pc) := by
  intro p e R s m args below meth c H locs A ad ad0 cls F Ro S E hn L
  exact lv_ixor F.1 F.2.1 hd (k p e R s m args below meth c H locs A ad ad0 cls F Ro S E hn L)
theorem z_ladd {x y : Int64} (hd : decode M.2.1 pc = .ok (.ladd, 1)) (k : zW g M d mc ms n0 Q cells slots h ls (.long (x + y) :: st) (pc + 1)) : zW g M d mc ms n0 Q cells slots h ls (.long y :: .long x :: st) (pc) := by
  intro p e R s m args below meth c H locs A ad ad0 cls F Ro S E hn L
  exact lv_ladd F.1 F.2.1 hd (k p e R s m args below meth c H locs A ad ad0 cls F Ro S E hn L)
theorem z_lsub {x y : Int64} (hd : decode M.2.1 pc = .ok (.lsub, 1)) (k : zW g M d mc ms n0 Q cells slots h ls (.long (x - y) :: st) (pc + 1)) : zW g M d mc ms n0 Q cells slots h ls (.long y :: .long x :: st) (pc) := by
  intro p e R s m args below meth c H locs A ad ad0 cls F Ro S E hn L
  exact lv_lsub F.1 F.2.1 hd (k p e R s m args below meth c H locs A ad ad0 cls F Ro S E hn L)
theorem z_lmul {x y : Int64} (hd : decode M.2.1 pc = .ok (.lmul, 1)) (k : zW g M d mc ms n0 Q cells slots h ls (.long (x * y) :: st) (pc + 1)) : zW g M d mc ms n0 Q cells slots h ls (.long y :: .long x :: st) (pc) := by
  intro p e R s m args below meth c H locs A ad ad0 cls F Ro S E hn L
  exact lv_lmul F.1 F.2.1 hd (k p e R s m args below meth c H locs A ad ad0 cls F Ro S E hn L)
theorem z_land {x y : Int64} (hd : decode M.2.1 pc = .ok (.land, 1)) (k : zW g M d mc ms n0 Q cells slots h ls (.long (x &&& y) :: st) (pc + 1)) : zW g M d mc ms n0 Q cells slots h ls (.long y :: .long x :: st) (pc) := by
  intro p e R s m args below meth c H locs A ad ad0 cls F Ro S E hn L
  exact lv_land F.1 F.2.1 hd (k p e R s m args below meth c H locs A ad ad0 cls F Ro S E hn L)
theorem z_lor {x y : Int64} (hd : decode M.2.1 pc = .ok (.lor, 1)) (k : zW g M d mc ms n0 Q cells slots h ls (.long (x ||| y) :: st) (pc + 1)) : zW g M d mc ms n0 Q cells slots h ls (.long y :: .long x :: st) (pc) := by
  intro p e R s m args below meth c H locs A ad ad0 cls F Ro S E hn L
  exact lv_lor F.1 F.2.1 hd (k p e R s m args below meth c H locs A ad ad0 cls F Ro S E hn L)
theorem z_idiv {x y : Int32} (hd : decode M.2.1 pc = .ok (.idiv, 1)) (hne : ¬ y = 0) (k : zW g M d mc ms n0 Q cells slots h ls (.int (x / y) :: st) (pc + 1)) : zW g M d mc ms n0 Q cells slots h ls (.int y :: .int x :: st) (pc) := by
  intro p e R s m args below meth c H locs A ad ad0 cls F Ro S E hn L
  exact lv_idiv F.1 F.2.1 hd hne (k p e R s m args below meth c H locs A ad ad0 cls F Ro S E hn L)
theorem z_irem {x y : Int32} (hd : decode M.2.1 pc = .ok (.irem, 1)) (hne : ¬ y = 0) (k : zW g M d mc ms n0 Q cells slots h ls (.int (x - x / y * y) :: st) (pc + 1)) : zW g M d mc ms n0 Q cells slots h ls (.int y :: .int x :: st) (pc) := by
  intro p e R s m args below meth c H locs A ad ad0 cls F Ro S E hn L
  exact lv_irem F.1 F.2.1 hd hne (k p e R s m args below meth c H locs A ad ad0 cls F Ro S E hn L)
theorem z_ldiv {x y : Int64} (hd : decode M.2.1 pc = .ok (.ldiv, 1)) (hne : ¬ y = 0) (k : zW g M d mc ms n0 Q cells slots h ls (.long (x / y) :: st) (pc + 1)) : zW g M d mc ms n0 Q cells slots h ls (.long y :: .long x :: st) (pc) := by
  intro p e R s m args below meth c H locs A ad ad0 cls F Ro S E hn L
  exact lv_ldiv F.1 F.2.1 hd hne (k p e R s m args below meth c H locs A ad ad0 cls F Ro S E hn L)
theorem z_lrem {x y : Int64} (hd : decode M.2.1 pc = .ok (.lrem, 1)) (hne : ¬ y = 0) (k : zW g M d mc ms n0 Q cells slots h ls (.long (x - x / y * y) :: st) (pc + 1)) : zW g M d mc ms n0 Q cells slots h ls (.long y :: .long x :: st) (pc) := by
  intro p e R s m args below meth c H locs A ad ad0 cls F Ro S E hn L
  exact lv_lrem F.1 F.2.1 hd hne (k p e R s m args below meth c H locs A ad ad0 cls F Ro S E hn L)
theorem z_ineg {x : Int32} (hd : decode M.2.1 pc = .ok (.ineg, 1)) (k : zW g M d mc ms n0 Q cells slots h ls (.int (-x) :: st) (pc + 1)) : zW g M d mc ms n0 Q cells slots h ls (.int x :: st) (pc) := by
  intro p e R s m args below meth c H locs A ad ad0 cls F Ro S E hn L
  exact lv_ineg F.1 F.2.1 hd (k p e R s m args below meth c H locs A ad ad0 cls F Ro S E hn L)
theorem z_i2l {x : Int32} (hd : decode M.2.1 pc = .ok (.i2l, 1)) (k : zW g M d mc ms n0 Q cells slots h ls (.long (x.toInt64) :: st) (pc + 1)) : zW g M d mc ms n0 Q cells slots h ls (.int x :: st) (pc) := by
  intro p e R s m args below meth c H locs A ad ad0 cls F Ro S E hn L
  exact lv_i2l F.1 F.2.1 hd rfl (k p e R s m args below meth c H locs A ad ad0 cls F Ro S E hn L)
theorem z_l2i {x : Int64} (hd : decode M.2.1 pc = .ok (.l2i, 1)) (k : zW g M d mc ms n0 Q cells slots h ls (.int (x.toInt32) :: st) (pc + 1)) : zW g M d mc ms n0 Q cells slots h ls (.long x :: st) (pc) := by
  intro p e R s m args below meth c H locs A ad ad0 cls F Ro S E hn L
  exact lv_l2i F.1 F.2.1 hd rfl (k p e R s m args below meth c H locs A ad ad0 cls F Ro S E hn L)
theorem z_iushr {x y : Int32} (hd : decode M.2.1 pc = .ok (.iushr, 1)) (k : zW g M d mc ms n0 Q cells slots h ls (.int ((x.toUInt32 >>> (y.toUInt32 &&& Int32.toUInt32 31)).toInt32) :: st) (pc + 1)) : zW g M d mc ms n0 Q cells slots h ls (.int y :: .int x :: st) (pc) := by
  intro p e R s m args below meth c H locs A ad ad0 cls F Ro S E hn L
  exact lv_iushr F.1 F.2.1 hd rfl (k p e R s m args below meth c H locs A ad ad0 cls F Ro S E hn L)
theorem z_lushr {x : Int64} {y : Int32} (hd : decode M.2.1 pc = .ok (.lushr, 1)) (k : zW g M d mc ms n0 Q cells slots h ls (.long ((x.toUInt64 >>> (y.toInt64.toUInt64 &&& Int64.toUInt64 63)).toInt64) :: st) (pc + 1)) : zW g M d mc ms n0 Q cells slots h ls (.int y :: .long x :: st) (pc) := by
  intro p e R s m args below meth c H locs A ad ad0 cls F Ro S E hn L
  exact lv_lushr F.1 F.2.1 hd rfl (k p e R s m args below meth c H locs A ad ad0 cls F Ro S E hn L)
theorem z_ishl {x y : Int32} (hd : decode M.2.1 pc = .ok (.ishl, 1)) (k : zW g M d mc ms n0 Q cells slots h ls (.int (x <<< (y &&& 31)) :: st) (pc + 1)) : zW g M d mc ms n0 Q cells slots h ls (.int y :: .int x :: st) (pc) := by
  intro p e R s m args below meth c H locs A ad ad0 cls F Ro S E hn L
  exact lv_ishl F.1 F.2.1 hd (k p e R s m args below meth c H locs A ad ad0 cls F Ro S E hn L)
theorem z_ishr {x y : Int32} (hd : decode M.2.1 pc = .ok (.ishr, 1)) (k : zW g M d mc ms n0 Q cells slots h ls (.int (x >>> (y &&& 31)) :: st) (pc + 1)) : zW g M d mc ms n0 Q cells slots h ls (.int y :: .int x :: st) (pc) := by
  intro p e R s m args below meth c H locs A ad ad0 cls F Ro S E hn L
  exact lv_ishr F.1 F.2.1 hd (k p e R s m args below meth c H locs A ad ad0 cls F Ro S E hn L)
theorem z_lshl {x : Int64} {y : Int32} (hd : decode M.2.1 pc = .ok (.lshl, 1)) (k : zW g M d mc ms n0 Q cells slots h ls (.long (x <<< (y.toInt64 &&& 63)) :: st) (pc + 1)) : zW g M d mc ms n0 Q cells slots h ls (.int y :: .long x :: st) (pc) := by
  intro p e R s m args below meth c H locs A ad ad0 cls F Ro S E hn L
  exact lv_lshl F.1 F.2.1 hd rfl (k p e R s m args below meth c H locs A ad ad0 cls F Ro S E hn L)
theorem z_lshr {x : Int64} {y : Int32} (hd : decode M.2.1 pc = .ok (.lshr, 1)) (k : zW g M d mc ms n0 Q cells slots h ls (.long (x >>> (y.toInt64 &&& 63)) :: st) (pc + 1)) : zW g M d mc ms n0 Q cells slots h ls (.int y :: .long x :: st) (pc) := by
  intro p e R s m args below meth c H locs A ad ad0 cls F Ro S E hn L
  exact lv_lshr F.1 F.2.1 hd rfl (k p e R s m args below meth c H locs A ad ad0 cls F Ro S E hn L)
theorem z_lcmp {x y : Int64} (hd : decode M.2.1 pc = .ok (.lcmp, 1)) (k : zW g M d mc ms n0 Q cells slots h ls (.int (lg_cmp x y) :: st) (pc + 1)) : zW g M d mc ms n0 Q cells slots h ls (.long y :: .long x :: st) (pc) := by
  intro p e R s m args below meth c H locs A ad ad0 cls F Ro S E hn L
  exact W.lcmp F.1 F.2.1 hd (k p e R s m args below meth c H locs A ad ad0 cls F Ro S E hn L)
theorem z_iconst {i : Int} (v : Int32) (hd : decode M.2.1 pc = .ok (.iconst i, 1)) (hv : Int32.ofInt i = v) (k : zW g M d mc ms n0 Q cells slots h ls (.int v :: st) (pc + 1)) : zW g M d mc ms n0 Q cells slots h ls (st) (pc) := by
  intro p e R s m args below meth c H locs A ad ad0 cls F Ro S E hn L
  exact lv_iconst F.1 F.2.1 hd hv (k p e R s m args below meth c H locs A ad ad0 cls F Ro S E hn L)
theorem z_bipush {i : Int} (v : Int32) (hd : decode M.2.1 pc = .ok (.bipush i, 2)) (hv : (Int8.ofInt i).toInt32 = v) (k : zW g M d mc ms n0 Q cells slots h ls (.int v :: st) (pc + 2)) : zW g M d mc ms n0 Q cells slots h ls (st) (pc) := by
  intro p e R s m args below meth c H locs A ad ad0 cls F Ro S E hn L
  exact lv_bipush F.1 F.2.1 hd hv (k p e R s m args below meth c H locs A ad ad0 cls F Ro S E hn L)
theorem z_sipush {i : Int} (v : Int32) (hd : decode M.2.1 pc = .ok (.sipush i, 3)) (hv : (Int16.ofInt i).toInt32 = v) (k : zW g M d mc ms n0 Q cells slots h ls (.int v :: st) (pc + 3)) : zW g M d mc ms n0 Q cells slots h ls (st) (pc) := by
  intro p e R s m args below meth c H locs A ad ad0 cls F Ro S E hn L
  exact lv_sipush F.1 F.2.1 hd hv (k p e R s m args below meth c H locs A ad ad0 cls F Ro S E hn L)
theorem z_lconst {i : Fin 2} (v : Int64) (hd : decode M.2.1 pc = .ok (.lconst i, 1)) (hv : Int64.ofNat (i : Nat) = v) (k : zW g M d mc ms n0 Q cells slots h ls (.long v :: st) (pc + 1)) : zW g M d mc ms n0 Q cells slots h ls (st) (pc) := by
  intro p e R s m args below meth c H locs A ad ad0 cls F Ro S E hn L
  exact lv_lconst F.1 F.2.1 hd hv (k p e R s m args below meth c H locs A ad ad0 cls F Ro S E hn L)
theorem z_ldc {i : Nat} {v : Int32} (hd : decode M.2.1 pc = .ok (.ldc i, 2)) (hw : Cond.constant M.1.cls i v ∈ zT) (k : zW g M d mc ms n0 Q cells slots h ls (.int v :: st) (pc + 2)) : zW g M d mc ms n0 Q cells slots h ls (st) (pc) := by
  intro p e R s m args below meth c H locs A ad ad0 cls F Ro S E hn L
  exact W.ldc F.1 F.2.1 F.2.2.2.2.2.1 (F.2.2.2.2.2.2.1 _ hw) rfl hd (k p e R s m args below meth c H locs A ad ad0 cls F Ro S E hn L)
theorem z_ldc2 {i : Nat} {v : Int64} (hd : decode M.2.1 pc = .ok (.ldc2_w i, 3)) (hw : Cond.constantLong M.1.cls i v ∈ zT) (k : zW g M d mc ms n0 Q cells slots h ls (.long v :: st) (pc + 3)) : zW g M d mc ms n0 Q cells slots h ls (st) (pc) := by
  intro p e R s m args below meth c H locs A ad ad0 cls F Ro S E hn L
  exact W.ldc2 F.1 F.2.1 F.2.2.2.2.2.1 (F.2.2.2.2.2.2.1 _ hw) rfl hd (k p e R s m args below meth c H locs A ad ad0 cls F Ro S E hn L)
theorem z_null  (hd : decode M.2.1 pc = .ok (.aconst_null, 1)) (k : zW g M d mc ms n0 Q cells slots h ls (.null :: st) (pc + 1)) : zW g M d mc ms n0 Q cells slots h ls (st) (pc) := by
  intro p e R s m args below meth c H locs A ad ad0 cls F Ro S E hn L
  exact lv_null F.1 F.2.1 hd (k p e R s m args below meth c H locs A ad ad0 cls F Ro S E hn L)
theorem z_iload_n {j : Fin 4} {x : Int32} (hd : decode M.2.1 pc = .ok (.iload_n j, 1)) (hl : ls[(j : Nat)]? = some (some (.int x))) (k : zW g M d mc ms n0 Q cells slots h ls (.int x :: st) (pc + 1)) : zW g M d mc ms n0 Q cells slots h ls (st) (pc) := by
  intro p e R s m args below meth c H locs A ad ad0 cls F Ro S E hn L
  exact lv_iload_n F.1 F.2.1 hd rfl (L.2.2 _ _ hl) (k p e R s m args below meth c H locs A ad ad0 cls F Ro S E hn L)
theorem z_iload {i : Nat} {x : Int32} (hd : decode M.2.1 pc = .ok (.iload i, 2)) (hl : ls[i]? = some (some (.int x))) (k : zW g M d mc ms n0 Q cells slots h ls (.int x :: st) (pc + 2)) : zW g M d mc ms n0 Q cells slots h ls (st) (pc) := by
  intro p e R s m args below meth c H locs A ad ad0 cls F Ro S E hn L
  exact lv_iload F.1 F.2.1 hd (L.2.2 _ _ hl) (k p e R s m args below meth c H locs A ad ad0 cls F Ro S E hn L)
theorem z_lload_n {j : Fin 4} {x : Int64} (hd : decode M.2.1 pc = .ok (.lload_n j, 1)) (hl : ls[(j : Nat)]? = some (some (.long x))) (k : zW g M d mc ms n0 Q cells slots h ls (.long x :: st) (pc + 1)) : zW g M d mc ms n0 Q cells slots h ls (st) (pc) := by
  intro p e R s m args below meth c H locs A ad ad0 cls F Ro S E hn L
  exact lv_lload_n F.1 F.2.1 hd rfl (L.2.2 _ _ hl) (k p e R s m args below meth c H locs A ad ad0 cls F Ro S E hn L)
theorem z_lload {i : Nat} {x : Int64} (hd : decode M.2.1 pc = .ok (.lload i, 2)) (hl : ls[i]? = some (some (.long x))) (k : zW g M d mc ms n0 Q cells slots h ls (.long x :: st) (pc + 2)) : zW g M d mc ms n0 Q cells slots h ls (st) (pc) := by
  intro p e R s m args below meth c H locs A ad ad0 cls F Ro S E hn L
  exact lv_lload F.1 F.2.1 hd (L.2.2 _ _ hl) (k p e R s m args below meth c H locs A ad ad0 cls F Ro S E hn L)
theorem z_aload_n {j : Fin 4} {x : Nat} (hd : decode M.2.1 pc = .ok (.aload_n j, 1)) (hl : ls[(j : Nat)]? = some (some (.ref x))) (k : zW g M d mc ms n0 Q cells slots h ls (.ref x :: st) (pc + 1)) : zW g M d mc ms n0 Q cells slots h ls (st) (pc) := by
  intro p e R s m args below meth c H locs A ad ad0 cls F Ro S E hn L
  exact lv_aload_n F.1 F.2.1 hd rfl (L.2.2 _ _ hl) (k p e R s m args below meth c H locs A ad ad0 cls F Ro S E hn L)
theorem z_aload {i : Nat} {x : Nat} (hd : decode M.2.1 pc = .ok (.aload i, 2)) (hl : ls[i]? = some (some (.ref x))) (k : zW g M d mc ms n0 Q cells slots h ls (.ref x :: st) (pc + 2)) : zW g M d mc ms n0 Q cells slots h ls (st) (pc) := by
  intro p e R s m args below meth c H locs A ad ad0 cls F Ro S E hn L
  exact lv_aload F.1 F.2.1 hd (L.2.2 _ _ hl) (k p e R s m args below meth c H locs A ad ad0 cls F Ro S E hn L)
theorem z_pop {v : Value} (hd : decode M.2.1 pc = .ok (.pop, 1)) (hc : v.category = 1) (k : zW g M d mc ms n0 Q cells slots h ls (st) (pc + 1)) : zW g M d mc ms n0 Q cells slots h ls (v :: st) (pc) := by
  intro p e R s m args below meth c H locs A ad ad0 cls F Ro S E hn L
  exact lv_pop F.1 F.2.1 hd ((zc_cat ad v).trans hc) (k p e R s m args below meth c H locs A ad ad0 cls F Ro S E hn L)
theorem z_dup {v : Value} (hd : decode M.2.1 pc = .ok (.dup, 1)) (hc : v.category = 1) (k : zW g M d mc ms n0 Q cells slots h ls (v :: v :: st) (pc + 1)) : zW g M d mc ms n0 Q cells slots h ls (v :: st) (pc) := by
  intro p e R s m args below meth c H locs A ad ad0 cls F Ro S E hn L
  exact lv_dup F.1 F.2.1 hd ((zc_cat ad v).trans hc) (k p e R s m args below meth c H locs A ad ad0 cls F Ro S E hn L)
theorem z_dup_x1 {v u : Value} (hd : decode M.2.1 pc = .ok (.dup_x1, 1)) (hc : v.category = 1) (hc2 : u.category = 1) (k : zW g M d mc ms n0 Q cells slots h ls (v :: u :: v :: st) (pc + 1)) : zW g M d mc ms n0 Q cells slots h ls (v :: u :: st) (pc) := by
  intro p e R s m args below meth c H locs A ad ad0 cls F Ro S E hn L
  exact lv_dup_x1 F.1 F.2.1 hd ((zc_cat ad v).trans hc) ((zc_cat ad u).trans hc2) (k p e R s m args below meth c H locs A ad ad0 cls F Ro S E hn L)
theorem z_dup2_11 {v u : Value} (hd : decode M.2.1 pc = .ok (.dup2, 1)) (hc : v.category = 1) (hc2 : u.category = 1) (k : zW g M d mc ms n0 Q cells slots h ls (v :: u :: v :: u :: st) (pc + 1)) : zW g M d mc ms n0 Q cells slots h ls (v :: u :: st) (pc) := by
  intro p e R s m args below meth c H locs A ad ad0 cls F Ro S E hn L
  exact lv_dup2_11 F.1 F.2.1 hd ((zc_cat ad v).trans hc) ((zc_cat ad u).trans hc2) (k p e R s m args below meth c H locs A ad ad0 cls F Ro S E hn L)
theorem z_goto {off : Int} (tgt : Nat) (hd : decode M.2.1 pc = .ok (.goto off, 3)) (ht : (pc : Int) + off = (tgt : Int)) (k : zW g M d mc ms n0 Q cells slots h ls (st) (tgt)) : zW g M d mc ms n0 Q cells slots h ls (st) (pc) := by
  intro p e R s m args below meth c H locs A ad ad0 cls F Ro S E hn L
  exact lv_goto F.1 F.2.1 hd ht (k p e R s m args below meth c H locs A ad ad0 cls F Ro S E hn L)
end ZR
