/-! what a class's words say of a field at a place in the pool of the class 'own': class ci of vwCl, slot k -/
def zFl (own : String) (idx ci k : Nat) : Prop := ∃ (C : String) (T : u_T) (N : Nat), vwCl[ci]? = some (C, T, N) ∧ k < N ∧ (∀ w ∈ u_ws C T N, w ∈ zT) ∧ Cond.fieldLink own idx (T k).1 (T k).2.1 (T k).2.2.1 ∈ zT
def zFn (own : String) (idx ci k : Nat) : Prop := ∃ (C : String) (T : u_T) (N : Nat) (host : String), vwCl[ci]? = some (C, T, N) ∧ k < N ∧ (∀ w ∈ u_ws C T N, w ∈ zT) ∧ Cond.fieldLinkNest own idx (T k).1 (T k).2.1 (T k).2.2.1 host ∈ zNs
/-- .. that may be written, of the type ty -/
def zFw (ci k : Nat) (fin : Bool) (ty : FieldType) : Prop := ∃ (C : String) (T : u_T) (N : Nat) (ty0 : Nat → FieldType), vwCl[ci]? = some (C, T, N) ∧ (∀ k, k < N → parseFieldDescriptor (T k).2.2.1 = some (ty0 k)) ∧ (∀ a, a < N → ∀ b, b < N → a ≠ b → (T a).2.1 ≠ (T b).2.1) ∧ (T k).2.2.2 = fin ∧ (T k).1 = C ∧ parseFieldDescriptor (T k).2.2.1 = some ty
def zNw (own : String) (idx ci : Nat) (fs : List Value) : Prop := ∃ (C : String) (T : u_T) (N : Nat) (ty : Nat → FieldType), vwCl[ci]? = some (C, T, N) ∧ fs.length = N ∧ (∀ w ∈ u_ws C T N, w ∈ zT) ∧ (∀ k, k < N → parseFieldDescriptor (T k).2.2.1 = some (ty k)) ∧ Cond.classLink own idx C ∈ zT ∧ Cond.instantiable C N ∈ zT ∧ Cond.initialized C ∈ zT ∧ ∀ j, j < N → defaultValue (ty j) = vp_V fs j
def zDs (y : MethodName) (n : Nat) : Prop := y.cls ≠ "java/lang/invoke/MethodHandle" ∧ y.cls ≠ "java/lang/invoke/VarHandle" ∧ (parseMethodDescriptor y.desc).map (fun d => d.parameters.length) = some n
def zCv (own : String) (idx : Nat) (M : zMd) (n : Nat) : Prop := Cond.methodLink own idx M.1 ∈ zT ∧ Cond.code M.1 M.2.1 M.2.2.1 M.2.2.2 ∈ zT ∧ Cond.instanceMethod M.1 ∈ zT ∧ Cond.selects M.1.cls M.1 M.1 ∈ zT ∧ Cond.initialized M.1.cls ∈ zT ∧ zDs M.1 n ∧ M.2.2.1 ≤ 21
def zCs (own : String) (idx : Nat) (M : zMd) (n : Nat) : Prop := Cond.methodLink own idx M.1 ∈ zT ∧ Cond.code M.1 M.2.1 M.2.2.1 M.2.2.2 ∈ zT ∧ Cond.static M.1 ∈ zT ∧ Cond.initialized M.1.cls ∈ zT ∧ zDs M.1 n ∧ M.2.2.1 ≤ 21
def zCi (own : String) (idx : Nat) (M : zMd) (n : Nat) : Prop := Cond.methodLink own idx M.1 ∈ zT ∧ Cond.code M.1 M.2.1 M.2.2.1 M.2.2.2 ∈ zT ∧ Cond.instanceMethod M.1 ∈ zT ∧ Cond.initialized M.1.cls ∈ zT ∧ M.1.name = "<init>" ∧ M.2.2.2 = none ∧ zDs M.1 n ∧ M.2.2.1 ≤ 21
section ZR
variable {g : zGl} {M : zMd} {d mc ms n0 cells slots pc : Nat} {Q : zO → List zE → Prop} {h : List zE} {ls ls' : List (Option Value)} {st : List Value}
theorem z_getf {idx ci k0 a : Nat} {fs : List Value} {v : Value} (hd : decode M.2.1 pc = .ok (.getfield idx, 3)) (hf : zFl M.1.cls idx ci k0) (hc : h[a]? = some (.inr (ci, fs))) (hv : fs[k0]? = some v) (k : zW g M d mc ms n0 Q cells slots (h) ls (v :: st) (pc + 3)) : zW g M d mc ms n0 Q cells slots (h) ls (.ref a :: st) (pc) := by
  intro p e R s m args below meth c H locs A ad ad0 cls F Ro S E hn L
  obtain ⟨C, T, N, hcl, hkN, hin, hlk⟩ := hf
  exact va_get F.1 F.2.1 F.2.2.2.2.2.2.1 hin F.2.2.2.2.2.1 F.2.2.2.2.2.2.2.2.2 S.1 a (zH_at hc) hcl k0 hkN (F.2.2.2.2.2.2.1 _ hlk) (fun _ h => h) (v := zc ad v) (by rw [List.getElem?_map, hv]; rfl) hd (k p e R s m args below meth c H locs A ad ad0 cls F Ro S E hn L)
theorem z_getN {idx ci k0 a : Nat} {fs : List Value} {v : Value} (hok : zGok g) (hd : decode M.2.1 pc = .ok (.getfield idx, 3)) (hf : zFn M.1.cls idx ci k0) (hc : h[a]? = some (.inr (ci, fs))) (hv : fs[k0]? = some v) (k : zW g M d mc ms n0 Q cells slots (h) ls (v :: st) (pc + 3)) : zW g M d mc ms n0 Q cells slots (h) ls (.ref a :: st) (pc) := by
  intro p e R s m args below meth c H locs A ad ad0 cls F Ro S E hn L
  obtain ⟨C, T, N, host, hcl, hkN, hin, hlk⟩ := hf
  exact va_getN F.1 F.2.1 F.2.2.2.2.2.2.1 hin F.2.2.2.2.2.1 F.2.2.2.2.2.2.2.2.2 S.1 a (zH_at hc) hcl k0 hkN (va_Nw.use rfl (hok.2.2.2.1 _ _ _ S.2.2.2.2.1 _ hlk)) (fun _ h => h) (v := zc ad v) (by rw [List.getElem?_map, hv]; rfl) hd (k p e R s m args below meth c H locs A ad ad0 cls F Ro S E hn L)
theorem z_putf {idx ci k0 a : Nat} {fs : List Value} {v : Value} {ty : FieldType} (hd : decode M.2.1 pc = .ok (.putfield idx, 3)) (hf : zFl M.1.cls idx ci k0) (hw : zFw ci k0 false ty) (hc : h[a]? = some (.inr (ci, fs))) (hl : k0 < fs.length) (hn1 : ∀ ad, narrow ty (zc ad v) = zc ad v) (hn2 : ∀ ad, fits ty (zc ad v) = true) {h' : List zE} (hh : h.set a (.inr (ci, fs.set k0 v)) = h') (k : zW g M d mc ms n0 Q cells slots (h') ls (st) (pc + 3)) : zW g M d mc ms n0 Q cells slots (h) ls (v :: .ref a :: st) (pc) := by
  intro p e R s m args below meth c H locs A ad ad0 cls F Ro S E hn L
  obtain ⟨C, T, N, hcl, hkN, hin, hlk⟩ := hf
  obtain ⟨C', T', N', ty0, hcl', hty, hnm, hfin, hdecl, hpd⟩ := hw
  subst hh
  rw [hcl] at hcl'
  cases hcl'
  refine va_put F.1 F.2.1 F.2.2.2.2.2.2.1 hin ty0 hty hnm F.2.2.2.2.2.1 F.2.2.2.2.2.2.2.2.2 S.1 S.2.1 S.2.2.1 a (zH_at hc) hcl k0 hkN (F.2.2.2.2.2.2.1 _ hlk) (fun _ h => h) hfin hpd (hn1 ad) (hn2 ad) (by rw [List.length_map]; exact hl) hd (fun H1 locs1 hP hD hS => ?_)
  have eS : (zH g.2.2.1 ad h).set a (ad a, .inr (ci, (fs.map (zc ad)).set k0 (zc ad v))) = zH g.2.2.1 ad (h.set a (.inr (ci, fs.set k0 v))) := by
    rw [← zH_set]
    exact congrArg (fun x => (zH g.2.2.1 ad h).set a (ad a, .inr (ci, x))) List.map_set.symm
  rw [eS] at hP hD
  have hlen : (h.set a (.inr (ci, fs.set k0 v))).length = h.length := List.length_set
  exact k p e R s m args below meth c H1 locs1 A ad ad0 cls F Ro ⟨hP, hD, hS, S.2.2.2.1, S.2.2.2.2.1, S.2.2.2.2.2.1, by rw [hlen]; exact S.2.2.2.2.2.2⟩ (by rw [hlen]; exact E) (by rw [hlen]; exact hn) L
theorem z_putN {idx ci k0 a : Nat} {fs : List Value} {v : Value} {ty : FieldType} (hok : zGok g) (hd : decode M.2.1 pc = .ok (.putfield idx, 3)) (hf : zFn M.1.cls idx ci k0) (hw : zFw ci k0 false ty) (hc : h[a]? = some (.inr (ci, fs))) (hl : k0 < fs.length) (hn1 : ∀ ad, narrow ty (zc ad v) = zc ad v) (hn2 : ∀ ad, fits ty (zc ad v) = true) {h' : List zE} (hh : h.set a (.inr (ci, fs.set k0 v)) = h') (k : zW g M d mc ms n0 Q cells slots (h') ls (st) (pc + 3)) : zW g M d mc ms n0 Q cells slots (h) ls (v :: .ref a :: st) (pc) := by
  intro p e R s m args below meth c H locs A ad ad0 cls F Ro S E hn L
  obtain ⟨C, T, N, host, hcl, hkN, hin, hlk⟩ := hf
  obtain ⟨C', T', N', ty0, hcl', hty, hnm, hfin, hdecl, hpd⟩ := hw
  subst hh
  rw [hcl] at hcl'
  cases hcl'
  refine va_putN F.1 F.2.1 F.2.2.2.2.2.2.1 hin ty0 hty hnm F.2.2.2.2.2.1 F.2.2.2.2.2.2.2.2.2 S.1 S.2.1 S.2.2.1 a (zH_at hc) hcl k0 hkN (va_Nw.use rfl (hok.2.2.2.1 _ _ _ S.2.2.2.2.1 _ hlk)) (fun _ h => h) hfin hpd (hn1 ad) (hn2 ad) (by rw [List.length_map]; exact hl) hd (fun H1 locs1 hP hD hS => ?_)
  have eS : (zH g.2.2.1 ad h).set a (ad a, .inr (ci, (fs.map (zc ad)).set k0 (zc ad v))) = zH g.2.2.1 ad (h.set a (.inr (ci, fs.set k0 v))) := by
    rw [← zH_set]
    exact congrArg (fun x => (zH g.2.2.1 ad h).set a (ad a, .inr (ci, x))) List.map_set.symm
  rw [eS] at hP hD
  have hlen : (h.set a (.inr (ci, fs.set k0 v))).length = h.length := List.length_set
  exact k p e R s m args below meth c H1 locs1 A ad ad0 cls F Ro ⟨hP, hD, hS, S.2.2.2.1, S.2.2.2.2.1, S.2.2.2.2.2.1, by rw [hlen]; exact S.2.2.2.2.2.2⟩ (by rw [hlen]; exact E) (by rw [hlen]; exact hn) L
theorem z_putF {idx ci k0 a : Nat} {fs : List Value} {v : Value} {ty : FieldType} (hd : decode M.2.1 pc = .ok (.putfield idx, 3)) (hf : zFl M.1.cls idx ci k0) (hw : zFw ci k0 true ty) (hi : M.1.name = "<init>") (hdc : (vwCl[ci]?).map (fun q => q.1) = some M.1.cls) (hc : h[a]? = some (.inr (ci, fs))) (hl : k0 < fs.length) (hn1 : ∀ ad, narrow ty (zc ad v) = zc ad v) (hn2 : ∀ ad, fits ty (zc ad v) = true) {h' : List zE} (hh : h.set a (.inr (ci, fs.set k0 v)) = h') (k : zW g M d mc ms n0 Q cells slots (h') ls (st) (pc + 3)) : zW g M d mc ms n0 Q cells slots (h) ls (v :: .ref a :: st) (pc) := by
  intro p e R s m args below meth c H locs A ad ad0 cls F Ro S E hn L
  obtain ⟨C, T, N, hcl, hkN, hin, hlk⟩ := hf
  obtain ⟨C', T', N', ty0, hcl', hty, hnm, hfin, hdecl, hpd⟩ := hw
  subst hh
  rw [hcl] at hcl'
  cases hcl'
  refine va_putF F.1 F.2.1 F.2.2.2.2.2.2.1 hin ty0 hty hnm F.2.2.2.2.2.1 F.2.2.2.2.2.2.2.2.2 S.1 S.2.1 S.2.2.1 a (zH_at hc) hcl k0 hkN (F.2.2.2.2.2.2.1 _ hlk) (fun _ h => h) (hfin.trans rfl) (F.2.2.2.2.2.2.2.2.1.trans hi) (hdecl.trans (by rw [hcl] at hdc; exact Option.some.inj hdc)) hpd (hn1 ad) (hn2 ad) (by rw [List.length_map]; exact hl) hd (fun H1 locs1 hP hD hS => ?_)
  have eS : (zH g.2.2.1 ad h).set a (ad a, .inr (ci, (fs.map (zc ad)).set k0 (zc ad v))) = zH g.2.2.1 ad (h.set a (.inr (ci, fs.set k0 v))) := by
    rw [← zH_set]
    exact congrArg (fun x => (zH g.2.2.1 ad h).set a (ad a, .inr (ci, x))) List.map_set.symm
  rw [eS] at hP hD
  have hlen : (h.set a (.inr (ci, fs.set k0 v))).length = h.length := List.length_set
  exact k p e R s m args below meth c H1 locs1 A ad ad0 cls F Ro ⟨hP, hD, hS, S.2.2.2.1, S.2.2.2.2.1, S.2.2.2.2.2.1, by rw [hlen]; exact S.2.2.2.2.2.2⟩ (by rw [hlen]; exact E) (by rw [hlen]; exact hn) L
theorem z_iald {a n : Nat} {f : Nat → Int32} {i : Int32} (hd : decode M.2.1 pc = .ok (.iaload, 1)) (hc : h[a]? = some (.inl (0, n, .inl f))) (hi : vp_in i n) (k : zW g M d mc ms n0 Q cells slots (h) ls (.int (f i.toNatClampNeg) :: st) (pc + 1)) : zW g M d mc ms n0 Q cells slots (h) ls (.int i :: .ref a :: st) (pc) := by
  intro p e R s m args below meth c H locs A ad ad0 cls F Ro S E hn L
  exact va_iald F.1 F.2.1 F.2.2.2.2.2.2.2.2.2 S.1 a 0 (zH_at hc) rfl hi hd (k p e R s m args below meth c H locs A ad ad0 cls F Ro S E hn L)
theorem z_iastore {a n : Nat} {f : Nat → Int32} {i : Int32} {x : Int32} (hd : decode M.2.1 pc = .ok (.iastore, 1)) (hc : h[a]? = some (.inl (0, n, .inl f))) (hi : vp_in i n) {h' : List zE} (hh : h.set a (.inl (0, n, .inl (upd f i.toNatClampNeg x))) = h') (k : zW g M d mc ms n0 Q cells slots (h') ls (st) (pc + 1)) : zW g M d mc ms n0 Q cells slots (h) ls (.int x :: .int i :: .ref a :: st) (pc) := by
  intro p e R s m args below meth c H locs A ad ad0 cls F Ro S E hn L
  subst hh
  refine va_iast F.1 F.2.1 F.2.2.2.2.2.2.2.2.2 S.1 S.2.1 S.2.2.1 a 0 (zH_at hc) rfl hi hd (fun H1 locs1 hP hD hS => ?_)
  have hP := (zH_set (tc := g.2.2.1) (ad := ad) (h := h) (k := a) (c := .inl (0, n, .inl (upd f i.toNatClampNeg x)))) ▸ hP
  have hD := (zH_set (tc := g.2.2.1) (ad := ad) (h := h) (k := a) (c := .inl (0, n, .inl (upd f i.toNatClampNeg x)))) ▸ hD
  exact k p e R s m args below meth c H1 locs1 A ad ad0 cls F Ro ⟨hP, hD, hS, S.2.2.2.1, S.2.2.2.2.1, S.2.2.2.2.2.1, by rw [List.length_set]; exact S.2.2.2.2.2.2⟩ (by rw [List.length_set]; exact E) (by rw [List.length_set]; exact hn) L
theorem z_lald {a n : Nat} {f : Nat → Int64} {i : Int32} (hd : decode M.2.1 pc = .ok (.laload, 1)) (hc : h[a]? = some (.inl (1, n, .inr (.inl f)))) (hi : vp_in i n) (k : zW g M d mc ms n0 Q cells slots (h) ls (.long (f i.toNatClampNeg) :: st) (pc + 1)) : zW g M d mc ms n0 Q cells slots (h) ls (.int i :: .ref a :: st) (pc) := by
  intro p e R s m args below meth c H locs A ad ad0 cls F Ro S E hn L
  exact va_lald F.1 F.2.1 F.2.2.2.2.2.2.2.2.2 S.1 a 1 (zH_at hc) rfl hi hd (k p e R s m args below meth c H locs A ad ad0 cls F Ro S E hn L)
theorem z_lastore {a n : Nat} {f : Nat → Int64} {i : Int32} {x : Int64} (hd : decode M.2.1 pc = .ok (.lastore, 1)) (hc : h[a]? = some (.inl (1, n, .inr (.inl f)))) (hi : vp_in i n) {h' : List zE} (hh : h.set a (.inl (1, n, .inr (.inl (vp_updL f i.toNatClampNeg x)))) = h') (k : zW g M d mc ms n0 Q cells slots (h') ls (st) (pc + 1)) : zW g M d mc ms n0 Q cells slots (h) ls (.long x :: .int i :: .ref a :: st) (pc) := by
  intro p e R s m args below meth c H locs A ad ad0 cls F Ro S E hn L
  subst hh
  refine va_last F.1 F.2.1 F.2.2.2.2.2.2.2.2.2 S.1 S.2.1 S.2.2.1 a 1 (zH_at hc) rfl hi hd (fun H1 locs1 hP hD hS => ?_)
  have hP := (zH_set (tc := g.2.2.1) (ad := ad) (h := h) (k := a) (c := .inl (1, n, .inr (.inl (vp_updL f i.toNatClampNeg x))))) ▸ hP
  have hD := (zH_set (tc := g.2.2.1) (ad := ad) (h := h) (k := a) (c := .inl (1, n, .inr (.inl (vp_updL f i.toNatClampNeg x))))) ▸ hD
  exact k p e R s m args below meth c H1 locs1 A ad ad0 cls F Ro ⟨hP, hD, hS, S.2.2.2.1, S.2.2.2.2.1, S.2.2.2.2.2.1, by rw [List.length_set]; exact S.2.2.2.2.2.2⟩ (by rw [List.length_set]; exact E) (by rw [List.length_set]; exact hn) L
theorem z_alen {a n : Nat} {x : (Nat → Int32) ⊕ (Nat → Int64) ⊕ (Nat → UInt32) ⊕ (Nat → UInt64) ⊕ (Nat → Option Nat)} (hd : decode M.2.1 pc = .ok (.arraylength, 1)) (hc : h[a]? = some (.inl (0, n, x))) (k : zW g M d mc ms n0 Q cells slots (h) ls (.int (nI n) :: st) (pc + 1)) : zW g M d mc ms n0 Q cells slots (h) ls (.ref a :: st) (pc) := by
  intro p e R s m args below meth c H locs A ad ad0 cls F Ro S E hn L
  exact va_alen F.1 F.2.1 F.2.2.2.2.2.2.2.2.2 S.1 a 0 (zH_at hc) rfl rfl hd (k p e R s m args below meth c H locs A ad ad0 cls F Ro S E hn L)
theorem z_iret {v : Int32} (hr : M.2.2.2 = some .int) (hd : decode M.2.1 pc = .ok (.ireturn, 1)) (h1 : cells ≤ mc) (h2 : slots ≤ ms) (hq : Q (.inl (some (.int v))) h) : zW g M d mc ms n0 Q cells slots (h) ls ([.int v]) (pc) := by
  intro p e R s m args below meth c H locs A ad ad0 cls F Ro S E hn L
  exact W.widen h1 h2 (vx_ret (W.iret F.1 F.2.1 (F.2.2.2.1.trans hr) (fun t ht hW => ⟨some (.int v), h, ad, rfl, hq, ⟨E, hn, S.2.2.2.2.2.2, by rw [ht]; exact S.1, S.2.1, S.2.2.1.F ht⟩⟩) S.2.2.1.2.2 hd F.2.2.2.2.1))
theorem z_lret {v : Int64} (hr : M.2.2.2 = some .long) (hd : decode M.2.1 pc = .ok (.lreturn, 1)) (h1 : cells ≤ mc) (h2 : slots ≤ ms) (hq : Q (.inl (some (.long v))) h) : zW g M d mc ms n0 Q cells slots (h) ls ([.long v]) (pc) := by
  intro p e R s m args below meth c H locs A ad ad0 cls F Ro S E hn L
  exact W.widen h1 h2 (vx_ret (W.lret F.1 F.2.1 (F.2.2.2.1.trans hr) (fun t ht hW => ⟨some (.long v), h, ad, rfl, hq, ⟨E, hn, S.2.2.2.2.2.2, by rw [ht]; exact S.1, S.2.1, S.2.2.1.F ht⟩⟩) S.2.2.1.2.2 hd F.2.2.2.2.1))
theorem z_zret {v : Int32} {ty : FieldType} (hr : M.2.2.2 = some ty) (hv : narrow ty (.int v) = .int v) (hd : decode M.2.1 pc = .ok (.ireturn, 1)) (h1 : cells ≤ mc) (h2 : slots ≤ ms) (hq : Q (.inl (some (.int v))) h) : zW g M d mc ms n0 Q cells slots (h) ls ([.int v]) (pc) := by
  intro p e R s m args below meth c H locs A ad ad0 cls F Ro S E hn L
  exact W.widen h1 h2 (vx_ret (W.zret F.1 F.2.1 (F.2.2.2.1.trans hr) hv (fun t ht hW => ⟨some (.int v), h, ad, rfl, hq, ⟨E, hn, S.2.2.2.2.2.2, by rw [ht]; exact S.1, S.2.1, S.2.2.1.F ht⟩⟩) S.2.2.1.2.2 hd F.2.2.2.2.1))
theorem z_vret (hr : M.2.2.2 = none) (hd : decode M.2.1 pc = .ok (.return_, 1)) (h1 : cells ≤ mc) (h2 : slots ≤ ms) (hq : Q (.inl none) h) : zW g M d mc ms n0 Q cells slots (h) ls ([]) (pc) := by
  intro p e R s m args below meth c H locs A ad ad0 cls F Ro S E hn L
  exact W.widen h1 h2 (vx_ret (W.vret F.1 F.2.1 (F.2.2.2.1.trans hr) (fun t ht hW => ⟨none, h, ad, rfl, hq, ⟨E, hn, S.2.2.2.2.2.2, by rw [ht]; exact S.1, S.2.1, S.2.2.1.F ht⟩⟩) S.2.2.1.2.2 hd F.2.2.2.2.1))
theorem z_aret {a : Nat} {rt : FieldType} (hr : M.2.2.2 = some rt) (hrt : (∃ n, rt = .object n) ∨ ∃ t, rt = .array t) (hd : decode M.2.1 pc = .ok (.areturn, 1)) (h1 : cells ≤ mc) (h2 : slots ≤ ms) (hq : Q (.inl (some (.ref a))) h) : zW g M d mc ms n0 Q cells slots (h) ls ([.ref a]) (pc) := by
  intro p e R s m args below meth c H locs A ad ad0 cls F Ro S E hn L
  exact W.widen h1 h2 (vx_ret (W.aret F.1 F.2.1 (F.2.2.2.1.trans hr) hrt (Or.inr ⟨_, rfl⟩) (fun t ht hW => ⟨some (.ref a), h, ad, rfl, hq, ⟨E, hn, S.2.2.2.2.2.2, by rw [ht]; exact S.1, S.2.1, S.2.2.1.F ht⟩⟩) S.2.2.1.2.2 hd F.2.2.2.2.1))
theorem z_widen {k1 k2 : Nat} (h1 : cells ≤ k1) (h2 : slots ≤ k2) (k : zW g M d mc ms n0 Q k1 k2 (h) ls (st) (pc)) : zW g M d mc ms n0 Q cells slots (h) ls (st) (pc) := by
  intro p e R s m args below meth c H locs A ad ad0 cls F Ro S E hn L
  exact W.widen h1 h2 (k p e R s m args below meth c H locs A ad ad0 cls F Ro S E hn L)
theorem z_objInit {idx a : Nat} (hd : decode M.2.1 pc = .ok (.invokespecial idx, 3)) (hw : Cond.methodLink M.1.cls idx Lib.objectInit ∈ zT ∧ Cond.instanceMethod Lib.objectInit ∈ zT ∧ Cond.code Lib.objectInit ⟨#[0xb1]⟩ 1 none ∈ zT) (hcat : (st.map fun v => v.category).sum ≤ 8) (k : zW g M d mc ms n0 Q cells slots (h) ls (st) (pc + 3)) : zW g M d mc ms n0 Q cells slots (h) ls (.ref a :: st) (pc) := by
  intro p e R s m args below meth c H locs A ad ad0 cls F Ro S E hn L
  have h1 := Ro.1
  have h2 := Ro.2.1
  have h3 := zc_cats ad st
  refine W.objInit F.1 F.2.1 F.2.2.2.2.2.1 (F.2.2.2.2.2.2.1 _ hw.1) (F.2.2.2.2.2.2.1 _ hw.2.1) (F.2.2.2.2.2.2.1 _ hw.2.2) rfl (L.1.trans F.2.2.1.symm) (a := ad a) (rest := st.map (zc ad)) rfl hd (by omega) (Nat.le_trans (Nat.add_le_add_right (lv_room (by rw [h3]; exact hcat)) 12) (by omega)) ?_
  exact k p e R s m args below meth c H locs A ad ad0 cls F Ro S E hn L
end ZR
