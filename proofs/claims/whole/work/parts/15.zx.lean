def zsel : List (Int32 × Nat) → Nat → Int32 → Nat
  | [], dt, _ => dt
  | q :: r, dt, x => if x = q.1 then q.2 else zsel r dt x
theorem zsel_off {pc dt : Nat} {dflt : Int} (hdt : (pc : Int) + dflt = dt) (x : Int32) : ∀ (cs : List (Int32 × Nat)), (pc : Int) + Op.lookupswitch.offset (cs.map (fun q => (q.1.toInt, (q.2 : Int) - (pc : Int)))) dflt x.toInt = (zsel cs dt x : Nat)
  | [] => hdt
  | q :: r => by
    have ih := zsel_off hdt x r
    rw [List.map_cons, Op.lookupswitch.offset_cons]
    unfold zsel
    by_cases e : x = q.1
    · rw [if_pos e, if_pos (by rw [e])]
      omega
    · rw [if_neg e, if_neg (fun z => e (Int32.toInt_inj.mp (by first | exact z | exact z.symm)))]
      exact ih
theorem zsel_tab {dt : Nat} (x : Int32) : ∀ (cs : List (Int32 × Nat)) (lo : Int), (∀ (i : Nat) (q : Int32 × Nat), cs[i]? = some q → q.1.toInt = lo + i) → (x.toInt < lo ∨ lo + cs.length ≤ x.toInt → zsel cs dt x = dt) ∧ ∀ (i : Nat) (q : Int32 × Nat), cs[i]? = some q → x.toInt = lo + i → zsel cs dt x = q.2
  | [], lo, _ => ⟨fun _ => rfl, fun i q h => by simp at h⟩
  | a :: r, lo, hh => by
    have h0 := hh 0 a rfl
    have ih := zsel_tab (dt := dt) x r (lo + 1) (fun i q hq => by
      have := hh (i + 1) q (by simpa using hq)
      omega)
    have hl : (a :: r).length = r.length + 1 := rfl
    refine ⟨fun hx => ?_, fun i q hq hx => ?_⟩
    · unfold zsel
      rw [if_neg (fun e => by rw [e] at hx; omega)]
      exact ih.1 (by omega)
    · unfold zsel
      match i, hq with
      | 0, hq =>
        cases hq
        rw [if_pos (Int32.toInt_inj.mp (by omega))]
      | i + 1, hq =>
        rw [if_neg (fun e => by rw [e] at hx; omega)]
        exact ih.2 i q (by simpa using hq) (by omega)
theorem zifp {α : Type} {c : Prop} {_ : Decidable c} {A B r : α} (h : (if c then A else B) = r) (q : c) : A = r := (if_pos q).symm.trans h
theorem zifn {α : Type} {c : Prop} {_ : Decidable c} {A B r : α} (h : (if c then A else B) = r) (q : ¬ c) : B = r := (if_neg q).symm.trans h
theorem zifs {α : Type} {c : Prop} {_ : Decidable c} {A : Option α} {r : α} (h : (if c then A else none) = some r) : c ∧ A = some r := by
  by_cases q : c
  · rw [if_pos q] at h; exact ⟨q, h⟩
  · rw [if_neg q] at h; cases h
/-- the state: int fields by 100 * cell + slot, int arrays by cell, references that change, the law's array of longs -/
abbrev zS : Type := (Nat → Int32) × (Nat → Nat → Int32) × (Nat → Nat) × (Nat → Int64)
abbrev zsc (s : zS) (k : Nat) (x : Int32) : zS := (upd s.1 k x, s.2)
def zupA (r : Nat → Nat → Int32) (a : Nat) (f : Nat → Int32) : Nat → Nat → Int32 := fun j => if j = a then f else r j
abbrev zsr (s : zS) (a : Nat) (i : Int32) (x : Int32) : zS := (s.1, zupA s.2.1 a (upd (s.2.1 a) i.toNatClampNeg x), s.2.2)
def zupR (e : Nat → Nat) (k x : Nat) : Nat → Nat := fun j => if j = k then x else e j
abbrev zse (s : zS) (k : Nat) (x : Nat) : zS := (s.1, s.2.1, zupR s.2.2.1 k x, s.2.2.2)
def zga (i : Int32) (n : Nat) : Bool := !(decide (i < 0) || decide (n ≤ i.toNatClampNeg))
theorem zga_in {i : Int32} {n : Nat} (h : zga i n = true) : vp_in i n := by
  unfold zga at h
  unfold vp_in
  simpa using h
def zbo (x : Int32) : Bool := decide (x = 0) || decide (x = 1)
theorem zbo_n {x : Int32} (h : zbo x = true) : narrow .boolean (.int x) = .int x := by
  unfold zbo at h
  simp only [Bool.or_eq_true, decide_eq_true_eq] at h
  rcases h with rfl | rfl <;> rfl
/-- a call's result handed on -/
def zbn {α β : Type} (o : Option (α × zS)) (k : α → zS → Option β) : Option β := match o with
  | none => none
  | some q => k q.1 q.2
theorem zbn_of {α β : Type} {o : Option (α × zS)} {k : α → zS → Option β} {r : β} (h : zbn o k = some r) : ∃ x s, o = some (x, s) ∧ k x s = some r := by
  cases o with
  | none => cases h
  | some q => exact ⟨q.1, q.2, rfl, h⟩
/-- .. of a method that may throw -/
def zbt {α β : Type} (o : Option (Option α × zS)) (kx : zS → Option β) (k : α → zS → Option β) : Option β := match o with
  | none => none
  | some (none, s) => kx s
  | some (some x, s) => k x s
theorem zbt_of {α β : Type} {o : Option (Option α × zS)} {kx : zS → Option β} {k : α → zS → Option β} {r : β} (h : zbt o kx k = some r) : (∃ s, o = some (none, s) ∧ kx s = some r) ∨ ∃ x s, o = some (some x, s) ∧ k x s = some r := by
  match o, h with
  | some (none, s), h => exact Or.inl ⟨s, rfl, h⟩
  | some (some x, s), h => exact Or.inr ⟨x, s, rfl, h⟩
/-- a loop's result: the method has ended (left), or it goes on behind the loop -/
def zbl {α β γ : Type} (o : Option (α ⊕ β)) (kl : α → Option γ) (k : β → Option γ) : Option γ := match o with
  | none => none
  | some (.inl x) => kl x
  | some (.inr x) => k x
theorem zbl_of {α β γ : Type} {o : Option (α ⊕ β)} {kl : α → Option γ} {k : β → Option γ} {r : γ} (h : zbl o kl k = some r) : (∃ x, o = some (.inl x) ∧ kl x = some r) ∨ ∃ x, o = some (.inr x) ∧ k x = some r := by
  match o, h with
  | some (.inl x), h => exact Or.inl ⟨x, rfl, h⟩
  | some (.inr x), h => exact Or.inr ⟨x, rfl, h⟩
abbrev zIAE : String := "java/lang/IllegalArgumentException"
def zret (v : Option Value) (h1 : List zE) : zO → List zE → Prop := fun o hh => o = .inl v ∧ hh = h1
def zthr (h1 : List zE) : zO → List zE → Prop := fun o hh => o = .inr zIAE ∧ hh = h1
def zmk (m : List Bool) (ls : List (Option Value)) : List (Option Value) := List.zipWith (fun b x => if b then x else none) m ls
section ZR
variable {g : zGl} {M : zMd} {d mc ms n0 cells slots pc : Nat} {Q : zO → List zE → Prop} {h : List zE} {ls ls' : List (Option Value)} {st : List Value}
theorem z_mask (mk : List Bool) (hs : ls' = zmk mk ls) (k : zW g M d mc ms n0 Q cells slots (h) ls' (st) (pc)) : zW g M d mc ms n0 Q cells slots (h) ls (st) (pc) := by
  intro p e R s m args below meth c H locs A ad ad0 cls F Ro S E hn L
  subst hs
  refine k p e R s m args below meth c H locs A ad ad0 cls F Ro S E hn ⟨L.1, L.2.1, fun i v hi => L.2.2 i v ?_⟩
  unfold zmk at hi
  rw [List.getElem?_zipWith] at hi
  cases e1 : mk[i]? with
  | none => rw [e1] at hi; simp at hi
  | some b =>
    cases e2 : ls[i]? with
    | none => rw [e1, e2] at hi; simp at hi
    | some x =>
      rw [e1, e2] at hi
      cases b
      · simp at hi
      · simpa using hi
theorem z_look {dflt : Int} {ps : Array (Int × Int)} {len : Nat} {x : Int32} (cs : List (Int32 × Nat)) (dt : Nat) (hd : decode M.2.1 pc = .ok (.lookupswitch dflt ps, len)) (hp : (ps.toList.zip (ps.toList.drop 1)).all (fun (a, next) => a.1 < next.1) = true) (hcs : ps.toList = cs.map (fun q => (q.1.toInt, (q.2 : Int) - (pc : Int)))) (hdt : (pc : Int) + dflt = (dt : Int)) (k : zW g M d mc ms n0 Q cells slots (h) ls (st) (zsel cs dt x)) : zW g M d mc ms n0 Q cells slots (h) ls (.int x :: st) (pc) :=
  z_lookup (zsel cs dt x) hd hp rfl (by rw [hcs]; exact zsel_off hdt x cs) k
theorem z_tab {dflt lo hi : Int} {offs : Array Int} {len : Nat} {x : Int32} (cs : List (Int32 × Nat)) (dt : Nat) (hd : decode M.2.1 pc = .ok (.tableswitch dflt lo hi offs, len)) (hcs : cs.map (fun q => q.1.toInt) = (List.range cs.length).map (fun i : Nat => lo + (i : Int))) (hof : cs.map (fun q => (q.2 : Int)) = offs.toList.map (fun o => (pc : Int) + o)) (hhi : lo + (cs.length : Int) = hi + 1) (hdt : (pc : Int) + dflt = (dt : Int)) (k : zW g M d mc ms n0 Q cells slots (h) ls (st) (zsel cs dt x)) : zW g M d mc ms n0 Q cells slots (h) ls (.int x :: st) (pc) := by
  have hq : ∀ (i : Nat) (q : Int32 × Nat), cs[i]? = some q → q.1.toInt = lo + i := fun i q hq => by
    have h1 : (cs.map (fun q => q.1.toInt))[i]? = some q.1.toInt := by rw [List.getElem?_map, hq]; rfl
    have hi : i < cs.length := (List.getElem?_eq_some_iff.mp hq).1
    rw [hcs, List.getElem?_map, List.getElem?_range hi] at h1
    exact (Option.some.inj h1).symm
  have ht := zsel_tab (dt := dt) x cs lo hq
  by_cases hx : x.toInt < lo ∨ hi < x.toInt
  · refine z_tableOut dt hd hx hdt ?_
    rw [ht.1 (by omega)] at k
    exact k
  · have hlt : (x.toInt - lo).toNat < cs.length := by omega
    obtain ⟨q, hcq⟩ : ∃ q, cs[(x.toInt - lo).toNat]? = some q := ⟨_, List.getElem?_eq_getElem hlt⟩
    have hx2 : x.toInt = lo + ((x.toInt - lo).toNat : Int) := by omega
    rw [ht.2 _ q hcq hx2] at k
    have h1 : (cs.map (fun q => (q.2 : Int)))[(x.toInt - lo).toNat]? = some (q.2 : Int) := by rw [List.getElem?_map, hcq]; rfl
    rw [hof, List.getElem?_map] at h1
    cases ho : offs.toList[(x.toInt - lo).toNat]? with
    | none => rw [ho] at h1; cases h1
    | some off =>
      rw [ho] at h1
      exact z_tableIn q.2 hd (by omega) (by omega) (by rw [← Array.getElem?_toList]; exact ho) (Option.some.inj h1) k
theorem z_selc {x : Int32} {q : Int32 × Nat} {r : List (Int32 × Nat)} {dt : Nat} (kt : x = q.1 → zW g M d mc ms n0 Q cells slots (h) ls (st) (q.2)) (kf : ¬ x = q.1 → zW g M d mc ms n0 Q cells slots (h) ls (st) (zsel r dt x)) : zW g M d mc ms n0 Q cells slots (h) ls (st) (zsel (q :: r) dt x) := by
  unfold zsel
  by_cases e : x = q.1
  · rw [if_pos e]; exact kt e
  · rw [if_neg e]; exact kf e
theorem z_seln {x : Int32} {dt : Nat} (k : zW g M d mc ms n0 Q cells slots (h) ls (st) (dt)) : zW g M d mc ms n0 Q cells slots (h) ls (st) (zsel [] dt x) := k
theorem z_cV {M' : zMd} {as st0 : List Value} {b ci : Nat} {fs : List Value} {idx n d1 : Nat} {v : Option Value} {h1 : List zE} (hok : zGok g) (hd : decode M.2.1 pc = .ok (.invokevirtual idx, 3)) (hw : zCv M.1.cls idx M' n) (hm : zMet g M' d1 0 0 (.ref b :: as) h (zret v h1)) (hst : st0 = as.reverse ++ .ref b :: st) (hb : h[b]? = some (.inr (ci, fs))) (hci : (vwCl[ci]?).map (fun q => q.1) = some M'.1.cls) (hlen : as.length = n) (hd1 : d1 < d) (hcat : (st.map fun v => v.category).sum ≤ 8) (hc1 : cells ≤ mc) (hc2 : slots ≤ ms) (hl : h1.length = h.length)
    (k : zW g M d mc ms n0 Q cells slots (h1) ls (v.toList ++ st) (pc + 3)) : zW g M d mc ms n0 Q cells slots (h) ls (st0) (pc) :=
  z_callV hok hd hw hm hst hb hci hlen hd1 hcat hc1 hc2 (fun v' h' q => by
    obtain ⟨q1, q2⟩ := q
    cases q1
    subst q2
    rw [hl]
    exact ⟨⟨List.all_eq_true.mpr fun x _ => zfo_nn _ x, List.all_eq_true.mpr fun x _ => zfv_nn _ x⟩, k⟩) (fun X h' q => by cases q.1)
theorem z_xV {M' : zMd} {as st0 : List Value} {b ci : Nat} {fs : List Value} {idx n d1 : Nat} {h1 : List zE} (hok : zGok g) (hd : decode M.2.1 pc = .ok (.invokevirtual idx, 3)) (hw : zCv M.1.cls idx M' n) (hm : zMet g M' d1 mc ms (.ref b :: as) h (zthr h1)) (hst : st0 = as.reverse ++ .ref b :: st) (hb : h[b]? = some (.inr (ci, fs))) (hci : (vwCl[ci]?).map (fun q => q.1) = some M'.1.cls) (hlen : as.length = n) (hd1 : d1 < d) (hcat : (st.map fun v => v.category).sum ≤ 8) (hc1 : cells = 0) (hc2 : slots = 0)
    (hq : Q (.inr zIAE) h1) : zW g M d mc ms n0 Q cells slots (h) ls (st0) (pc) :=
  z_callV hok hd hw hm hst hb hci hlen hd1 hcat (by omega) (by omega) (fun v' h' q => by cases q.1) (fun X h' q => by
    obtain ⟨q1, q2⟩ := q
    cases q1
    subst q2
    exact hq)
theorem z_cS {M' : zMd} {as st0 : List Value} {idx n d1 : Nat} {v : Option Value} {h1 : List zE} (hok : zGok g) (hd : decode M.2.1 pc = .ok (.invokestatic idx, 3)) (hw : zCs M.1.cls idx M' n) (hm : zMet g M' d1 0 0 (as) h (zret v h1)) (hst : st0 = as.reverse ++ st) (hlen : as.length = n) (hd1 : d1 < d) (hcat : (st.map fun v => v.category).sum ≤ 8) (hc1 : cells ≤ mc) (hc2 : slots ≤ ms) (hl : h1.length = h.length)
    (k : zW g M d mc ms n0 Q cells slots (h1) ls (v.toList ++ st) (pc + 3)) : zW g M d mc ms n0 Q cells slots (h) ls (st0) (pc) :=
  z_callS hok hd hw hm hst hlen hd1 hcat hc1 hc2 (fun v' h' q => by
    obtain ⟨q1, q2⟩ := q
    cases q1
    subst q2
    rw [hl]
    exact ⟨⟨List.all_eq_true.mpr fun x _ => zfo_nn _ x, List.all_eq_true.mpr fun x _ => zfv_nn _ x⟩, k⟩) (fun X h' q => by cases q.1)
theorem z_xS {M' : zMd} {as st0 : List Value} {idx n d1 : Nat} {h1 : List zE} (hok : zGok g) (hd : decode M.2.1 pc = .ok (.invokestatic idx, 3)) (hw : zCs M.1.cls idx M' n) (hm : zMet g M' d1 mc ms (as) h (zthr h1)) (hst : st0 = as.reverse ++ st) (hlen : as.length = n) (hd1 : d1 < d) (hcat : (st.map fun v => v.category).sum ≤ 8) (hc1 : cells = 0) (hc2 : slots = 0)
    (hq : Q (.inr zIAE) h1) : zW g M d mc ms n0 Q cells slots (h) ls (st0) (pc) :=
  z_callS hok hd hw hm hst hlen hd1 hcat (by omega) (by omega) (fun v' h' q => by cases q.1) (fun X h' q => by
    obtain ⟨q1, q2⟩ := q
    cases q1
    subst q2
    exact hq)
end ZR
