def zkl (i : Nat) (ls : List (Option Value)) : List (Option Value) := match i with
  | 0 => ls
  | j + 1 => match ls[j]? with
    | some (some u) => if u.category = 2 then ls.set j none else ls
    | _ => ls
def zst1 (i : Nat) (v : Value) (ls : List (Option Value)) : List (Option Value) := (zkl i ls).set i (some v)
def zst2 (i : Nat) (v : Value) (ls : List (Option Value)) : List (Option Value) := ((zkl i ls).set i (some v)).set (i + 1) none
theorem zkl_at {i j : Nat} {ls : List (Option Value)} {u : Value} (h : (zkl i ls)[j]? = some (some u)) : ls[j]? = some (some u) ∧ ¬ (j + 1 = i ∧ u.category = 2) := by
  match i, h with
  | 0, h => exact ⟨h, fun q => by omega⟩
  | i + 1, h =>
    unfold zkl at h
    dsimp only at h
    split at h
    · rename_i v hv
      by_cases hc : v.category = 2
      · rw [if_pos hc, List.getElem?_set] at h
        by_cases e : i = j
        · subst e
          simp at h
        · rw [if_neg e] at h
          exact ⟨h, fun q => e (by omega)⟩
      · rw [if_neg hc] at h
        refine ⟨h, fun q => hc ?_⟩
        have : j = i := by omega
        subst this
        rw [hv] at h
        cases h
        exact q.2
    · rename_i hv
      refine ⟨h, fun q => ?_⟩
      have : j = i := by omega
      subst this
      exact hv _ h
def zlv (ad : Nat → Nat) (ls : List (Option Value)) : List (Nat × Value) := (List.range ls.length).filterMap (fun j => match ls[j]? with
  | some (some u) => some (j, zc ad u)
  | _ => none)
theorem zlv_of {ad : Nat → Nat} {ls : List (Option Value)} {q : Nat × Value} (h : q ∈ zlv ad ls) : ∃ u, ls[q.1]? = some (some u) ∧ q.2 = zc ad u := by
  unfold zlv at h
  obtain ⟨j, -, hj⟩ := List.mem_filterMap.mp h
  split at hj
  · rename_i u hu
    cases hj
    exact ⟨u, hu, rfl⟩
  · cases hj
theorem zlv_in {ad : Nat → Nat} {ls : List (Option Value)} {j : Nat} {u : Value} (h : ls[j]? = some (some u)) : (j, zc ad u) ∈ zlv ad ls := by
  unfold zlv
  refine List.mem_filterMap.mpr ⟨j, List.mem_range.mpr (List.getElem?_eq_some_iff.mp h).1, ?_⟩
  rw [h]
theorem zLo_lv {cls : Array Slot} {nL : Nat} {ad : Nat → Nat} {ls : List (Option Value)} (L : zLo cls nL ad ls) : lv_has cls nL (zlv ad ls) :=
  ⟨L.1, L.2.1, fun q hq => by
    obtain ⟨u, h1, h2⟩ := zlv_of hq
    rw [h2]
    exact L.2.2 _ _ h1⟩
theorem zLo_st1 {cls : Array Slot} {nL i : Nat} {ad : Nat → Nat} {ls : List (Option Value)} {v : Value}
    (h : lv_has cls nL ((i, zc ad v) :: (zlv ad ls).filter (fun q => !(q.1 == i) && !(q.1 + 1 == i && q.2.category == 2)))) : zLo cls nL ad (zst1 i v ls) := by
  refine ⟨h.1, h.2.1, fun j u hj => ?_⟩
  unfold zst1 at hj
  rw [List.getElem?_set] at hj
  by_cases e : i = j
  · subst e
    rw [if_pos rfl] at hj
    split at hj
    · cases hj
      exact h.2.2 (i, zc ad v) List.mem_cons_self
    · cases hj
  · rw [if_neg e] at hj
    obtain ⟨h1, h2⟩ := zkl_at hj
    refine h.2.2 (j, zc ad u) (List.mem_cons_of_mem _ (List.mem_filter.mpr ⟨zlv_in h1, ?_⟩))
    simp only [zc_cat, Bool.and_eq_true, Bool.not_eq_true', beq_eq_false_iff_ne, ne_eq]
    refine ⟨fun q => e q.symm, ?_⟩
    cases hb : (j + 1 == i && u.category == 2) with
    | false => rfl
    | true =>
      simp only [Bool.and_eq_true, beq_iff_eq] at hb
      exact absurd hb h2
theorem zLo_st2 {cls : Array Slot} {nL i : Nat} {ad : Nat → Nat} {ls : List (Option Value)} {v : Value}
    (h : lv_has cls nL ((i, zc ad v) :: (zlv ad ls).filter (fun q => !(q.1 == i) && (!(q.1 == i + 1) && !(q.1 + 1 == i && q.2.category == 2))))) : zLo cls nL ad (zst2 i v ls) := by
  refine ⟨h.1, h.2.1, fun j u hj => ?_⟩
  unfold zst2 at hj
  rw [List.getElem?_set] at hj
  by_cases e1 : i + 1 = j
  · rw [if_pos e1] at hj
    split at hj <;> cases hj
  · rw [if_neg e1, List.getElem?_set] at hj
    by_cases e : i = j
    · subst e
      rw [if_pos rfl] at hj
      split at hj
      · cases hj
        exact h.2.2 (i, zc ad v) List.mem_cons_self
      · cases hj
    · rw [if_neg e] at hj
      obtain ⟨h1, h2⟩ := zkl_at hj
      refine h.2.2 (j, zc ad u) (List.mem_cons_of_mem _ (List.mem_filter.mpr ⟨zlv_in h1, ?_⟩))
      simp only [zc_cat, Bool.and_eq_true, Bool.not_eq_true', beq_eq_false_iff_ne, ne_eq]
      refine ⟨fun q => e q.symm, fun q => e1 q.symm, ?_⟩
      cases hb : (j + 1 == i && u.category == 2) with
      | false => rfl
      | true =>
        simp only [Bool.and_eq_true, beq_iff_eq] at hb
        exact absurd hb h2
section ZR
variable {g : zGl} {M : zMd} {d mc ms n0 cells slots pc : Nat} {Q : zO → List zE → Prop} {h : List zE} {ls ls' : List (Option Value)} {st : List Value}
theorem z_istore_n {j : Fin 4} {x : Int32} (hd : decode M.2.1 pc = .ok (.istore_n j, 1)) (hi : (j : Nat) < M.2.2.1) (hs : ls' = zst1 j (.int x) ls) (k : zW g M d mc ms n0 Q cells slots h ls' (st) (pc + 1)) : zW g M d mc ms n0 Q cells slots h ls (.int x :: st) (pc) := by
  intro p e R s m args below meth c H locs A ad ad0 cls F Ro S E hn L
  subst hs
  exact lv_istore_n F.1 F.2.1 hd rfl (zLo_lv L) hi rfl (fun cls' hl => k p e R s m args below meth c H locs A ad ad0 cls' F Ro S E hn (zLo_st1 (v := .int x) hl))
theorem z_istore {i : Nat} {x : Int32} (hd : decode M.2.1 pc = .ok (.istore i, 2)) (hi : i < M.2.2.1) (hs : ls' = zst1 i (.int x) ls) (k : zW g M d mc ms n0 Q cells slots h ls' (st) (pc + 2)) : zW g M d mc ms n0 Q cells slots h ls (.int x :: st) (pc) := by
  intro p e R s m args below meth c H locs A ad ad0 cls F Ro S E hn L
  subst hs
  exact lv_istore F.1 F.2.1 hd (zLo_lv L) hi rfl (fun cls' hl => k p e R s m args below meth c H locs A ad ad0 cls' F Ro S E hn (zLo_st1 (v := .int x) hl))
theorem z_astore_n {j : Fin 4} {x : Nat} (hd : decode M.2.1 pc = .ok (.astore_n j, 1)) (hi : (j : Nat) < M.2.2.1) (hs : ls' = zst1 j (.ref x) ls) (k : zW g M d mc ms n0 Q cells slots h ls' (st) (pc + 1)) : zW g M d mc ms n0 Q cells slots h ls (.ref x :: st) (pc) := by
  intro p e R s m args below meth c H locs A ad ad0 cls F Ro S E hn L
  subst hs
  exact lv_astore_n F.1 F.2.1 hd rfl (zLo_lv L) hi rfl (fun cls' hl => k p e R s m args below meth c H locs A ad ad0 cls' F Ro S E hn (zLo_st1 (v := .ref x) hl))
theorem z_astore {i : Nat} {x : Nat} (hd : decode M.2.1 pc = .ok (.astore i, 2)) (hi : i < M.2.2.1) (hs : ls' = zst1 i (.ref x) ls) (k : zW g M d mc ms n0 Q cells slots h ls' (st) (pc + 2)) : zW g M d mc ms n0 Q cells slots h ls (.ref x :: st) (pc) := by
  intro p e R s m args below meth c H locs A ad ad0 cls F Ro S E hn L
  subst hs
  exact lv_astore F.1 F.2.1 hd (zLo_lv L) hi rfl (fun cls' hl => k p e R s m args below meth c H locs A ad ad0 cls' F Ro S E hn (zLo_st1 (v := .ref x) hl))
theorem z_lstore_n {j : Fin 4} {x : Int64} (hd : decode M.2.1 pc = .ok (.lstore_n j, 1)) (hi : (j : Nat) + 1 < M.2.2.1) (hs : ls' = zst2 j (.long x) ls) (k : zW g M d mc ms n0 Q cells slots h ls' (st) (pc + 1)) : zW g M d mc ms n0 Q cells slots h ls (.long x :: st) (pc) := by
  intro p e R s m args below meth c H locs A ad ad0 cls F Ro S E hn L
  subst hs
  exact lv_lstore_n F.1 F.2.1 hd rfl (zLo_lv L) hi rfl (fun cls' hl => k p e R s m args below meth c H locs A ad ad0 cls' F Ro S E hn (zLo_st2 (v := .long x) hl))
theorem z_lstore {i : Nat} {x : Int64} (hd : decode M.2.1 pc = .ok (.lstore i, 2)) (hi : i + 1 < M.2.2.1) (hs : ls' = zst2 i (.long x) ls) (k : zW g M d mc ms n0 Q cells slots h ls' (st) (pc + 2)) : zW g M d mc ms n0 Q cells slots h ls (.long x :: st) (pc) := by
  intro p e R s m args below meth c H locs A ad ad0 cls F Ro S E hn L
  subst hs
  exact lv_lstore F.1 F.2.1 hd (zLo_lv L) hi rfl (fun cls' hl => k p e R s m args below meth c H locs A ad ad0 cls' F Ro S E hn (zLo_st2 (v := .long x) hl))
theorem z_iinc {i : Nat} {n : Int} {x : Int32} (v : Int32) (hd : decode M.2.1 pc = .ok (.iinc i n, 3)) (hl : ls[i]? = some (some (.int x))) (hv : x + Int32.ofInt n = v) (hi : i < M.2.2.1) (hs : ls' = zst1 i (.int v) ls) (k : zW g M d mc ms n0 Q cells slots h ls' (st) (pc + 3)) : zW g M d mc ms n0 Q cells slots h ls (st) (pc) := by
  intro p e R s m args below meth c H locs A ad ad0 cls F Ro S E hn L
  subst hs
  obtain ⟨j, hj⟩ := List.getElem?_of_mem (zlv_in (ad := ad) hl)
  exact lv_iinc F.1 F.2.1 hd (zLo_lv L) hj hv hi rfl (fun cls' hl => k p e R s m args below meth c H locs A ad ad0 cls' F Ro S E hn (zLo_st1 (v := .int v) hl))
theorem z_icmp_eq {x y : Int32} {off : Int} (tgt : Nat) (hd : decode M.2.1 pc = .ok (.if_icmp .eq off, 3)) (ht : (pc : Int) + off = (tgt : Int)) (kt : x = y → zW g M d mc ms n0 Q cells slots h ls (st) (tgt)) (kf : ¬ x = y → zW g M d mc ms n0 Q cells slots h ls (st) (pc + 3)) : zW g M d mc ms n0 Q cells slots h ls (.int y :: .int x :: st) (pc) := by
  intro p e R s m args below meth c H locs A ad ad0 cls F Ro S E hn L
  exact lv_icmp_eq F.1 F.2.1 hd ht (fun q => kt q p e R s m args below meth c H locs A ad ad0 cls F Ro S E hn L) (fun q => kf q p e R s m args below meth c H locs A ad ad0 cls F Ro S E hn L)
theorem z_if_eq {x : Int32} {off : Int} (tgt : Nat) (hd : decode M.2.1 pc = .ok (.ifCond .eq off, 3)) (ht : (pc : Int) + off = (tgt : Int)) (kt : x = 0 → zW g M d mc ms n0 Q cells slots h ls (st) (tgt)) (kf : ¬ x = 0 → zW g M d mc ms n0 Q cells slots h ls (st) (pc + 3)) : zW g M d mc ms n0 Q cells slots h ls (.int x :: st) (pc) := by
  intro p e R s m args below meth c H locs A ad ad0 cls F Ro S E hn L
  exact lv_if_eq F.1 F.2.1 hd ht (fun q => kt q p e R s m args below meth c H locs A ad ad0 cls F Ro S E hn L) (fun q => kf q p e R s m args below meth c H locs A ad ad0 cls F Ro S E hn L)
theorem z_icmp_ne {x y : Int32} {off : Int} (tgt : Nat) (hd : decode M.2.1 pc = .ok (.if_icmp .ne off, 3)) (ht : (pc : Int) + off = (tgt : Int)) (kt : ¬ x = y → zW g M d mc ms n0 Q cells slots h ls (st) (tgt)) (kf : x = y → zW g M d mc ms n0 Q cells slots h ls (st) (pc + 3)) : zW g M d mc ms n0 Q cells slots h ls (.int y :: .int x :: st) (pc) := by
  intro p e R s m args below meth c H locs A ad ad0 cls F Ro S E hn L
  exact lv_icmp_ne F.1 F.2.1 hd ht (fun q => kt q p e R s m args below meth c H locs A ad ad0 cls F Ro S E hn L) (fun q => kf q p e R s m args below meth c H locs A ad ad0 cls F Ro S E hn L)
theorem z_if_ne {x : Int32} {off : Int} (tgt : Nat) (hd : decode M.2.1 pc = .ok (.ifCond .ne off, 3)) (ht : (pc : Int) + off = (tgt : Int)) (kt : ¬ x = 0 → zW g M d mc ms n0 Q cells slots h ls (st) (tgt)) (kf : x = 0 → zW g M d mc ms n0 Q cells slots h ls (st) (pc + 3)) : zW g M d mc ms n0 Q cells slots h ls (.int x :: st) (pc) := by
  intro p e R s m args below meth c H locs A ad ad0 cls F Ro S E hn L
  exact lv_if_ne F.1 F.2.1 hd ht (fun q => kt q p e R s m args below meth c H locs A ad ad0 cls F Ro S E hn L) (fun q => kf q p e R s m args below meth c H locs A ad ad0 cls F Ro S E hn L)
theorem z_icmp_lt {x y : Int32} {off : Int} (tgt : Nat) (hd : decode M.2.1 pc = .ok (.if_icmp .lt off, 3)) (ht : (pc : Int) + off = (tgt : Int)) (kt : x < y → zW g M d mc ms n0 Q cells slots h ls (st) (tgt)) (kf : ¬ x < y → zW g M d mc ms n0 Q cells slots h ls (st) (pc + 3)) : zW g M d mc ms n0 Q cells slots h ls (.int y :: .int x :: st) (pc) := by
  intro p e R s m args below meth c H locs A ad ad0 cls F Ro S E hn L
  exact lv_icmp_lt F.1 F.2.1 hd ht (fun q => kt q p e R s m args below meth c H locs A ad ad0 cls F Ro S E hn L) (fun q => kf q p e R s m args below meth c H locs A ad ad0 cls F Ro S E hn L)
theorem z_if_lt {x : Int32} {off : Int} (tgt : Nat) (hd : decode M.2.1 pc = .ok (.ifCond .lt off, 3)) (ht : (pc : Int) + off = (tgt : Int)) (kt : x < 0 → zW g M d mc ms n0 Q cells slots h ls (st) (tgt)) (kf : ¬ x < 0 → zW g M d mc ms n0 Q cells slots h ls (st) (pc + 3)) : zW g M d mc ms n0 Q cells slots h ls (.int x :: st) (pc) := by
  intro p e R s m args below meth c H locs A ad ad0 cls F Ro S E hn L
  exact lv_if_lt F.1 F.2.1 hd ht (fun q => kt q p e R s m args below meth c H locs A ad ad0 cls F Ro S E hn L) (fun q => kf q p e R s m args below meth c H locs A ad ad0 cls F Ro S E hn L)
theorem z_icmp_ge {x y : Int32} {off : Int} (tgt : Nat) (hd : decode M.2.1 pc = .ok (.if_icmp .ge off, 3)) (ht : (pc : Int) + off = (tgt : Int)) (kt : y ≤ x → zW g M d mc ms n0 Q cells slots h ls (st) (tgt)) (kf : ¬ y ≤ x → zW g M d mc ms n0 Q cells slots h ls (st) (pc + 3)) : zW g M d mc ms n0 Q cells slots h ls (.int y :: .int x :: st) (pc) := by
  intro p e R s m args below meth c H locs A ad ad0 cls F Ro S E hn L
  exact lv_icmp_ge F.1 F.2.1 hd ht (fun q => kt q p e R s m args below meth c H locs A ad ad0 cls F Ro S E hn L) (fun q => kf q p e R s m args below meth c H locs A ad ad0 cls F Ro S E hn L)
theorem z_if_ge {x : Int32} {off : Int} (tgt : Nat) (hd : decode M.2.1 pc = .ok (.ifCond .ge off, 3)) (ht : (pc : Int) + off = (tgt : Int)) (kt : 0 ≤ x → zW g M d mc ms n0 Q cells slots h ls (st) (tgt)) (kf : ¬ 0 ≤ x → zW g M d mc ms n0 Q cells slots h ls (st) (pc + 3)) : zW g M d mc ms n0 Q cells slots h ls (.int x :: st) (pc) := by
  intro p e R s m args below meth c H locs A ad ad0 cls F Ro S E hn L
  exact lv_if_ge F.1 F.2.1 hd ht (fun q => kt q p e R s m args below meth c H locs A ad ad0 cls F Ro S E hn L) (fun q => kf q p e R s m args below meth c H locs A ad ad0 cls F Ro S E hn L)
theorem z_icmp_gt {x y : Int32} {off : Int} (tgt : Nat) (hd : decode M.2.1 pc = .ok (.if_icmp .gt off, 3)) (ht : (pc : Int) + off = (tgt : Int)) (kt : y < x → zW g M d mc ms n0 Q cells slots h ls (st) (tgt)) (kf : ¬ y < x → zW g M d mc ms n0 Q cells slots h ls (st) (pc + 3)) : zW g M d mc ms n0 Q cells slots h ls (.int y :: .int x :: st) (pc) := by
  intro p e R s m args below meth c H locs A ad ad0 cls F Ro S E hn L
  exact lv_icmp_gt F.1 F.2.1 hd ht (fun q => kt q p e R s m args below meth c H locs A ad ad0 cls F Ro S E hn L) (fun q => kf q p e R s m args below meth c H locs A ad ad0 cls F Ro S E hn L)
theorem z_if_gt {x : Int32} {off : Int} (tgt : Nat) (hd : decode M.2.1 pc = .ok (.ifCond .gt off, 3)) (ht : (pc : Int) + off = (tgt : Int)) (kt : 0 < x → zW g M d mc ms n0 Q cells slots h ls (st) (tgt)) (kf : ¬ 0 < x → zW g M d mc ms n0 Q cells slots h ls (st) (pc + 3)) : zW g M d mc ms n0 Q cells slots h ls (.int x :: st) (pc) := by
  intro p e R s m args below meth c H locs A ad ad0 cls F Ro S E hn L
  exact lv_if_gt F.1 F.2.1 hd ht (fun q => kt q p e R s m args below meth c H locs A ad ad0 cls F Ro S E hn L) (fun q => kf q p e R s m args below meth c H locs A ad ad0 cls F Ro S E hn L)
theorem z_icmp_le {x y : Int32} {off : Int} (tgt : Nat) (hd : decode M.2.1 pc = .ok (.if_icmp .le off, 3)) (ht : (pc : Int) + off = (tgt : Int)) (kt : x ≤ y → zW g M d mc ms n0 Q cells slots h ls (st) (tgt)) (kf : ¬ x ≤ y → zW g M d mc ms n0 Q cells slots h ls (st) (pc + 3)) : zW g M d mc ms n0 Q cells slots h ls (.int y :: .int x :: st) (pc) := by
  intro p e R s m args below meth c H locs A ad ad0 cls F Ro S E hn L
  exact lv_icmp_le F.1 F.2.1 hd ht (fun q => kt q p e R s m args below meth c H locs A ad ad0 cls F Ro S E hn L) (fun q => kf q p e R s m args below meth c H locs A ad ad0 cls F Ro S E hn L)
theorem z_if_le {x : Int32} {off : Int} (tgt : Nat) (hd : decode M.2.1 pc = .ok (.ifCond .le off, 3)) (ht : (pc : Int) + off = (tgt : Int)) (kt : x ≤ 0 → zW g M d mc ms n0 Q cells slots h ls (st) (tgt)) (kf : ¬ x ≤ 0 → zW g M d mc ms n0 Q cells slots h ls (st) (pc + 3)) : zW g M d mc ms n0 Q cells slots h ls (.int x :: st) (pc) := by
  intro p e R s m args below meth c H locs A ad ad0 cls F Ro S E hn L
  exact lv_if_le F.1 F.2.1 hd ht (fun q => kt q p e R s m args below meth c H locs A ad ad0 cls F Ro S E hn L) (fun q => kf q p e R s m args below meth c H locs A ad ad0 cls F Ro S E hn L)
theorem z_lookup {dflt : Int} {ps : Array (Int × Int)} {len : Nat} {x : Int32} {off : Int} (tgt : Nat) (hd : decode M.2.1 pc = .ok (.lookupswitch dflt ps, len)) (hp : (ps.toList.zip (ps.toList.drop 1)).all (fun (a, next) => a.1 < next.1) = true) (ho : Op.lookupswitch.offset ps.toList dflt x.toInt = off) (ht : (pc : Int) + off = (tgt : Int)) (k : zW g M d mc ms n0 Q cells slots h ls (st) (tgt)) : zW g M d mc ms n0 Q cells slots h ls (.int x :: st) (pc) := by
  intro p e R s m args below meth c H locs A ad ad0 cls F Ro S E hn L
  exact lv_lookup F.1 F.2.1 hd hp ho ht (k p e R s m args below meth c H locs A ad ad0 cls F Ro S E hn L)
theorem z_tableOut {dflt lo hi : Int} {offs : Array Int} {len : Nat} {x : Int32} (tgt : Nat) (hd : decode M.2.1 pc = .ok (.tableswitch dflt lo hi offs, len)) (hh : x.toInt < lo ∨ hi < x.toInt) (ht : (pc : Int) + dflt = (tgt : Int)) (k : zW g M d mc ms n0 Q cells slots h ls (st) (tgt)) : zW g M d mc ms n0 Q cells slots h ls (.int x :: st) (pc) := by
  intro p e R s m args below meth c H locs A ad ad0 cls F Ro S E hn L
  exact lv_tableOut F.1 F.2.1 hd hh ht (k p e R s m args below meth c H locs A ad ad0 cls F Ro S E hn L)
theorem z_tableIn {dflt lo hi : Int} {offs : Array Int} {len : Nat} {x : Int32} {off : Int} (tgt : Nat) (hd : decode M.2.1 pc = .ok (.tableswitch dflt lo hi offs, len)) (h1 : ¬ x.toInt < lo) (h2 : ¬ hi < x.toInt) (ho : offs[(x.toInt - lo).toNat]? = some off) (ht : (pc : Int) + off = (tgt : Int)) (k : zW g M d mc ms n0 Q cells slots h ls (st) (tgt)) : zW g M d mc ms n0 Q cells slots h ls (.int x :: st) (pc) := by
  intro p e R s m args below meth c H locs A ad ad0 cls F Ro S E hn L
  exact lv_tableIn F.1 F.2.1 hd h1 h2 ho ht (k p e R s m args below meth c H locs A ad ad0 cls F Ro S E hn L)
end ZR
