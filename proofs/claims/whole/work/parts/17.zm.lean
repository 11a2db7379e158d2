section ZR
variable {g : zGl} {M : zMd} {d mc ms n0 cells slots pc : Nat} {Q : zO → List zE → Prop} {h : List zE} {ls ls' : List (Option Value)} {st : List Value}
theorem z_mmin {idx n : Nat} {x y : Int32} (hd : decode M.2.1 pc = .ok (.invokestatic idx, 3)) (hw : zCs M.1.cls idx mJ9_min_7cf53 n) (hcat : (st.map fun v => v.category).sum ≤ 8) (h1 : cells ≤ mc) (h2 : slots ≤ ms) (k : zW g M d mc ms n0 Q cells slots (h) ls (.int (if y < x then y else x) :: st) (pc + 3)) : zW g M d mc ms n0 Q cells slots (h) ls (.int y :: .int x :: st) (pc) := by
  intro p e R s m args below meth c H locs A ad ad0 cls F Ro S E hn L
  have r1 := Ro.1
  have r2 := Ro.2.1
  have r3 := zc_cats ad st
  exact va_mmin F.1 F.2.1 (F.2.2.1.trans L.1.symm) F.2.2.2.2.2.1 (F.2.2.2.2.2.2.1 _ hw.1) (F.2.2.2.2.2.2.1 _ hw.2.2.1) (F.2.2.2.2.2.2.1 _ hw.2.2.2.1) (F.2.2.2.2.2.2.1 _ hw.2.1) (by omega) (by omega) (Nat.le_trans h1 Ro.2.2.1) (Nat.le_trans h2 Ro.2.2.2) hd (k p e R s m args below meth c H locs A ad ad0 cls F Ro S E hn L)
theorem z_mminl {idx n : Nat} {x y : Int64} (hd : decode M.2.1 pc = .ok (.invokestatic idx, 3)) (hw : zCs M.1.cls idx mJ9_min_f86c9 n) (hcat : (st.map fun v => v.category).sum ≤ 8) (h1 : cells ≤ mc) (h2 : slots ≤ ms) (k : zW g M d mc ms n0 Q cells slots (h) ls (.long (if y < x then y else x) :: st) (pc + 3)) : zW g M d mc ms n0 Q cells slots (h) ls (.long y :: .long x :: st) (pc) := by
  intro p e R s m args below meth c H locs A ad ad0 cls F Ro S E hn L
  have r1 := Ro.1
  have r2 := Ro.2.1
  have r3 := zc_cats ad st
  exact va_mmin_long F.1 F.2.1 (F.2.2.1.trans L.1.symm) F.2.2.2.2.2.1 (F.2.2.2.2.2.2.1 _ hw.1) (F.2.2.2.2.2.2.1 _ hw.2.2.1) (F.2.2.2.2.2.2.1 _ hw.2.2.2.1) (F.2.2.2.2.2.2.1 _ hw.2.1) (by omega) (by omega) (Nat.le_trans h1 Ro.2.2.1) (Nat.le_trans h2 Ro.2.2.2) hd (k p e R s m args below meth c H locs A ad ad0 cls F Ro S E hn L)
end ZR
def zk1 {α : Type} (w : Option α) : Nat := match w with
  | none => 1
  | some _ => 0
def zk6 {α : Type} (w : Option α) : Nat := match w with
  | none => 6
  | some _ => 0
def zendI (w : Option Int32) (h1 : List zE) : zO → List zE → Prop := match w with
  | none => zthr h1
  | some x => zret (some (.int x)) h1
def zendV (w : Option Unit) (h1 : List zE) : zO → List zE → Prop := match w with
  | none => zthr h1
  | some _ => zret none h1
