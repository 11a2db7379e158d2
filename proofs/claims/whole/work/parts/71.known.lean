def ztm (i : Nat) : Term := Term.string ((zso.getD i ("", 0, "")).1) ((zso.getD i ("", 0, "")).2.1)
abbrev zfl : List Cond := flatC (Jvm.Cond.and given_1 narrow_1)
theorem zl_1 : ∀ i, i < 23 → Cond.exactly (ztm i) "java/lang/String" ∈ zfl := by decide +kernel
theorem zl_2 : ∀ i, i < 23 → Cond.eq (.field (ztm i) "java/lang/String" "coder" "B") (.int 0) ∈ zfl := by decide +kernel
theorem zl_3 : ∀ i, i < 23 → Cond.arrayOf (.field (ztm i) "java/lang/String" "value" "[B") .byte ∈ zfl := by decide +kernel
theorem zl_4 : ∀ i, i < 23 → Cond.eq (.length (.field (ztm i) "java/lang/String" "value" "[B")) (.int (Int32.ofNat (zsl.getD i 0))) ∈ zfl := by decide +kernel
theorem zl_5 : ∀ i, i < 23 → ∀ j, j < zsl.getD i 0 → Cond.eq (.elem (.field (ztm i) "java/lang/String" "value" "[B") (.int (Int32.ofNat j))) (.int ((zsb.getD i []).getD j 0)) ∈ zfl := by decide +kernel
theorem zl_7 : ∀ i, i < 23 → zsl.getD i 0 < 2 ^ 31 := by decide +kernel
theorem zl_8 : ∀ i, i < 23 → Cond.stringRef (zso.getD i ("", 0, "")).1 (zso.getD i ("", 0, "")).2.1 (zso.getD i ("", 0, "")).2.2 ∈ lw_tbl := by decide +kernel
theorem zl_9 : ∀ j, j < 10 → Cond.eq (.elem (.static "UnitText$Items" "LEVELS" "[I") (.int (Int32.ofNat j))) (.int (zlev j)) ∈ zfl := by decide +kernel
theorem zNs_warm {w : Cond} (hw : w ∈ zNs) {u U : State} (hW : u.WarmedH U.vm) (h : va_Nw w u) : va_Nw w U := by
  have h2 := (List.mem_filter.mp hw).2
  cases w <;> first | exact va_Nw.warmF hW h | exact va_Nw.warmD hW h | exact va_Nw.warmC hW h | (simp [zIsN] at h2; done)
theorem zArr {s : State} {args : Array Value} {ty : FieldType} (h : (Cond.arrayClass ty).before args s = true) : ∃ cA, s.vm.findClass ("[" ++ ty.toString) = some cA ∧ ArrOfT s cA ty := by
  obtain ⟨c, k, comp, h1, h2, h3⟩ := Cond.arrayClass_spec h
  exact ⟨c, h1, fun n z => ⟨fun k h => (by cases h), k, h2, comp, h3⟩⟩
def zsaf (adK adV : Nat → Nat) (tL b tq fq : Nat) (i : Nat) : Nat := if i < 23 then adK i else if i = 100 then tL else if i = 200 then b else if i = 150 then tq else if i = 151 then fq else adV (i - 300)
def zGG (sa : Nat → Nat) (L : Nat) (xs : Nat → Int32) : (Nat → Prop) → State → Heap → Prop := fun A U H => (∀ w ∈ zNs, va_Nw w U) ∧ zKn sa A U H ∧ zScr sa L xs A U H
theorem zGG_ok (l : Launch) (D : va_G) (tc : Nat → ClassId) (sa : Nat → Nat) (L : Nat) (xs : Nat → Int32) (hl : l.stackTraces = false) : zGok (l, D, tc, sa, zGG sa L xs) := by
  refine ⟨?_, ?_, ?_, ?_, ?_, hl⟩
  · intro A u U H hW ⟨h1, h2, h3, h4, h5⟩
    exact ⟨fun w hw => zNs_warm hw hW (h1 w hw), zKn_moved hW h2, h3.moved hW.alike, h4, h5⟩
  · intro A U H H1 hq ⟨h1, h2, h3, h4, h5⟩
    have e := hq _ h5 h4
    refine ⟨h1, zKn_kept hq h2, h3.kept e, h4, ?_⟩
    obtain ⟨scr, hs, -⟩ := h3
    exact (Array.getElem?_eq_some_iff.mp (e.trans hs)).1
  · intro A B U H hAB ⟨h1, h2, h3, h4, h5⟩
    exact ⟨h1, zKn_narrow hAB h2, h3, fun q => h4 (hAB _ q), h5⟩
  · intro A U H h
    exact h.1
  · intro A U H h
    exact h.2.1
set_option maxHeartbeats 1000000 in
set_option maxRecDepth 100000 in
theorem zl_known {l : Launch} {p : Program} {s : State} {m : MethodId} {meth : Method} {c : Code} {b L : Nat} {xs : Nat → Int32} (C0 : lw_At l p s m meth c b L xs) :
    ∃ (D : va_G) (tc : Nat → ClassId) (sa : Nat → Nat), va_K D vwCl [(tc 0, .int), (tc 1, .long)] s ∧ zGG sa L xs (fun q => s.heap.size ≤ q) s s.heap ∧ sa 200 = b := by
  obtain ⟨hx, hb, hr, hml, hown, hts, hX, hbl, hlocks, hgv, htab, hnm, hst⟩ := C0
  have hs := flat_of_before _ hgv
  have hA : ∀ a : Nat, a < s.heap.size → ¬ (fun q : Nat => s.heap.size ≤ q) a := fun a h => Nat.not_le.mpr h
  obtain ⟨c0, i0, k0⟩ := u_known (C := RX0) (T := TX0) (N := 6) (n := 6) hts (fun w h => zT_in (inX0 w h)) (hts (.instantiable RX0 6) (by decide +kernel))
  obtain ⟨c1, i1, k1⟩ := u_known (C := RX3) (T := TX3) (N := 11) (n := 11) hts (fun w h => zT_in (inX3 w h)) (hts (.instantiable RX3 11) (by decide +kernel))
  obtain ⟨c2, i2, k2⟩ := u_known (C := RX4) (T := TX4) (N := 1) (n := 1) hts (fun w h => zT_in (inX4 w h)) (hts (.instantiable RX4 1) (by decide +kernel))
  obtain ⟨c3, i3, k3⟩ := u_known (C := RX6) (T := TX6) (N := 4) (n := 4) hts (fun w h => zT_in (inX6 w h)) (hts (.instantiable RX6 4) (by decide +kernel))
  obtain ⟨c4, i4, k4⟩ := u_known (C := RX7) (T := TX7) (N := 5) (n := 5) hts (fun w h => zT_in (inX7 w h)) (hts (.instantiable RX7 5) (by decide +kernel))
  obtain ⟨c5, i5, k5⟩ := u_known (C := RX8) (T := TX8) (N := 6) (n := 6) hts (fun w h => zT_in (inX8 w h)) (hts (.instantiable RX8 6) (by decide +kernel))
  obtain ⟨c6, i6, k6⟩ := u_known (C := RX9) (T := TX9) (N := 5) (n := 5) hts (fun w h => zT_in (inX9 w h)) (hts (.instantiable RX9 5) (by decide +kernel))
  obtain ⟨c7, i7, k7⟩ := u_known (C := RX10) (T := TX10) (N := 36) (n := 36) hts (fun w h => zT_in (inX10 w h)) (hts (.instantiable RX10 36) (by decide +kernel))
  obtain ⟨cI, hI1, hI2⟩ := zArr (hts _ (zT_in ac_int))
  obtain ⟨cJ, hJ1, hJ2⟩ := zArr (hts _ (zT_in ac_long))
  have hS0 : ∀ i : Nat, ∃ q : Nat × Nat, i < 23 → vk_S 1 [zsl.getD i 0] [zsb.getD i []] (fun _ => q.1) (fun _ => q.2) (fun q : Nat => s.heap.size ≤ q) s s.heap ∧ (ztm i).eval #[.ref b] s none [] s = some (.ref q.1) := by
    intro i
    by_cases hi : i < 23
    · obtain ⟨adK, adV, h1, h2⟩ := vk_Sof (N := 1) (tm := fun _ => ztm i) (len := [zsl.getD i 0]) (byt := [zsb.getD i []]) (A := fun q : Nat => s.heap.size ≤ q) (fun k hk => by have e : k = 0 := (by omega); subst e; exact zl_7 i hi) (fun _ _ => hs _ (zl_1 i hi)) (fun _ _ => hs _ (zl_2 i hi)) (fun _ _ => hs _ (zl_3 i hi)) (fun k hk => by have e : k = 0 := (by omega); subst e; exact hs _ (zl_4 i hi)) (fun k hk j hj => by have e : k = 0 := (by omega); subst e; exact hs _ (zl_5 i hi j hj)) (fun k j hk hj hkj => absurd (by omega : k = j) hkj) hA
      refine ⟨(adK 0, adV 0), fun _ => ⟨⟨fun k hk => ?_, fun a b ha hb _ => by omega⟩, h2 0 Nat.one_pos⟩⟩
      obtain rfl : k = 0 := by omega
      exact h1.1 0 Nat.one_pos
    · exact ⟨(0, 0), fun h => absurd h hi⟩
  obtain ⟨adK, adV, hSS⟩ : ∃ adK adV : Nat → Nat, ∀ i : Nat, i < 23 → vk_S 1 [zsl.getD i 0] [zsb.getD i []] (fun _ => adK i) (fun _ => adV i) (fun q : Nat => s.heap.size ≤ q) s s.heap ∧ (ztm i).eval #[.ref b] s none [] s = some (.ref (adK i)) := ⟨fun i => (Classical.choose (hS0 i)).1, fun i => (Classical.choose (hS0 i)).2, fun i => Classical.choose_spec (hS0 i)⟩
  obtain ⟨tL, htL, hTL⟩ := va_Tof (tm := .static "UnitText$Items" "LEVELS" "[I") (ty := .int) (N := 10) (f := fun j => .int (zlev j)) (by decide) (hs (.arrayOf (.static "UnitText$Items" "LEVELS" "[I") .int) (by decide +kernel)) (va_eqt (hs (.eq (.length (.static "UnitText$Items" "LEVELS" "[I")) (.int (Int32.ofNat 10))) (by decide +kernel))) (fun j hj => va_eqt (hs _ (zl_9 j hj))) hA
  have hZL := va_Zof (hts (.laysStatic "UnitText$Items" "LEVELS" "[I") (by decide +kernel)) (hts (.initialized "UnitText$Items") (by decide +kernel)) htL hA
  have hZC := va_Zof (hts (.laysStatic "java/lang/String" "COMPACT_STRINGS" "Z") (by decide +kernel)) (hts (.initialized "java/lang/String") (by decide +kernel)) (va_eqi (hs (.eq (.static "java/lang/String" "COMPACT_STRINGS" "Z") (.int 1)) (by decide +kernel))) hA
  have hZF := va_Zqof (hts (.laysStatic "jdk/internal/util/Preconditions" "SIOOBE_FORMATTER" "Ljava/util/function/BiFunction;") (by decide +kernel)) (hts (.initialized "jdk/internal/util/Preconditions") (by decide +kernel)) (hs (.isRef (.static "jdk/internal/util/Preconditions" "SIOOBE_FORMATTER" "Ljava/util/function/BiFunction;")) (by decide +kernel)) hA
  have hZU := vx_Zqof (hts (.laysStatic Bundle.tN "UNASSIGNED_STACK" Bundle.steD) (by decide +kernel)) (hts (.initialized Bundle.tN) (by decide +kernel)) (hs (.isRef (.static Bundle.tN "UNASSIGNED_STACK" Bundle.steD)) (by decide +kernel)) hA
  have hZN := vx_Zqof (hts (.laysStatic Bundle.tN "SUPPRESSED_SENTINEL" Bundle.listD) (by decide +kernel)) (hts (.initialized Bundle.tN) (by decide +kernel)) (hs (.isRef (.static Bundle.tN "SUPPRESSED_SENTINEL" Bundle.listD)) (by decide +kernel)) hA
  have hfm : ∃ tq fq : Nat, va_Z "jdk/internal/util/Preconditions" "SIOOBE_FORMATTER" "Ljava/util/function/BiFunction;" (if fq = 0 then .null else .ref tq) (fun q : Nat => s.heap.size ≤ q) s s.heap := by
    rcases hZF with h | ⟨t, h⟩
    · exact ⟨0, 0, h⟩
    · exact ⟨t, 1, h⟩
  obtain ⟨tq, fq, hfm⟩ := hfm
  have e1 : ∀ i, i < 23 → zsaf adK adV tL b tq fq i = adK i := fun i hi => if_pos hi
  have e2 : ∀ i, i < 23 → zsaf adK adV tL b tq fq (300 + i) = adV i := fun i hi => by
    unfold zsaf
    rw [if_neg (by omega), if_neg (by omega), if_neg (by omega), if_neg (by omega), if_neg (by omega)]
    exact congrArg adV (by omega)
  refine ⟨(fun k => match k with | 0 => c0 | 1 => c1 | 2 => c2 | 3 => c3 | 4 => c4 | 5 => c5 | 6 => c6 | _ => c7, fun k => match k with | 0 => i0 | 1 => i1 | 2 => i2 | 3 => i3 | 4 => i4 | 5 => i5 | 6 => i6 | _ => i7), fun k => if k = 0 then cI else cJ, zsaf adK adV tL b tq fq, ⟨?_, ?_⟩, ⟨fun w hw => va_Nw.of (zNs_on hw) (hts w (List.mem_filter.mp hw).1), ⟨?_, ?_, hZL, hTL, hZC, hfm, hZU, hZN⟩, hX, hA b hbl, hbl⟩, rfl⟩
  · intro k q hq
    match k, hq with
    | 0, hq => cases hq; exact k0
    | 1, hq => cases hq; exact k1
    | 2, hq => cases hq; exact k2
    | 3, hq => cases hq; exact k3
    | 4, hq => cases hq; exact k4
    | 5, hq => cases hq; exact k5
    | 6, hq => cases hq; exact k6
    | 7, hq => cases hq; exact k7
    | k + 8, hq => cases hq
  · intro k q hq
    match k, hq with
    | 0, hq => cases hq; exact ⟨hI2, hI1⟩
    | 1, hq => cases hq; exact ⟨hJ2, hJ1⟩
    | k + 2, hq => cases hq
  · intro i hi
    rw [e1 i hi, e2 i hi]
    exact (hSS i hi).1
  · intro i q hq
    have hi : i < 23 := (List.getElem?_eq_some_iff.mp hq).1
    have eq : zso.getD i ("", 0, "") = q := by rw [List.getD_eq_getElem?_getD, hq]; rfl
    have h8 := hts _ (zl_8 i hi)
    have h9 := (hSS i hi).2
    unfold ztm at h9
    rw [eq] at h8 h9
    rw [e1 i hi]
    exact vk_R.of h8 h9
