def zso : List (String × Nat × String) := [(RX7, 42, " "), (RX7, 44, ", "), (RX7, 95, "\\n"), (RX7, 97, "\\t"), (RX7, 99, "\\0"), (RX7, 101, "\\\\"), (RX7, 103, "\\\""), (RX2, 7, "hi"), (RX2, 9, "lo"), (RX2, 11, "pcrel_hi"), (RX2, 13, "pcrel_lo"), (RX1, 13, "~"), (RX1, 15, "+"), (RX1, 17, "*"), (RX1, 19, "/"), (RX1, 21, "%"), (RX1, 23, "<<"), (RX1, 25, ">>"), (RX1, 27, "&"), (RX1, 29, "^"), (RX1, 31, "|"), (RX1, 33, "-"), (RX3, 81, "the text has a fault")]
def zsl : List Nat := [1, 2, 2, 2, 2, 2, 2, 2, 2, 8, 8, 1, 1, 1, 1, 1, 2, 2, 1, 1, 1, 1, 20]
def zsb : List (List Int32) := [[32], [44, 32], [92, 110], [92, 116], [92, 48], [92, 92], [92, 34], [104, 105], [108, 111], [112, 99, 114, 101, 108, 95, 104, 105], [112, 99, 114, 101, 108, 95, 108, 111], [126], [43], [42], [47], [37], [60, 60], [62, 62], [38], [94], [124], [45], [116, 104, 101, 32, 116, 101, 120, 116, 32, 104, 97, 115, 32, 97, 32, 102, 97, 117, 108, 116]]
def zlev (j : Nat) : Int32 := ([5, 5, 6, 6, 6, 4, 4, 3, 2, 1] : List Int32).getD j 0
def zfm (sa : Nat → Nat) : Value := if sa 151 = 0 then .null else .ref (sa 150)
def zKn (sa : Nat → Nat) (A : Nat → Prop) (U : State) (H : Heap) : Prop :=
  (∀ i : Nat, i < 23 → vk_S 1 [zsl.getD i 0] [zsb.getD i []] (fun _ => sa i) (fun _ => sa (300 + i)) A U H) ∧ (∀ (i : Nat) (q : String × Nat × String), zso[i]? = some q → vk_R q.1 q.2.1 q.2.2 (sa i) U) ∧ va_Z "UnitText$Items" "LEVELS" "[I" (.ref (sa 100)) A U H ∧ va_T .int (sa 100) 10 (fun j => .int (zlev j)) A U H ∧ va_Z "java/lang/String" "COMPACT_STRINGS" "Z" (.int 1) A U H ∧ va_Z "jdk/internal/util/Preconditions" "SIOOBE_FORMATTER" "Ljava/util/function/BiFunction;" (zfm sa) A U H ∧ vx_Zq Bundle.tN "UNASSIGNED_STACK" Bundle.steD A U H ∧ vx_Zq Bundle.tN "SUPPRESSED_SENTINEL" Bundle.listD A U H
theorem zKn_moved {sa : Nat → Nat} {A : Nat → Prop} {u U : State} {H : Heap} (hW : u.WarmedH U.vm) (h : zKn sa A u H) : zKn sa A U H := by
  obtain ⟨h1, h2, h3, h4, h5, h6, h7, h8⟩ := h
  exact ⟨fun i hi => (h1 i hi).moved hW.alike, fun i q hq => (h2 i q hq).warm hW, h3.moved hW.alike, h4.moved hW.alike, h5.moved hW.alike, h6.moved hW.alike, h7.moved hW.alike, h8.moved hW.alike⟩
theorem zKn_kept {sa : Nat → Nat} {A : Nat → Prop} {U : State} {H H1 : Heap} (hq : ∀ a : Nat, a < H.size → ¬ A a → H1[a]? = H[a]?) (h : zKn sa A U H) : zKn sa A U H1 := by
  obtain ⟨h1, h2, h3, h4, h5, h6, h7, h8⟩ := h
  exact ⟨fun i hi => (h1 i hi).kept hq, h2, h3.kept hq, h4.kept hq, h5.kept hq, h6.kept hq, h7.kept hq, h8.kept hq⟩
theorem zKn_narrow {sa : Nat → Nat} {A B : Nat → Prop} {U : State} {H : Heap} (hAB : ∀ q, B q → A q) (h : zKn sa A U H) : zKn sa B U H := by
  obtain ⟨h1, h2, h3, h4, h5, h6, h7, h8⟩ := h
  exact ⟨fun i hi => (h1 i hi).narrow hAB, h2, h3.narrow hAB, h4.narrow hAB, h5.narrow hAB, h6.narrow hAB, h7.narrow hAB, h8.narrow hAB⟩
