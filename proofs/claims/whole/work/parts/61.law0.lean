def zs0 : zS := (fun k => if k = 310 then (-1) else if k = 601 then 3 else if k = 602 then 3001 else if k = 901 then 6 else if k = 902 then 400 else if k = 1101 then 8 else if k = 1102 then 800 else if k = 1301 then 2 else if k = 1302 then 2000 else if k = 1501 then 2 else if k = 1502 then 150 else if k = 1901 then 6 else if k = 1902 then 400 else if k = 2101 then 8 else if k = 2102 then 800 else if k = 2301 then 2 else if k = 2302 then 2000 else if k = 2501 then 2 else if k = 2502 then 150 else if k = 3314 then (-1) else 0, fun _ _ => 0, fun k => if k = 301 then 8 else if k = 302 then 18 else 0, fun _ => 0)
set_option maxHeartbeats 1000000 in
set_option maxRecDepth 100000 in
theorem tL_law_0 {g : zGl} (hok : zGok g) (d : Nat) (hd : 426 ≤ d) (N n : Nat) (L : Nat) (xs : Nat → Int32) (hsc : ∀ (A : Nat → Prop) (U : State) (H : Heap), g.2.2.2.2 A U H → zScr g.2.2.2.1 L xs A U H) {mc ms : Nat} {Q : zO → List zE → Prop} (h1 : 51 + n ≤ mc) (h2 : 131403 + 6 * n ≤ ms) {s' : zS} (hf : fL_law_L23 N L xs n 0 zs0 = some (.inr s')) (hq : Q (.inl (some (.int 1))) (zHp s')) :
    zW g mL_law d mc ms 0 Q 0 0 [] [some (.ref 1200), none, none, none, none, none, none] [] 0 := by
  refine z_new 5 dL_law_0 nL_8 rfl (fun _ => rfl) ⟨by rfl, by rfl, by rfl, by decide⟩ (by rfl) (by omega) (by omega) ?_
  refine z_dup dL_law_3 rfl ?_
  refine z_callI hok dL_law_4 kL_15 (i_UnitText hok (d - 1) (by omega)) (fun _ _ q => by cases q.1) rfl rfl (by omega) (Nat.le_of_ble_eq_true rfl) (by omega) (by omega) (fun v h' q => ?_)
  obtain ⟨q1, q2⟩ := q
  cases q1
  subst q2
  refine ⟨⟨by rfl, by rfl⟩, ?_⟩
  refine z_astore_n (ls' := [_, _, _, _, _, _, _]) dL_law_7 (by decide) rfl ?_
  refine z_new 36 dL_law_8 nL_16 rfl (fun _ => rfl) ⟨by rfl, by rfl, by rfl, by decide⟩ (by rfl) (by omega) (by omega) ?_
  refine z_dup dL_law_11 rfl ?_
  refine z_callI hok dL_law_12 kL_18 (i_Model hok (d - 1)) (fun _ _ q => by cases q.1) rfl rfl (by omega) (Nat.le_of_ble_eq_true rfl) (by omega) (by omega) (fun v h' q => ?_)
  obtain ⟨q1, q2⟩ := q
  cases q1
  subst q2
  refine ⟨⟨by rfl, by rfl⟩, ?_⟩
  refine z_astore_n (ls' := [_, _, _, _, _, _, _]) dL_law_15 (by decide) rfl ?_
  refine z_iconst 1 dL_law_16 (by decide +kernel) ?_
  refine z_newa 1 1 .long (1, .inr (.inl (fun _ => 0))) dL_law_17 rfl rfl (fun _ => rfl) (fun _ _ => rfl) ac_long (by decide) (by decide +kernel) (by decide) ⟨by rfl, by rfl, by rfl, by decide⟩ (by omega) (by omega) ?_
  refine z_astore_n (ls' := [_, _, _, _, _, _, _]) dL_law_19 (by decide) rfl ?_
  refine z_iconst 0 dL_law_20 (by decide +kernel) ?_
  refine z_istore (ls' := [_, _, _, _, _, _, _]) dL_law_21 (by decide) rfl ?_
  show zW g mL_law d mc ms 0 Q _ _ (zHp zs0) [some (.ref 1200), some (.ref 0), some (.ref 33), some (.ref 50), some (.int 0), none, none] [] 23
  refine tL_law_L23 hok d hd N L xs hsc n 0 zs0 _ _ (by omega) (by omega) _ hf (fun w s1 hh => by cases hh) (fun s1 cl sl b1 b2 hh => ?_)
  cases hh
  refine z_iconst 1 dL_law_670 (by decide +kernel) ?_
  exact z_zret rfl (by decide) dL_law_671 b1 b2 hq
