section ZR
variable {g : zGl} {M : zMd} {d mc ms n0 cells slots pc : Nat} {Q : zO → List zE → Prop} {h : List zE} {ls ls' : List (Option Value)} {st : List Value}
/-- throw new IllegalArgumentException(text) -/
theorem z_throw {ik is ic : Nat} {tx : String} (i : Nat) (hok : zGok g) (hi : zso[i]? = some (M.1.cls, is, tx))
    (w1 : Cond.classLink M.1.cls ik zIAE ∈ zT) (w2 : Cond.initialized zIAE ∈ zT) (hat : ∀ w ∈ (vx_atS M.1.cls ic zIAE ["java/lang/RuntimeException", "java/lang/Exception"]).filter goodWord, w ∈ zT)
    (hng : ∀ w ∈ (vx_atS M.1.cls ic zIAE ["java/lang/RuntimeException", "java/lang/Exception"]).filter (fun w => !goodWord w), w ∈ zNs)
    (hgd : ∀ w ∈ Cond.classLink M.1.cls ik zIAE :: Cond.initialized zIAE :: vx_atS M.1.cls ic zIAE ["java/lang/RuntimeException", "java/lang/Exception"], vx_ot w = true)
    (d0 : decode M.2.1 pc = .ok (.new ik, 3)) (d3 : decode M.2.1 (pc + 3) = .ok (.dup, 1)) (d4 : decode M.2.1 (pc + 4) = .ok (.ldc is, 2)) (d6 : decode M.2.1 (pc + 6) = .ok (.invokespecial ic, 3)) (d9 : decode M.2.1 (pc + 9) = .ok (.athrow, 1))
    (hcat : (st.map fun v => v.category).sum ≤ 8) (hc1 : cells + 1 ≤ mc) (hc2 : slots + 6 ≤ ms) (hq : Q (.inr zIAE) h) : zW g M d mc ms n0 Q cells slots (h) ls (st) (pc) := by
  intro p e R s m args below meth c H locs A ad ad0 cls F Ro S E hn L
  have r1 := Ro.1
  have r2 := Ro.2.1
  have r3 := zc_cats ad st
  have hU := (hok.2.2.2.2.1 _ _ _ S.2.2.2.2.1).2.2.2.2.2.2.1
  have hN := (hok.2.2.2.2.1 _ _ _ S.2.2.2.2.1).2.2.2.2.2.2.2
  refine vx_throwS (A := A) F.1 F.2.1 hok.2.2.2.2.2 F.2.2.2.2.2.1 (by decide +kernel) (by decide +kernel) (F.2.2.2.2.2.2.1 _ w1) (F.2.2.2.2.2.2.1 _ w2) ((hok.2.2.2.2.1 _ _ _ S.2.2.2.2.1).2.1 i _ hi) (vx_hat (fun w hw => F.2.2.2.2.2.2.1 w (hat w hw)) hng (fun w hw => va_Nw.use (zNs_on hw) (hok.2.2.2.1 _ _ _ S.2.2.2.2.1 w hw))) hgd hU hN S.2.2.1 (L.1.trans F.2.2.1.symm) d0 d3 d4 d6 d9 (fun x hx => absurd hx (fun hx => F.2.2.2.2.2.2.2.1 x hx)) (by show 2 + 3 < R.frames; omega) (by show _ + (13 * (2 + 1) + 43) ≤ R.locals; omega) (Nat.le_trans hc1 Ro.2.2.1) (Nat.le_trans hc2 Ro.2.2.2) F.2.2.2.2.1 (fun t _ hz ht => ?_) S.2.2.1.2.2 hc1 hc2
  refine ⟨h, ad, hq, E, hn, S.2.2.2.2.2.2, ?_, S.2.1, ?_⟩
  · exact S.1.kept (fun k q hk => ht q.1 (vx_lt S.1 hk))
  · exact ⟨Nat.le_trans S.2.2.1.1 hz, fun q h1 h2 => by rw [ht q (Nat.lt_of_lt_of_le h1 S.2.2.1.1)]; exact S.2.2.1.2.1 q h1 h2⟩
end ZR
theorem thr_1 : ∀ w ∈ (vx_atS RX3 83 zIAE ["java/lang/RuntimeException", "java/lang/Exception"]).filter goodWord, w ∈ zT := by decide +kernel
theorem thr_2 : ∀ w ∈ (vx_atS RX3 83 zIAE ["java/lang/RuntimeException", "java/lang/Exception"]).filter (fun w => !goodWord w), w ∈ zNs := by decide +kernel
theorem thr_3 : ∀ w ∈ Cond.classLink RX3 79 zIAE :: Cond.initialized zIAE :: vx_atS RX3 83 zIAE ["java/lang/RuntimeException", "java/lang/Exception"], vx_ot w = true := by decide +kernel
theorem thr_4 : Cond.classLink RX3 79 zIAE ∈ zT := by decide +kernel
theorem thr_5 : Cond.initialized zIAE ∈ zT := by decide +kernel
noncomputable def fX3_refuse (N : Nat) (p0 : Int32) (s : zS) : Option (Option Unit × zS) := some (none, zsc (zsc s 309 p0) 310 (s.1 305))
set_option maxHeartbeats 4000000 in
set_option maxRecDepth 100000 in
theorem tX3_refuse {g : zGl} (hok : zGok g) (d : Nat) (N : Nat) (p0 : Int32) {s s' : zS} {w : Option Unit} (hf : fX3_refuse N p0 s = some (w, s')) : zMet g mX3_refuse d (zk1 w) (zk6 w) [.ref 3, .int p0] (zHp s) (zendV w (zHp s')) := by
  refine zMet.ofW (by decide +kernel) (Nat.le_of_ble_eq_true rfl) ?_
  unfold fX3_refuse at hf
  cases hf
  show zW g mX3_refuse d 1 6 51 _ 0 0 (zHp s) [some (.ref 3), some (.int p0)] [] 0
  refine z_aload_n dX3_refuse_0 rfl ?_
  refine z_iload_n dX3_refuse_1 rfl ?_
  refine z_putf dX3_refuse_2 fX3_32 wX3_9 (at_Reader s) (Nat.le_of_ble_eq_true rfl) (fun _ => rfl) (fun _ => rfl) (st_Reader_9 s p0) ?_
  refine z_aload_n dX3_refuse_5 rfl ?_
  refine z_aload_n dX3_refuse_6 rfl ?_
  refine z_getf dX3_refuse_7 fX3_69 (at_Reader (zsc s 309 p0)) rfl ?_
  refine z_putf dX3_refuse_10 fX3_28 wX3_10 (at_Reader (zsc s 309 p0)) (Nat.le_of_ble_eq_true rfl) (fun _ => rfl) (fun _ => rfl) (st_Reader_10 (zsc s 309 p0) (s.1 305)) ?_
  exact z_throw 22 hok rfl thr_4 thr_5 thr_1 thr_2 thr_3 dX3_refuse_13 dX3_refuse_16 dX3_refuse_17 dX3_refuse_19 dX3_refuse_22 (Nat.le_of_ble_eq_true rfl) (Nat.le_refl _) (Nat.le_refl _) ⟨rfl, rfl⟩
