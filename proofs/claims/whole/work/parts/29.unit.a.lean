noncomputable def fX9_letWait_L2S (N : Nat) (p0 : Int32) (p1 : Int32) (rec : Int32 → zS → Option ((Unit × zS) ⊕ (zS))) (v3 : Int32) (s : zS) : Option ((Unit × zS) ⊕ (zS)) := if (p0 + 4) ≤ v3 then some (.inr (s)) else if 20 ≤ v3 then some (.inr (s)) else if zga v3 (zlen 1) = true then rec (v3 + 1) (zsr s 1 v3 (((p1.toUInt32 >>> ((24 - (8 * (v3 - p0))).toUInt32 &&& Int32.toUInt32 31)).toInt32) &&& 255)) else none
noncomputable def fX9_letWait_L2 (N : Nat) (p0 : Int32) (p1 : Int32) (n : Nat) : Int32 → zS → Option ((Unit × zS) ⊕ (zS)) := Nat.rec (motive := fun _ => Int32 → zS → Option ((Unit × zS) ⊕ (zS))) (fun _ _ => none) (fun _ rec => fX9_letWait_L2S N p0 p1 rec) n
set_option maxHeartbeats 400000 in
set_option maxRecDepth 100000 in
theorem tX9_letWait_L2 {g : zGl} (hok : zGok g) (d : Nat)  (N : Nat) (p0 : Int32) (p1 : Int32)  {mc ms n0 : Nat} {Q : zO → List zE → Prop} (n : Nat) : ∀ (v3 : Int32) (s : zS) (r : (Unit × zS) ⊕ (zS)) (hf : fX9_letWait_L2 N p0 p1 n v3 s = some r) (k1 : ∀ w s', r = .inl (w, s') → Q (.inl none) (zHp s')) (k2 : ∀  (s' : zS), r = .inr (s') → zW g mX9_letWait d mc ms n0 Q 0 0 (zHp s') [some (.ref 0), some (.int p0), some (.int p1), none] [] 42), zW g mX9_letWait d mc ms n0 Q 0 0 (zHp s) [some (.ref 0), some (.int p0), some (.int p1), some (.int v3)] [] 2 := by
  induction n with
  | zero => intro v3 s r hf; cases hf
  | succ n ih =>
    intro v3 s r hf k1 k2
    have hrec : ∀ (v3 : Int32) (s : zS) (r1 : (Unit × zS) ⊕ (zS)), fX9_letWait_L2 N p0 p1 n v3 s = some r1 → r1 = r → zW g mX9_letWait d mc ms n0 Q 0 0 (zHp s) [some (.ref 0), some (.int p0), some (.int p1), some (.int v3)] [] 2 := fun v3 s r1 h e => ih v3 s r1 h (by subst e; exact k1) (by subst e; exact k2)
    have hrec : ∀ (v3 : Int32) (s : zS), fX9_letWait_L2 N p0 p1 n v3 s = some r → zW g mX9_letWait d mc ms n0 Q 0 0 (zHp s) [some (.ref 0), some (.int p0), some (.int p1), some (.int v3)] [] 2 := fun v3 s h => hrec v3 s r h rfl
    have hf : fX9_letWait_L2S N p0 p1 (fX9_letWait_L2 N p0 p1 n) v3 s = some r := hf
    unfold fX9_letWait_L2S at hf
    refine z_iload_n dX9_letWait_2 rfl ?_
    refine z_iload_n dX9_letWait_3 rfl ?_
    refine z_iconst 4 dX9_letWait_4 (by decide +kernel) ?_
    refine z_iadd dX9_letWait_5 ?_
    refine z_icmp_ge 42 dX9_letWait_6 (by decide) (fun c6 => ?_) (fun c6 => ?_)
    · have hf := zifp hf c6
      cases hf
      refine z_mask (ls' := [_, _, _, _]) [true, true, true, false] rfl ?_
      exact k2  _ rfl
    · have hf := zifn hf c6
      refine z_iload_n dX9_letWait_9 rfl ?_
      refine z_bipush 20 dX9_letWait_10 (by decide +kernel) ?_
      refine z_icmp_ge 42 dX9_letWait_12 (by decide) (fun c12 => ?_) (fun c12 => ?_)
      · have hf := zifp hf c12
        cases hf
        refine z_mask (ls' := [_, _, _, _]) [true, true, true, false] rfl ?_
        exact k2  _ rfl
      · have hf := zifn hf c12
        refine z_aload_n dX9_letWait_15 rfl ?_
        refine z_getf dX9_letWait_16 fX9_9 (at_UnitText s) rfl ?_
        refine z_iload_n dX9_letWait_19 rfl ?_
        refine z_iload_n dX9_letWait_20 rfl ?_
        refine z_bipush 24 dX9_letWait_21 (by decide +kernel) ?_
        refine z_bipush 8 dX9_letWait_23 (by decide +kernel) ?_
        refine z_iload_n dX9_letWait_25 rfl ?_
        refine z_iload_n dX9_letWait_26 rfl ?_
        refine z_isub dX9_letWait_27 ?_
        refine z_imul dX9_letWait_28 ?_
        refine z_isub dX9_letWait_29 ?_
        refine z_iushr dX9_letWait_30 ?_
        refine z_sipush 255 dX9_letWait_31 (by decide +kernel) ?_
        refine z_iand dX9_letWait_34 ?_
        obtain ⟨hi1, hf⟩ := zifs hf
        refine z_iastore dX9_letWait_35 (at_arr s 1 (by decide)) (zga_in hi1) (st_arr s 1 (by decide) v3 (((p1.toUInt32 >>> ((24 - (8 * (v3 - p0))).toUInt32 &&& Int32.toUInt32 31)).toInt32) &&& 255)) ?_
        refine z_iinc (ls' := [_, _, _, _]) (v3 + 1) dX9_letWait_36 rfl rfl (by decide) rfl ?_
        refine z_goto 2 dX9_letWait_39 (by decide) ?_
        refine z_mask (ls' := [_, _, _, _]) [true, true, true, true] rfl ?_
        exact hrec (v3 + 1) (zsr s 1 v3 (((p1.toUInt32 >>> ((24 - (8 * (v3 - p0))).toUInt32 &&& Int32.toUInt32 31)).toInt32) &&& 255)) hf
noncomputable def fX9_letWait (N : Nat) (p0 : Int32) (p1 : Int32) (s : zS) : Option (Unit × zS) := zbl (fX9_letWait_L2 N p0 p1 N p0 s) (fun x => some x) (fun s5 => some ((), s5))
set_option maxHeartbeats 400000 in
set_option maxRecDepth 100000 in
theorem tX9_letWait {g : zGl} (hok : zGok g) (d : Nat)  (N : Nat) (p0 : Int32) (p1 : Int32)  {s s' : zS} {w : Unit} (hf : fX9_letWait N p0 p1 s = some (w, s')) : zMet g mX9_letWait d 0 0 [.ref 0, .int p0, .int p1] (zHp s) (zret none (zHp s')) := by
  refine zMet.ofW (by decide +kernel) (Nat.le_of_ble_eq_true rfl) ?_
  show zW g mX9_letWait d 0 0 51 _ 0 0 (zHp s) [some (.ref 0), some (.int p0), some (.int p1), none] [] 0
  unfold fX9_letWait at hf
  refine z_iload_n dX9_letWait_0 rfl ?_
  refine z_istore_n (ls' := [_, _, _, _]) dX9_letWait_1 (by decide) rfl ?_
  refine z_mask (ls' := [_, _, _, _]) [true, true, true, true] rfl ?_
  rcases zbl_of hf with ⟨lr3, le4, hf⟩ | ⟨lr3, le4, hf⟩
  · cases hf
    exact tX9_letWait_L2 hok d N p0 p1  N p0 s _ le4 (fun w1 s1 hh => by cases hh; exact ⟨rfl, rfl⟩) (fun  _ hh => by cases hh)
  · obtain ⟨s5, rfl⟩ : ∃ z, z = lr3 := ⟨_, rfl⟩
    refine tX9_letWait_L2 hok d N p0 p1  N p0 s _ le4 (fun w1 s1 hh => by cases hh) (fun  _ hh => ?_)
    cases hh
    cases hf
    exact z_vret rfl dX9_letWait_42 (Nat.zero_le _) (Nat.zero_le _) ⟨rfl, rfl⟩

noncomputable def fX9_feed (N : Nat) (p0 : Int32) (p1 : Int32) (p2 : Int32) (p3 : Int32) (p4 : Int32) (s : zS) : Option (Unit × zS) := zbn (fX9_letWait N 0 p0 s) (fun x1 s2 => zbn (fX9_letWait N 4 p1 s2) (fun x4 s5 => zbn (fX9_letWait N 8 p2 s5) (fun x7 s8 => zbn (fX9_letWait N 12 p3 s8) (fun x10 s11 => zbn (fX9_letWait N 16 p4 s11) (fun x13 s14 => some ((), s14))))))
set_option maxHeartbeats 400000 in
set_option maxRecDepth 100000 in
theorem tX9_feed {g : zGl} (hok : zGok g) (d : Nat) (hd : 1 ≤ d) (N : Nat) (p0 : Int32) (p1 : Int32) (p2 : Int32) (p3 : Int32) (p4 : Int32)  {s s' : zS} {w : Unit} (hf : fX9_feed N p0 p1 p2 p3 p4 s = some (w, s')) : zMet g mX9_feed d 0 0 [.ref 0, .int p0, .int p1, .int p2, .int p3, .int p4] (zHp s) (zret none (zHp s')) := by
  refine zMet.ofW (by decide +kernel) (Nat.le_of_ble_eq_true rfl) ?_
  show zW g mX9_feed d 0 0 51 _ 0 0 (zHp s) [some (.ref 0), some (.int p0), some (.int p1), some (.int p2), some (.int p3), some (.int p4)] [] 0
  unfold fX9_feed at hf
  refine z_aload_n dX9_feed_0 rfl ?_
  refine z_iconst 0 dX9_feed_1 (by decide +kernel) ?_
  refine z_iload_n dX9_feed_2 rfl ?_
  obtain ⟨x1, s2, q3, hf⟩ := zbn_of hf
  refine z_cV (as := [_, _]) hok dX9_feed_3 kX9_37 (tX9_letWait hok (d - 1) N 0 p0  q3) rfl (at_UnitText s) rfl rfl (by omega) (Nat.le_of_ble_eq_true rfl) (Nat.zero_le _) (Nat.zero_le _) rfl ?_
  refine z_aload_n dX9_feed_6 rfl ?_
  refine z_iconst 4 dX9_feed_7 (by decide +kernel) ?_
  refine z_iload_n dX9_feed_8 rfl ?_
  obtain ⟨x4, s5, q6, hf⟩ := zbn_of hf
  refine z_cV (as := [_, _]) hok dX9_feed_9 kX9_37 (tX9_letWait hok (d - 1) N 4 p1  q6) rfl (at_UnitText s2) rfl rfl (by omega) (Nat.le_of_ble_eq_true rfl) (Nat.zero_le _) (Nat.zero_le _) rfl ?_
  refine z_aload_n dX9_feed_12 rfl ?_
  refine z_bipush 8 dX9_feed_13 (by decide +kernel) ?_
  refine z_iload_n dX9_feed_15 rfl ?_
  obtain ⟨x7, s8, q9, hf⟩ := zbn_of hf
  refine z_cV (as := [_, _]) hok dX9_feed_16 kX9_37 (tX9_letWait hok (d - 1) N 8 p2  q9) rfl (at_UnitText s5) rfl rfl (by omega) (Nat.le_of_ble_eq_true rfl) (Nat.zero_le _) (Nat.zero_le _) rfl ?_
  refine z_aload_n dX9_feed_19 rfl ?_
  refine z_bipush 12 dX9_feed_20 (by decide +kernel) ?_
  refine z_iload dX9_feed_22 rfl ?_
  obtain ⟨x10, s11, q12, hf⟩ := zbn_of hf
  refine z_cV (as := [_, _]) hok dX9_feed_24 kX9_37 (tX9_letWait hok (d - 1) N 12 p3  q12) rfl (at_UnitText s8) rfl rfl (by omega) (Nat.le_of_ble_eq_true rfl) (Nat.zero_le _) (Nat.zero_le _) rfl ?_
  refine z_aload_n dX9_feed_27 rfl ?_
  refine z_bipush 16 dX9_feed_28 (by decide +kernel) ?_
  refine z_iload dX9_feed_30 rfl ?_
  obtain ⟨x13, s14, q15, hf⟩ := zbn_of hf
  refine z_cV (as := [_, _]) hok dX9_feed_32 kX9_37 (tX9_letWait hok (d - 1) N 16 p4  q15) rfl (at_UnitText s11) rfl rfl (by omega) (Nat.le_of_ble_eq_true rfl) (Nat.zero_le _) (Nat.zero_le _) rfl ?_
  cases hf
  exact z_vret rfl dX9_feed_35 (Nat.zero_le _) (Nat.zero_le _) ⟨rfl, rfl⟩

noncomputable def fX9_end_L32S (N : Nat) (p0 : Int32) (rec : Int32 → zS → Option ((Int32 × zS) ⊕ (zS))) (v2 : Int32) (s : zS) : Option ((Int32 × zS) ⊕ (zS)) := if p0 ≤ v2 then some (.inr (s)) else if zga v2 (zlen 1) = true then zbn (fX8_addByte N (s.2.1 1 v2.toNatClampNeg) s) (fun x2 s3 => rec (v2 + 1) s3) else none
noncomputable def fX9_end_L32 (N : Nat) (p0 : Int32) (n : Nat) : Int32 → zS → Option ((Int32 × zS) ⊕ (zS)) := Nat.rec (motive := fun _ => Int32 → zS → Option ((Int32 × zS) ⊕ (zS))) (fun _ _ => none) (fun _ rec => fX9_end_L32S N p0 rec) n
set_option maxHeartbeats 400000 in
set_option maxRecDepth 100000 in
theorem tX9_end_L32 {g : zGl} (hok : zGok g) (d : Nat) (hd : 1 ≤ d) (N : Nat) (p0 : Int32)  {mc ms n0 : Nat} {Q : zO → List zE → Prop} (n : Nat) : ∀ (v2 : Int32) (s : zS) (r : (Int32 × zS) ⊕ (zS)) (hf : fX9_end_L32 N p0 n v2 s = some r) (k1 : ∀ w s', r = .inl (w, s') → Q (.inl (some (.int w))) (zHp s')) (k2 : ∀  (s' : zS), r = .inr (s') → zW g mX9_end d mc ms n0 Q 0 0 (zHp s') [some (.ref 0), some (.int p0), none] [] 59), zW g mX9_end d mc ms n0 Q 0 0 (zHp s) [some (.ref 0), some (.int p0), some (.int v2)] [] 32 := by
  induction n with
  | zero => intro v2 s r hf; cases hf
  | succ n ih =>
    intro v2 s r hf k1 k2
    have hrec : ∀ (v2 : Int32) (s : zS) (r1 : (Int32 × zS) ⊕ (zS)), fX9_end_L32 N p0 n v2 s = some r1 → r1 = r → zW g mX9_end d mc ms n0 Q 0 0 (zHp s) [some (.ref 0), some (.int p0), some (.int v2)] [] 32 := fun v2 s r1 h e => ih v2 s r1 h (by subst e; exact k1) (by subst e; exact k2)
    have hrec : ∀ (v2 : Int32) (s : zS), fX9_end_L32 N p0 n v2 s = some r → zW g mX9_end d mc ms n0 Q 0 0 (zHp s) [some (.ref 0), some (.int p0), some (.int v2)] [] 32 := fun v2 s h => hrec v2 s r h rfl
    have hf : fX9_end_L32S N p0 (fX9_end_L32 N p0 n) v2 s = some r := hf
    unfold fX9_end_L32S at hf
    refine z_iload_n dX9_end_32 rfl ?_
    refine z_iload_n dX9_end_33 rfl ?_
    refine z_icmp_ge 59 dX9_end_34 (by decide) (fun c34 => ?_) (fun c34 => ?_)
    · have hf := zifp hf c34
      cases hf
      refine z_mask (ls' := [_, _, _]) [true, true, false] rfl ?_
      exact k2  _ rfl
    · have hf := zifn hf c34
      refine z_aload_n dX9_end_37 rfl ?_
      refine z_getf dX9_end_38 fX9_19 (at_UnitText s) rfl ?_
      refine z_getN hok dX9_end_41 fX9_41 (at_Reader s) rfl ?_
      refine z_aload_n dX9_end_44 rfl ?_
      refine z_getf dX9_end_45 fX9_9 (at_UnitText s) rfl ?_
      refine z_iload_n dX9_end_48 rfl ?_
      obtain ⟨hi1, hf⟩ := zifs hf
      refine z_iald dX9_end_49 (at_arr s 1 (by decide)) (zga_in hi1) ?_
      obtain ⟨x2, s3, q4, hf⟩ := zbn_of hf
      refine z_cV (as := [_]) hok dX9_end_50 kX9_51 (tX8_addByte hok (d - 1) N (s.2.1 1 v2.toNatClampNeg)  q4) rfl (at_Words s) rfl rfl (by omega) (Nat.le_of_ble_eq_true rfl) (Nat.zero_le _) (Nat.zero_le _) rfl ?_
      refine z_iinc (ls' := [_, _, _]) (v2 + 1) dX9_end_53 rfl rfl (by decide) rfl ?_
      refine z_goto 32 dX9_end_56 (by decide) ?_
      refine z_mask (ls' := [_, _, _]) [true, true, true] rfl ?_
      exact hrec (v2 + 1) s3 hf
noncomputable def fX9_end_L61S (N : Nat) (p0 : Int32) (rec : Int32 → zS → Option ((Int32 × zS) ⊕ (zS))) (v2 : Int32) (s : zS) : Option ((Int32 × zS) ⊕ (zS)) := if 20 ≤ v2 then some (.inr (s)) else if zga v2 (zlen 1) = true then rec (v2 + 1) (zsr s 1 v2 0) else none
noncomputable def fX9_end_L61 (N : Nat) (p0 : Int32) (n : Nat) : Int32 → zS → Option ((Int32 × zS) ⊕ (zS)) := Nat.rec (motive := fun _ => Int32 → zS → Option ((Int32 × zS) ⊕ (zS))) (fun _ _ => none) (fun _ rec => fX9_end_L61S N p0 rec) n
set_option maxHeartbeats 400000 in
set_option maxRecDepth 100000 in
theorem tX9_end_L61 {g : zGl} (hok : zGok g) (d : Nat) (hd : 1 ≤ d) (N : Nat) (p0 : Int32)  {mc ms n0 : Nat} {Q : zO → List zE → Prop} (n : Nat) : ∀ (v2 : Int32) (s : zS) (r : (Int32 × zS) ⊕ (zS)) (hf : fX9_end_L61 N p0 n v2 s = some r) (k1 : ∀ w s', r = .inl (w, s') → Q (.inl (some (.int w))) (zHp s')) (k2 : ∀  (s' : zS), r = .inr (s') → zW g mX9_end d mc ms n0 Q 0 0 (zHp s') [some (.ref 0), some (.int p0), none] [] 80), zW g mX9_end d mc ms n0 Q 0 0 (zHp s) [some (.ref 0), some (.int p0), some (.int v2)] [] 61 := by
  induction n with
  | zero => intro v2 s r hf; cases hf
  | succ n ih =>
    intro v2 s r hf k1 k2
    have hrec : ∀ (v2 : Int32) (s : zS) (r1 : (Int32 × zS) ⊕ (zS)), fX9_end_L61 N p0 n v2 s = some r1 → r1 = r → zW g mX9_end d mc ms n0 Q 0 0 (zHp s) [some (.ref 0), some (.int p0), some (.int v2)] [] 61 := fun v2 s r1 h e => ih v2 s r1 h (by subst e; exact k1) (by subst e; exact k2)
    have hrec : ∀ (v2 : Int32) (s : zS), fX9_end_L61 N p0 n v2 s = some r → zW g mX9_end d mc ms n0 Q 0 0 (zHp s) [some (.ref 0), some (.int p0), some (.int v2)] [] 61 := fun v2 s h => hrec v2 s r h rfl
    have hf : fX9_end_L61S N p0 (fX9_end_L61 N p0 n) v2 s = some r := hf
    unfold fX9_end_L61S at hf
    refine z_iload_n dX9_end_61 rfl ?_
    refine z_bipush 20 dX9_end_62 (by decide +kernel) ?_
    refine z_icmp_ge 80 dX9_end_64 (by decide) (fun c64 => ?_) (fun c64 => ?_)
    · have hf := zifp hf c64
      cases hf
      refine z_mask (ls' := [_, _, _]) [true, true, false] rfl ?_
      exact k2  _ rfl
    · have hf := zifn hf c64
      refine z_aload_n dX9_end_67 rfl ?_
      refine z_getf dX9_end_68 fX9_9 (at_UnitText s) rfl ?_
      refine z_iload_n dX9_end_71 rfl ?_
      refine z_iconst 0 dX9_end_72 (by decide +kernel) ?_
      obtain ⟨hi9, hf⟩ := zifs hf
      refine z_iastore dX9_end_73 (at_arr s 1 (by decide)) (zga_in hi9) (st_arr s 1 (by decide) v2 0) ?_
      refine z_iinc (ls' := [_, _, _]) (v2 + 1) dX9_end_74 rfl rfl (by decide) rfl ?_
      refine z_goto 61 dX9_end_77 (by decide) ?_
      refine z_mask (ls' := [_, _, _]) [true, true, true] rfl ?_
      exact hrec (v2 + 1) (zsr s 1 v2 0) hf
noncomputable def fX9_end (N : Nat) (p0 : Int32) (s : zS) : Option (Int32 × zS) := if p0 < 0 then some ((-1), s) else if 20 < p0 then some ((-1), s) else if ((s.1 402) + p0) ≤ 3000 then zbl (fX9_end_L32 N p0 N 0 s) (fun x => some x) (fun s8 => zbl (fX9_end_L61 N p0 N 0 s8) (fun x => some x) (fun s13 => some (s13.1 402, s13))) else some ((-1), s)
set_option maxHeartbeats 400000 in
set_option maxRecDepth 100000 in
theorem tX9_end {g : zGl} (hok : zGok g) (d : Nat) (hd : 1 ≤ d) (N : Nat) (p0 : Int32)  {s s' : zS} {w : Int32} (hf : fX9_end N p0 s = some (w, s')) : zMet g mX9_end d 0 0 [.ref 0, .int p0] (zHp s) (zret (some (.int w)) (zHp s')) := by
  refine zMet.ofW (by decide +kernel) (Nat.le_of_ble_eq_true rfl) ?_
  show zW g mX9_end d 0 0 51 _ 0 0 (zHp s) [some (.ref 0), some (.int p0), none] [] 0
  unfold fX9_end at hf
  refine z_iload_n dX9_end_0 rfl ?_
  refine z_if_lt 28 dX9_end_1 (by decide) (fun c1 => ?_) (fun c1 => ?_)
  · have hf := zifp hf c1
    refine z_iconst (-1) dX9_end_28 (by decide +kernel) ?_
    cases hf
    exact z_iret rfl dX9_end_29 (Nat.zero_le _) (Nat.zero_le _) ⟨rfl, rfl⟩
  · have hf := zifn hf c1
    refine z_iload_n dX9_end_4 rfl ?_
    refine z_bipush 20 dX9_end_5 (by decide +kernel) ?_
    refine z_icmp_gt 28 dX9_end_7 (by decide) (fun c7 => ?_) (fun c7 => ?_)
    · have hf := zifp hf c7
      refine z_iconst (-1) dX9_end_28 (by decide +kernel) ?_
      cases hf
      exact z_iret rfl dX9_end_29 (Nat.zero_le _) (Nat.zero_le _) ⟨rfl, rfl⟩
    · have hf := zifn hf c7
      refine z_aload_n dX9_end_10 rfl ?_
      refine z_getf dX9_end_11 fX9_19 (at_UnitText s) rfl ?_
      refine z_getN hok dX9_end_14 fX9_41 (at_Reader s) rfl ?_
      refine z_getN hok dX9_end_17 fX9_45 (at_Words s) rfl ?_
      refine z_iload_n dX9_end_20 rfl ?_
      refine z_iadd dX9_end_21 ?_
      refine z_sipush 3000 dX9_end_22 (by decide +kernel) ?_
      refine z_icmp_le 30 dX9_end_25 (by decide) (fun c25 => ?_) (fun c25 => ?_)
      · have hf := zifp hf c25
        refine z_iconst 0 dX9_end_30 (by decide +kernel) ?_
        refine z_istore_n (ls' := [_, _, _]) dX9_end_31 (by decide) rfl ?_
        refine z_mask (ls' := [_, _, _]) [true, true, true] rfl ?_
        rcases zbl_of hf with ⟨lr6, le7, hf⟩ | ⟨lr6, le7, hf⟩
        · cases hf
          exact tX9_end_L32 hok d (by omega) N p0  N 0 s _ le7 (fun w1 s1 hh => by cases hh; exact ⟨rfl, rfl⟩) (fun  _ hh => by cases hh)
        · obtain ⟨s8, rfl⟩ : ∃ z, z = lr6 := ⟨_, rfl⟩
          refine tX9_end_L32 hok d (by omega) N p0  N 0 s _ le7 (fun w1 s1 hh => by cases hh) (fun  _ hh => ?_)
          cases hh
          refine z_iconst 0 dX9_end_59 (by decide +kernel) ?_
          refine z_istore_n (ls' := [_, _, _]) dX9_end_60 (by decide) rfl ?_
          refine z_mask (ls' := [_, _, _]) [true, true, true] rfl ?_
          rcases zbl_of hf with ⟨lr11, le12, hf⟩ | ⟨lr11, le12, hf⟩
          · cases hf
            exact tX9_end_L61 hok d (by omega) N p0  N 0 s8 _ le12 (fun w1 s1 hh => by cases hh; exact ⟨rfl, rfl⟩) (fun  _ hh => by cases hh)
          · obtain ⟨s13, rfl⟩ : ∃ z, z = lr11 := ⟨_, rfl⟩
            refine tX9_end_L61 hok d (by omega) N p0  N 0 s8 _ le12 (fun w1 s1 hh => by cases hh) (fun  _ hh => ?_)
            cases hh
            refine z_aload_n dX9_end_80 rfl ?_
            refine z_getf dX9_end_81 fX9_19 (at_UnitText s13) rfl ?_
            refine z_getN hok dX9_end_84 fX9_41 (at_Reader s13) rfl ?_
            refine z_getN hok dX9_end_87 fX9_45 (at_Words s13) rfl ?_
            cases hf
            exact z_iret rfl dX9_end_90 (Nat.zero_le _) (Nat.zero_le _) ⟨rfl, rfl⟩
      · have hf := zifn hf c25
        refine z_iconst (-1) dX9_end_28 (by decide +kernel) ?_
        cases hf
        exact z_iret rfl dX9_end_29 (Nat.zero_le _) (Nat.zero_le _) ⟨rfl, rfl⟩

noncomputable def fX9_fault (N : Nat) (p0 : Int32) (s : zS) : Option (Int32 × zS) := if p0 = 0 then some (s.1 309, s) else if p0 = 1 then some (s.1 310, s) else some ((-1), s)
set_option maxHeartbeats 400000 in
set_option maxRecDepth 100000 in
theorem tX9_fault {g : zGl} (hok : zGok g) (d : Nat)  (N : Nat) (p0 : Int32)  {s s' : zS} {w : Int32} (hf : fX9_fault N p0 s = some (w, s')) : zMet g mX9_fault d 0 0 [.ref 0, .int p0] (zHp s) (zret (some (.int w)) (zHp s')) := by
  refine zMet.ofW (by decide +kernel) (Nat.le_of_ble_eq_true rfl) ?_
  show zW g mX9_fault d 0 0 51 _ 0 0 (zHp s) [some (.ref 0), some (.int p0)] [] 0
  unfold fX9_fault at hf
  refine z_iload_n dX9_fault_0 rfl ?_
  refine z_look [(0, 28), (1, 36)] 44 dX9_fault_1 (by decide +kernel) (by decide +kernel) (by decide +kernel) ?_
  refine z_selc (fun c1_0 => ?_) (fun c1_0 => ?_)
  · have hf := zifp hf c1_0
    refine z_aload_n dX9_fault_28 rfl ?_
    refine z_getf dX9_fault_29 fX9_19 (at_UnitText s) rfl ?_
    refine z_getN hok dX9_fault_32 fX9_72 (at_Reader s) rfl ?_
    cases hf
    exact z_iret rfl dX9_fault_35 (Nat.zero_le _) (Nat.zero_le _) ⟨rfl, rfl⟩
  · have hf := zifn hf c1_0
    refine z_selc (fun c1_1 => ?_) (fun c1_1 => ?_)
    · have hf := zifp hf c1_1
      refine z_aload_n dX9_fault_36 rfl ?_
      refine z_getf dX9_fault_37 fX9_19 (at_UnitText s) rfl ?_
      refine z_getN hok dX9_fault_40 fX9_75 (at_Reader s) rfl ?_
      cases hf
      exact z_iret rfl dX9_fault_43 (Nat.zero_le _) (Nat.zero_le _) ⟨rfl, rfl⟩
    · have hf := zifn hf c1_1
      refine z_seln ?_
      refine z_iconst (-1) dX9_fault_44 (by decide +kernel) ?_
      cases hf
      exact z_iret rfl dX9_fault_45 (Nat.zero_le _) (Nat.zero_le _) ⟨rfl, rfl⟩

noncomputable def fX9_count (N : Nat) (p0 : Int32) (s : zS) : Option (Int32 × zS) := if p0 = 0 then if zBk (s.2.2.1 301) then some (s.1 (100 * ((s.2.2.1 301) + 1) + 3), s) else none else if p0 = 1 then if zBk (s.2.2.1 301) then some (s.1 (100 * ((s.2.2.1 301) + 3) + 3), s) else none else if p0 = 2 then if zBk (s.2.2.1 301) then some (s.1 (100 * ((s.2.2.1 301) + 5) + 3), s) else none else if p0 = 3 then if zBk (s.2.2.1 301) then some (s.1 (100 * ((s.2.2.1 301) + 7) + 3), s) else none else some ((-1), s)
set_option maxHeartbeats 400000 in
set_option maxRecDepth 100000 in
theorem tX9_count {g : zGl} (hok : zGok g) (d : Nat)  (N : Nat) (p0 : Int32)  {s s' : zS} {w : Int32} (hf : fX9_count N p0 s = some (w, s')) : zMet g mX9_count d 0 0 [.ref 0, .int p0] (zHp s) (zret (some (.int w)) (zHp s')) := by
  refine zMet.ofW (by decide +kernel) (Nat.le_of_ble_eq_true rfl) ?_
  show zW g mX9_count d 0 0 51 _ 0 0 (zHp s) [some (.ref 0), some (.int p0)] [] 0
  unfold fX9_count at hf
  refine z_iload_n dX9_count_0 rfl ?_
  refine z_tab [(0, 32), (1, 46), (2, 60), (3, 74)] 88 dX9_count_1 (by decide +kernel) (by decide +kernel) (by decide +kernel) (by decide +kernel) ?_
  refine z_selc (fun c1_0 => ?_) (fun c1_0 => ?_)
  · have hf := zifp hf c1_0
    refine z_aload_n dX9_count_32 rfl ?_
    refine z_getf dX9_count_33 fX9_19 (at_UnitText s) rfl ?_
    refine z_getN hok dX9_count_36 fX9_78 (at_Reader s) rfl ?_
    obtain ⟨hb1, hf⟩ := zifs hf
    refine z_getN hok dX9_count_39 fX9_82 (at_Book s (s.2.2.1 301) hb1) rfl ?_
    refine z_getN hok dX9_count_42 fX9_88 (at_Table s ((s.2.2.1 301) + 1) (zBk_t (s.2.2.1 301) hb1).1) rfl ?_
    cases hf
    exact z_iret rfl dX9_count_45 (Nat.zero_le _) (Nat.zero_le _) ⟨rfl, rfl⟩
  · have hf := zifn hf c1_0
    refine z_selc (fun c1_1 => ?_) (fun c1_1 => ?_)
    · have hf := zifp hf c1_1
      refine z_aload_n dX9_count_46 rfl ?_
      refine z_getf dX9_count_47 fX9_19 (at_UnitText s) rfl ?_
      refine z_getN hok dX9_count_50 fX9_78 (at_Reader s) rfl ?_
      obtain ⟨hb2, hf⟩ := zifs hf
      refine z_getN hok dX9_count_53 fX9_93 (at_Book s (s.2.2.1 301) hb2) rfl ?_
      refine z_getN hok dX9_count_56 fX9_88 (at_Table s ((s.2.2.1 301) + 3) (zBk_t (s.2.2.1 301) hb2).2.1) rfl ?_
      cases hf
      exact z_iret rfl dX9_count_59 (Nat.zero_le _) (Nat.zero_le _) ⟨rfl, rfl⟩
    · have hf := zifn hf c1_1
      refine z_selc (fun c1_2 => ?_) (fun c1_2 => ?_)
      · have hf := zifp hf c1_2
        refine z_aload_n dX9_count_60 rfl ?_
        refine z_getf dX9_count_61 fX9_19 (at_UnitText s) rfl ?_
        refine z_getN hok dX9_count_64 fX9_78 (at_Reader s) rfl ?_
        obtain ⟨hb3, hf⟩ := zifs hf
        refine z_getN hok dX9_count_67 fX9_96 (at_Book s (s.2.2.1 301) hb3) rfl ?_
        refine z_getN hok dX9_count_70 fX9_88 (at_Table s ((s.2.2.1 301) + 5) (zBk_t (s.2.2.1 301) hb3).2.2.1) rfl ?_
        cases hf
        exact z_iret rfl dX9_count_73 (Nat.zero_le _) (Nat.zero_le _) ⟨rfl, rfl⟩
      · have hf := zifn hf c1_2
        refine z_selc (fun c1_3 => ?_) (fun c1_3 => ?_)
        · have hf := zifp hf c1_3
          refine z_aload_n dX9_count_74 rfl ?_
          refine z_getf dX9_count_75 fX9_19 (at_UnitText s) rfl ?_
          refine z_getN hok dX9_count_78 fX9_78 (at_Reader s) rfl ?_
          obtain ⟨hb4, hf⟩ := zifs hf
          refine z_getN hok dX9_count_81 fX9_99 (at_Book s (s.2.2.1 301) hb4) rfl ?_
          refine z_getN hok dX9_count_84 fX9_88 (at_Table s ((s.2.2.1 301) + 7) (zBk_t (s.2.2.1 301) hb4).2.2.2.1) rfl ?_
          cases hf
          exact z_iret rfl dX9_count_87 (Nat.zero_le _) (Nat.zero_le _) ⟨rfl, rfl⟩
        · have hf := zifn hf c1_3
          refine z_seln ?_
          refine z_iconst (-1) dX9_count_88 (by decide +kernel) ?_
          cases hf
          exact z_iret rfl dX9_count_89 (Nat.zero_le _) (Nat.zero_le _) ⟨rfl, rfl⟩

noncomputable def fX9_statement (N : Nat) (p0 : Int32) (p1 : Int32) (s : zS) : Option (Int32 × zS) := if zBk (s.2.2.1 301) then zbn (fX6_cell N ((s.2.2.1 301) + 1) p0 p1 (-1) s) (fun x2 s3 => some (x2, s3)) else none
set_option maxHeartbeats 400000 in
set_option maxRecDepth 100000 in
theorem tX9_statement {g : zGl} (hok : zGok g) (d : Nat) (hd : 1 ≤ d) (N : Nat) (p0 : Int32) (p1 : Int32)  {s s' : zS} {w : Int32} (hf : fX9_statement N p0 p1 s = some (w, s')) : zMet g mX9_statement d 0 0 [.ref 0, .int p0, .int p1] (zHp s) (zret (some (.int w)) (zHp s')) := by
  refine zMet.ofW (by decide +kernel) (Nat.le_of_ble_eq_true rfl) ?_
  show zW g mX9_statement d 0 0 51 _ 0 0 (zHp s) [some (.ref 0), some (.int p0), some (.int p1)] [] 0
  unfold fX9_statement at hf
  refine z_aload_n dX9_statement_0 rfl ?_
  refine z_getf dX9_statement_1 fX9_19 (at_UnitText s) rfl ?_
  refine z_getN hok dX9_statement_4 fX9_78 (at_Reader s) rfl ?_
  obtain ⟨hb1, hf⟩ := zifs hf
  refine z_getN hok dX9_statement_7 fX9_82 (at_Book s (s.2.2.1 301) hb1) rfl ?_
  refine z_iload_n dX9_statement_10 rfl ?_
  refine z_iload_n dX9_statement_11 rfl ?_
  refine z_iconst (-1) dX9_statement_12 (by decide +kernel) ?_
  obtain ⟨x2, s3, q4, hf⟩ := zbn_of hf
  refine z_cV (as := [_, _, _]) hok dX9_statement_13 kX9_102 (tX6_cell hok (d - 1) N ((s.2.2.1 301) + 1) p0 p1 (-1) (zBk_t (s.2.2.1 301) hb1).1 q4) rfl (at_Table s ((s.2.2.1 301) + 1) (zBk_t (s.2.2.1 301) hb1).1) rfl rfl (by omega) (Nat.le_of_ble_eq_true rfl) (Nat.zero_le _) (Nat.zero_le _) rfl ?_
  cases hf
  exact z_iret rfl dX9_statement_16 (Nat.zero_le _) (Nat.zero_le _) ⟨rfl, rfl⟩

noncomputable def fX9_operand (N : Nat) (p0 : Int32) (p1 : Int32) (s : zS) : Option (Int32 × zS) := if p1 ≤ 6 then if zBk (s.2.2.1 301) then zbn (fX6_cell N ((s.2.2.1 301) + 3) p0 p1 (-1) s) (fun x2 s3 => some (x2, s3)) else none else some ((-1), s)
set_option maxHeartbeats 400000 in
set_option maxRecDepth 100000 in
theorem tX9_operand {g : zGl} (hok : zGok g) (d : Nat) (hd : 1 ≤ d) (N : Nat) (p0 : Int32) (p1 : Int32)  {s s' : zS} {w : Int32} (hf : fX9_operand N p0 p1 s = some (w, s')) : zMet g mX9_operand d 0 0 [.ref 0, .int p0, .int p1] (zHp s) (zret (some (.int w)) (zHp s')) := by
  refine zMet.ofW (by decide +kernel) (Nat.le_of_ble_eq_true rfl) ?_
  show zW g mX9_operand d 0 0 51 _ 0 0 (zHp s) [some (.ref 0), some (.int p0), some (.int p1)] [] 0
  unfold fX9_operand at hf
  refine z_iload_n dX9_operand_0 rfl ?_
  refine z_bipush 6 dX9_operand_1 (by decide +kernel) ?_
  refine z_icmp_le 10 dX9_operand_3 (by decide) (fun c3 => ?_) (fun c3 => ?_)
  · have hf := zifp hf c3
    refine z_aload_n dX9_operand_10 rfl ?_
    refine z_getf dX9_operand_11 fX9_19 (at_UnitText s) rfl ?_
    refine z_getN hok dX9_operand_14 fX9_78 (at_Reader s) rfl ?_
    obtain ⟨hb1, hf⟩ := zifs hf
    refine z_getN hok dX9_operand_17 fX9_93 (at_Book s (s.2.2.1 301) hb1) rfl ?_
    refine z_iload_n dX9_operand_20 rfl ?_
    refine z_iload_n dX9_operand_21 rfl ?_
    refine z_iconst (-1) dX9_operand_22 (by decide +kernel) ?_
    obtain ⟨x2, s3, q4, hf⟩ := zbn_of hf
    refine z_cV (as := [_, _, _]) hok dX9_operand_23 kX9_102 (tX6_cell hok (d - 1) N ((s.2.2.1 301) + 3) p0 p1 (-1) (zBk_t (s.2.2.1 301) hb1).2.1 q4) rfl (at_Table s ((s.2.2.1 301) + 3) (zBk_t (s.2.2.1 301) hb1).2.1) rfl rfl (by omega) (Nat.le_of_ble_eq_true rfl) (Nat.zero_le _) (Nat.zero_le _) rfl ?_
    cases hf
    exact z_iret rfl dX9_operand_26 (Nat.zero_le _) (Nat.zero_le _) ⟨rfl, rfl⟩
  · have hf := zifn hf c3
    refine z_iconst (-1) dX9_operand_6 (by decide +kernel) ?_
    refine z_goto 26 dX9_operand_7 (by decide) ?_
    cases hf
    exact z_iret rfl dX9_operand_26 (Nat.zero_le _) (Nat.zero_le _) ⟨rfl, rfl⟩

noncomputable def fX9_constant (N : Nat) (p0 : Int32) (s : zS) : Option (Int64 × zS) := if zBk (s.2.2.1 301) then zbn (fX4_workOut N (s.2.2.1 301) p0 s) (fun x2 s3 => some (x2, s3)) else none
set_option maxHeartbeats 400000 in
set_option maxRecDepth 100000 in
theorem tX9_constant {g : zGl} (hok : zGok g) (d : Nat) (hd : 2 ≤ d) (N : Nat) (p0 : Int32)  {s s' : zS} {w : Int64} (hf : fX9_constant N p0 s = some (w, s')) : zMet g mX9_constant d 0 0 [.ref 0, .int p0] (zHp s) (zret (some (.long w)) (zHp s')) := by
  refine zMet.ofW (by decide +kernel) (Nat.le_of_ble_eq_true rfl) ?_
  show zW g mX9_constant d 0 0 51 _ 0 0 (zHp s) [some (.ref 0), some (.int p0)] [] 0
  unfold fX9_constant at hf
  refine z_aload_n dX9_constant_0 rfl ?_
  refine z_getf dX9_constant_1 fX9_26 (at_UnitText s) rfl ?_
  refine z_aload_n dX9_constant_4 rfl ?_
  refine z_getf dX9_constant_5 fX9_19 (at_UnitText s) rfl ?_
  refine z_getN hok dX9_constant_8 fX9_78 (at_Reader s) rfl ?_
  obtain ⟨hb1, hf⟩ := zifs hf
  refine z_iload_n dX9_constant_11 rfl ?_
  obtain ⟨x2, s3, q4, hf⟩ := zbn_of hf
  refine z_cV (as := [_, _]) hok dX9_constant_12 kX9_106 (tX4_workOut hok (d - 1) (by omega) N (s.2.2.1 301) p0 hb1 q4) rfl (at_Reckoner s) rfl rfl (by omega) (Nat.le_of_ble_eq_true rfl) (Nat.zero_le _) (Nat.zero_le _) rfl ?_
  cases hf
  exact z_lret rfl dX9_constant_15 (Nat.zero_le _) (Nat.zero_le _) ⟨rfl, rfl⟩

noncomputable def fX9_item (N : Nat) (p0 : Int32) (p1 : Int32) (s : zS) : Option (Int32 × zS) := if zBk (s.2.2.1 301) then zbn (fX6_cell N ((s.2.2.1 301) + 5) p0 p1 0 s) (fun x2 s3 => some (x2, s3)) else none
set_option maxHeartbeats 400000 in
set_option maxRecDepth 100000 in
theorem tX9_item {g : zGl} (hok : zGok g) (d : Nat) (hd : 1 ≤ d) (N : Nat) (p0 : Int32) (p1 : Int32)  {s s' : zS} {w : Int32} (hf : fX9_item N p0 p1 s = some (w, s')) : zMet g mX9_item d 0 0 [.ref 0, .int p0, .int p1] (zHp s) (zret (some (.int w)) (zHp s')) := by
  refine zMet.ofW (by decide +kernel) (Nat.le_of_ble_eq_true rfl) ?_
  show zW g mX9_item d 0 0 51 _ 0 0 (zHp s) [some (.ref 0), some (.int p0), some (.int p1)] [] 0
  unfold fX9_item at hf
  refine z_aload_n dX9_item_0 rfl ?_
  refine z_getf dX9_item_1 fX9_19 (at_UnitText s) rfl ?_
  refine z_getN hok dX9_item_4 fX9_78 (at_Reader s) rfl ?_
  obtain ⟨hb1, hf⟩ := zifs hf
  refine z_getN hok dX9_item_7 fX9_96 (at_Book s (s.2.2.1 301) hb1) rfl ?_
  refine z_iload_n dX9_item_10 rfl ?_
  refine z_iload_n dX9_item_11 rfl ?_
  refine z_iconst 0 dX9_item_12 (by decide +kernel) ?_
  obtain ⟨x2, s3, q4, hf⟩ := zbn_of hf
  refine z_cV (as := [_, _, _]) hok dX9_item_13 kX9_102 (tX6_cell hok (d - 1) N ((s.2.2.1 301) + 5) p0 p1 0 (zBk_t (s.2.2.1 301) hb1).2.2.1 q4) rfl (at_Table s ((s.2.2.1 301) + 5) (zBk_t (s.2.2.1 301) hb1).2.2.1) rfl rfl (by omega) (Nat.le_of_ble_eq_true rfl) (Nat.zero_le _) (Nat.zero_le _) rfl ?_
  cases hf
  exact z_iret rfl dX9_item_16 (Nat.zero_le _) (Nat.zero_le _) ⟨rfl, rfl⟩

noncomputable def fX9_name (N : Nat) (p0 : Int32) (p1 : Int32) (s : zS) : Option (Int32 × zS) := if zBk (s.2.2.1 301) then zbn (fX0_byteOfName N (s.2.2.1 301) p0 p1 s) (fun x2 s3 => some (x2, s3)) else none
set_option maxHeartbeats 400000 in
set_option maxRecDepth 100000 in
theorem tX9_name {g : zGl} (hok : zGok g) (d : Nat) (hd : 2 ≤ d) (N : Nat) (p0 : Int32) (p1 : Int32)  {s s' : zS} {w : Int32} (hf : fX9_name N p0 p1 s = some (w, s')) : zMet g mX9_name d 0 0 [.ref 0, .int p0, .int p1] (zHp s) (zret (some (.int w)) (zHp s')) := by
  refine zMet.ofW (by decide +kernel) (Nat.le_of_ble_eq_true rfl) ?_
  show zW g mX9_name d 0 0 51 _ 0 0 (zHp s) [some (.ref 0), some (.int p0), some (.int p1)] [] 0
  unfold fX9_name at hf
  refine z_aload_n dX9_name_0 rfl ?_
  refine z_getf dX9_name_1 fX9_19 (at_UnitText s) rfl ?_
  refine z_getN hok dX9_name_4 fX9_78 (at_Reader s) rfl ?_
  obtain ⟨hb1, hf⟩ := zifs hf
  refine z_iload_n dX9_name_7 rfl ?_
  refine z_iload_n dX9_name_8 rfl ?_
  obtain ⟨x2, s3, q4, hf⟩ := zbn_of hf
  refine z_cV (as := [_, _]) hok dX9_name_9 kX9_110 (tX0_byteOfName hok (d - 1) (by omega) N (s.2.2.1 301) p0 p1 hb1 q4) rfl (at_Book s (s.2.2.1 301) hb1) rfl rfl (by omega) (Nat.le_of_ble_eq_true rfl) (Nat.zero_le _) (Nat.zero_le _) rfl ?_
  cases hf
  exact z_iret rfl dX9_name_12 (Nat.zero_le _) (Nat.zero_le _) ⟨rfl, rfl⟩

noncomputable def fX9_string (N : Nat) (p0 : Int32) (p1 : Int32) (s : zS) : Option (Int32 × zS) := if zBk (s.2.2.1 301) then zbn (fX0_byteOfString N (s.2.2.1 301) p0 p1 s) (fun x2 s3 => some (x2, s3)) else none
set_option maxHeartbeats 400000 in
set_option maxRecDepth 100000 in
theorem tX9_string {g : zGl} (hok : zGok g) (d : Nat) (hd : 2 ≤ d) (N : Nat) (p0 : Int32) (p1 : Int32)  {s s' : zS} {w : Int32} (hf : fX9_string N p0 p1 s = some (w, s')) : zMet g mX9_string d 0 0 [.ref 0, .int p0, .int p1] (zHp s) (zret (some (.int w)) (zHp s')) := by
  refine zMet.ofW (by decide +kernel) (Nat.le_of_ble_eq_true rfl) ?_
  show zW g mX9_string d 0 0 51 _ 0 0 (zHp s) [some (.ref 0), some (.int p0), some (.int p1)] [] 0
  unfold fX9_string at hf
  refine z_aload_n dX9_string_0 rfl ?_
  refine z_getf dX9_string_1 fX9_19 (at_UnitText s) rfl ?_
  refine z_getN hok dX9_string_4 fX9_78 (at_Reader s) rfl ?_
  obtain ⟨hb1, hf⟩ := zifs hf
  refine z_iload_n dX9_string_7 rfl ?_
  refine z_iload_n dX9_string_8 rfl ?_
  obtain ⟨x2, s3, q4, hf⟩ := zbn_of hf
  refine z_cV (as := [_, _]) hok dX9_string_9 kX9_114 (tX0_byteOfString hok (d - 1) (by omega) N (s.2.2.1 301) p0 p1 hb1 q4) rfl (at_Book s (s.2.2.1 301) hb1) rfl rfl (by omega) (Nat.le_of_ble_eq_true rfl) (Nat.zero_le _) (Nat.zero_le _) rfl ?_
  cases hf
  exact z_iret rfl dX9_string_12 (Nat.zero_le _) (Nat.zero_le _) ⟨rfl, rfl⟩

noncomputable def fX9_find_J25 (N : Nat) (p0 : Int64) (p1 : Int64) (rec : Int32 → Int32 → zS → Option ((Int32 × zS) ⊕ (Int32 × zS))) (v5 : Int32) (v6 : Int32) (k0 : Int64) (s : zS) : Option ((Int32 × zS) ⊕ (Int32 × zS)) := if ((((k0.toUInt64 >>> ((56 - (8 * (v6 &&& 7))).toInt64.toUInt64 &&& Int64.toUInt64 63)).toInt64).toInt32) &&& 255) = 0 then rec v5 (v6 + 1) s else if 16 ≤ v5 then rec v5 (v6 + 1) s else if zga v5 (zlen 2) = true then rec (v5 + 1) (v6 + 1) (zsr s 2 v5 ((((k0.toUInt64 >>> ((56 - (8 * (v6 &&& 7))).toInt64.toUInt64 &&& Int64.toUInt64 63)).toInt64).toInt32) &&& 255)) else none
set_option maxHeartbeats 400000 in
set_option maxRecDepth 100000 in
theorem tX9_find_J25 {g : zGl} (hok : zGok g) (d : Nat)  (N : Nat) (p0 : Int64) (p1 : Int64)  {mc ms n0 : Nat} {Q : zO → List zE → Prop} (rec : Int32 → Int32 → zS → Option ((Int32 × zS) ⊕ (Int32 × zS))) (r : (Int32 × zS) ⊕ (Int32 × zS)) (k1 : ∀ w s', r = .inl (w, s') → Q (.inl (some (.int w))) (zHp s')) (k2 : ∀ (y5 : Int32) (s' : zS), r = .inr (y5, s') → zW g mX9_find d mc ms n0 Q 0 0 (zHp s') [some (.ref 0), some (.long p0), none, some (.long p1), none, some (.int y5), none, none, none, none] [] 78) (hrec : ∀ (v5 : Int32) (v6 : Int32) (s : zS), rec v5 v6 s = some r → zW g mX9_find d mc ms n0 Q 0 0 (zHp s) [some (.ref 0), some (.long p0), none, some (.long p1), none, some (.int v5), some (.int v6), none, none, none] [] 6) (v5 : Int32) (v6 : Int32) (k0 : Int64) (s : zS) (hf : fX9_find_J25 N p0 p1 rec v5 v6 k0 s = some r) : zW g mX9_find d mc ms n0 Q 0 0 (zHp s) [some (.ref 0), some (.long p0), none, some (.long p1), none, some (.int v5), some (.int v6), none, none, none] [.long k0] 25 := by
  unfold fX9_find_J25 at hf
  refine z_lstore (ls' := [_, _, _, _, _, _, _, _, _, _]) dX9_find_25 (by decide) rfl ?_
  refine z_lload dX9_find_27 rfl ?_
  refine z_bipush 56 dX9_find_29 (by decide +kernel) ?_
  refine z_bipush 8 dX9_find_31 (by decide +kernel) ?_
  refine z_iload dX9_find_33 rfl ?_
  refine z_bipush 7 dX9_find_35 (by decide +kernel) ?_
  refine z_iand dX9_find_37 ?_
  refine z_imul dX9_find_38 ?_
  refine z_isub dX9_find_39 ?_
  refine z_lushr dX9_find_40 ?_
  refine z_l2i dX9_find_41 ?_
  refine z_sipush 255 dX9_find_42 (by decide +kernel) ?_
  refine z_iand dX9_find_45 ?_
  refine z_istore (ls' := [_, _, _, _, _, _, _, _, _, _]) dX9_find_46 (by decide) rfl ?_
  refine z_iload dX9_find_48 rfl ?_
  refine z_if_eq 72 dX9_find_50 (by decide) (fun c50 => ?_) (fun c50 => ?_)
  · have hf := zifp hf c50
    refine z_iinc (ls' := [_, _, _, _, _, _, _, _, _, _]) (v6 + 1) dX9_find_72 rfl rfl (by decide) rfl ?_
    refine z_goto 6 dX9_find_75 (by decide) ?_
    refine z_mask (ls' := [_, _, _, _, _, _, _, _, _, _]) [true, true, false, true, false, true, true, false, false, false] rfl ?_
    exact hrec v5 (v6 + 1) s hf
  · have hf := zifn hf c50
    refine z_iload dX9_find_53 rfl ?_
    refine z_bipush 16 dX9_find_55 (by decide +kernel) ?_
    refine z_icmp_ge 72 dX9_find_57 (by decide) (fun c57 => ?_) (fun c57 => ?_)
    · have hf := zifp hf c57
      refine z_iinc (ls' := [_, _, _, _, _, _, _, _, _, _]) (v6 + 1) dX9_find_72 rfl rfl (by decide) rfl ?_
      refine z_goto 6 dX9_find_75 (by decide) ?_
      refine z_mask (ls' := [_, _, _, _, _, _, _, _, _, _]) [true, true, false, true, false, true, true, false, false, false] rfl ?_
      exact hrec v5 (v6 + 1) s hf
    · have hf := zifn hf c57
      refine z_aload_n dX9_find_60 rfl ?_
      refine z_getf dX9_find_61 fX9_13 (at_UnitText s) rfl ?_
      refine z_iload dX9_find_64 rfl ?_
      refine z_iload dX9_find_66 rfl ?_
      obtain ⟨hi1, hf⟩ := zifs hf
      refine z_iastore dX9_find_68 (at_arr s 2 (by decide)) (zga_in hi1) (st_arr s 2 (by decide) v5 ((((k0.toUInt64 >>> ((56 - (8 * (v6 &&& 7))).toInt64.toUInt64 &&& Int64.toUInt64 63)).toInt64).toInt32) &&& 255)) ?_
      refine z_iinc (ls' := [_, _, _, _, _, _, _, _, _, _]) (v5 + 1) dX9_find_69 rfl rfl (by decide) rfl ?_
      refine z_iinc (ls' := [_, _, _, _, _, _, _, _, _, _]) (v6 + 1) dX9_find_72 rfl rfl (by decide) rfl ?_
      refine z_goto 6 dX9_find_75 (by decide) ?_
      refine z_mask (ls' := [_, _, _, _, _, _, _, _, _, _]) [true, true, false, true, false, true, true, false, false, false] rfl ?_
      exact hrec (v5 + 1) (v6 + 1) (zsr s 2 v5 ((((k0.toUInt64 >>> ((56 - (8 * (v6 &&& 7))).toInt64.toUInt64 &&& Int64.toUInt64 63)).toInt64).toInt32) &&& 255)) hf
noncomputable def fX9_find_L6S (N : Nat) (p0 : Int64) (p1 : Int64) (rec : Int32 → Int32 → zS → Option ((Int32 × zS) ⊕ (Int32 × zS))) (v5 : Int32) (v6 : Int32) (s : zS) : Option ((Int32 × zS) ⊕ (Int32 × zS)) := if 16 ≤ v6 then some (.inr (v5, s)) else if 8 ≤ v6 then fX9_find_J25 N p0 p1 rec v5 v6 p1 s else fX9_find_J25 N p0 p1 rec v5 v6 p0 s
noncomputable def fX9_find_L6 (N : Nat) (p0 : Int64) (p1 : Int64) (n : Nat) : Int32 → Int32 → zS → Option ((Int32 × zS) ⊕ (Int32 × zS)) := Nat.rec (motive := fun _ => Int32 → Int32 → zS → Option ((Int32 × zS) ⊕ (Int32 × zS))) (fun _ _ _ => none) (fun _ rec => fX9_find_L6S N p0 p1 rec) n
set_option maxHeartbeats 400000 in
set_option maxRecDepth 100000 in
theorem tX9_find_L6 {g : zGl} (hok : zGok g) (d : Nat)  (N : Nat) (p0 : Int64) (p1 : Int64)  {mc ms n0 : Nat} {Q : zO → List zE → Prop} (n : Nat) : ∀ (v5 : Int32) (v6 : Int32) (s : zS) (r : (Int32 × zS) ⊕ (Int32 × zS)) (hf : fX9_find_L6 N p0 p1 n v5 v6 s = some r) (k1 : ∀ w s', r = .inl (w, s') → Q (.inl (some (.int w))) (zHp s')) (k2 : ∀ (y5 : Int32) (s' : zS), r = .inr (y5, s') → zW g mX9_find d mc ms n0 Q 0 0 (zHp s') [some (.ref 0), some (.long p0), none, some (.long p1), none, some (.int y5), none, none, none, none] [] 78), zW g mX9_find d mc ms n0 Q 0 0 (zHp s) [some (.ref 0), some (.long p0), none, some (.long p1), none, some (.int v5), some (.int v6), none, none, none] [] 6 := by
  induction n with
  | zero => intro v5 v6 s r hf; cases hf
  | succ n ih =>
    intro v5 v6 s r hf k1 k2
    have hrec : ∀ (v5 : Int32) (v6 : Int32) (s : zS) (r1 : (Int32 × zS) ⊕ (Int32 × zS)), fX9_find_L6 N p0 p1 n v5 v6 s = some r1 → r1 = r → zW g mX9_find d mc ms n0 Q 0 0 (zHp s) [some (.ref 0), some (.long p0), none, some (.long p1), none, some (.int v5), some (.int v6), none, none, none] [] 6 := fun v5 v6 s r1 h e => ih v5 v6 s r1 h (by subst e; exact k1) (by subst e; exact k2)
    have hrec : ∀ (v5 : Int32) (v6 : Int32) (s : zS), fX9_find_L6 N p0 p1 n v5 v6 s = some r → zW g mX9_find d mc ms n0 Q 0 0 (zHp s) [some (.ref 0), some (.long p0), none, some (.long p1), none, some (.int v5), some (.int v6), none, none, none] [] 6 := fun v5 v6 s h => hrec v5 v6 s r h rfl
    have hf : fX9_find_L6S N p0 p1 (fX9_find_L6 N p0 p1 n) v5 v6 s = some r := hf
    unfold fX9_find_L6S at hf
    refine z_iload dX9_find_6 rfl ?_
    refine z_bipush 16 dX9_find_8 (by decide +kernel) ?_
    refine z_icmp_ge 78 dX9_find_10 (by decide) (fun c10 => ?_) (fun c10 => ?_)
    · have hf := zifp hf c10
      cases hf
      refine z_mask (ls' := [_, _, _, _, _, _, _, _, _, _]) [true, true, false, true, false, true, false, false, false, false] rfl ?_
      exact k2 _ _ rfl
    · have hf := zifn hf c10
      refine z_iload dX9_find_13 rfl ?_
      refine z_bipush 8 dX9_find_15 (by decide +kernel) ?_
      refine z_icmp_ge 24 dX9_find_17 (by decide) (fun c17 => ?_) (fun c17 => ?_)
      · have hf := zifp hf c17
        refine z_lload_n dX9_find_24 rfl ?_
        refine z_mask (ls' := [_, _, _, _, _, _, _, _, _, _]) [true, true, false, true, false, true, true, false, false, false] rfl ?_
        exact tX9_find_J25 hok d N p0 p1  _ r k1 k2 hrec v5 v6 p1 s hf
      · have hf := zifn hf c17
        refine z_lload_n dX9_find_20 rfl ?_
        refine z_goto 25 dX9_find_21 (by decide) ?_
        refine z_mask (ls' := [_, _, _, _, _, _, _, _, _, _]) [true, true, false, true, false, true, true, false, false, false] rfl ?_
        exact tX9_find_J25 hok d N p0 p1  _ r k1 k2 hrec v5 v6 p0 s hf
noncomputable def fX9_find (N : Nat) (p0 : Int64) (p1 : Int64) (s : zS) : Option (Int32 × zS) := zbl (fX9_find_L6 N p0 p1 N 0 0 s) (fun x => some x) (fun lq2 => match lq2 with | (y5, s6) => if zBk (s6.2.2.1 301) then zbn (fX0_findName N (s6.2.2.1 301) 2 0 y5 s6) (fun x8 s9 => some (x8, s9)) else none)
set_option maxHeartbeats 400000 in
set_option maxRecDepth 100000 in
theorem tX9_find {g : zGl} (hok : zGok g) (d : Nat) (hd : 2 ≤ d) (N : Nat) (p0 : Int64) (p1 : Int64)  {s s' : zS} {w : Int32} (hf : fX9_find N p0 p1 s = some (w, s')) : zMet g mX9_find d 0 0 [.ref 0, .long p0, .long p1] (zHp s) (zret (some (.int w)) (zHp s')) := by
  refine zMet.ofW (by decide +kernel) (Nat.le_of_ble_eq_true rfl) ?_
  show zW g mX9_find d 0 0 51 _ 0 0 (zHp s) [some (.ref 0), some (.long p0), none, some (.long p1), none, none, none, none, none, none] [] 0
  unfold fX9_find at hf
  refine z_iconst 0 dX9_find_0 (by decide +kernel) ?_
  refine z_istore (ls' := [_, _, _, _, _, _, _, _, _, _]) dX9_find_1 (by decide) rfl ?_
  refine z_iconst 0 dX9_find_3 (by decide +kernel) ?_
  refine z_istore (ls' := [_, _, _, _, _, _, _, _, _, _]) dX9_find_4 (by decide) rfl ?_
  refine z_mask (ls' := [_, _, _, _, _, _, _, _, _, _]) [true, true, false, true, false, true, true, false, false, false] rfl ?_
  rcases zbl_of hf with ⟨lr3, le4, hf⟩ | ⟨lr3, le4, hf⟩
  · cases hf
    exact tX9_find_L6 hok d N p0 p1  N 0 0 s _ le4 (fun w1 s1 hh => by cases hh; exact ⟨rfl, rfl⟩) (fun _ _ hh => by cases hh)
  · obtain ⟨y5, s6⟩ := lr3
    refine tX9_find_L6 hok d N p0 p1  N 0 0 s _ le4 (fun w1 s1 hh => by cases hh) (fun _ _ hh => ?_)
    cases hh
    refine z_aload_n dX9_find_78 rfl ?_
    refine z_getf dX9_find_79 fX9_19 (at_UnitText s6) rfl ?_
    refine z_getN hok dX9_find_82 fX9_78 (at_Reader s6) rfl ?_
    obtain ⟨hb7, hf⟩ := zifs hf
    refine z_aload_n dX9_find_85 rfl ?_
    refine z_getf dX9_find_86 fX9_13 (at_UnitText s6) rfl ?_
    refine z_iconst 0 dX9_find_89 (by decide +kernel) ?_
    refine z_iload dX9_find_90 rfl ?_
    obtain ⟨x8, s9, q10, hf⟩ := zbn_of hf
    refine z_cV (as := [_, _, _]) hok dX9_find_92 kX9_117 (tX0_findName hok (d - 1) (by omega) N (s6.2.2.1 301) 2 0 y5 hb7 (by decide) q10) rfl (at_Book s6 (s6.2.2.1 301) hb7) rfl rfl (by omega) (Nat.le_of_ble_eq_true rfl) (Nat.zero_le _) (Nat.zero_le _) rfl ?_
    cases hf
    exact z_iret rfl dX9_find_95 (Nat.zero_le _) (Nat.zero_le _) ⟨rfl, rfl⟩

noncomputable def fX9_tell (N : Nat) (p0 : Int32) (s : zS) : Option (Int32 × zS) := if zBk (s.2.2.1 301) then zbn (fX7_write N (s.2.2.1 301) p0 s) (fun x2 s3 => some (x2, s3)) else none
set_option maxHeartbeats 400000 in
set_option maxRecDepth 100000 in
theorem tX9_tell {g : zGl} (hok : zGok g) (d : Nat) (hd : 124 ≤ d) (N : Nat) (p0 : Int32)  {s s' : zS} {w : Int32} (hf : fX9_tell N p0 s = some (w, s')) : zMet g mX9_tell d 0 0 [.ref 0, .int p0] (zHp s) (zret (some (.int w)) (zHp s')) := by
  refine zMet.ofW (by decide +kernel) (Nat.le_of_ble_eq_true rfl) ?_
  show zW g mX9_tell d 0 0 51 _ 0 0 (zHp s) [some (.ref 0), some (.int p0)] [] 0
  unfold fX9_tell at hf
  refine z_aload_n dX9_tell_0 rfl ?_
  refine z_getf dX9_tell_1 fX9_33 (at_UnitText s) rfl ?_
  refine z_aload_n dX9_tell_4 rfl ?_
  refine z_getf dX9_tell_5 fX9_19 (at_UnitText s) rfl ?_
  refine z_getN hok dX9_tell_8 fX9_78 (at_Reader s) rfl ?_
  obtain ⟨hb1, hf⟩ := zifs hf
  refine z_iload_n dX9_tell_11 rfl ?_
  obtain ⟨x2, s3, q4, hf⟩ := zbn_of hf
  refine z_cV (as := [_, _]) hok dX9_tell_12 kX9_121 (tX7_write hok (d - 1) (by omega) N (s.2.2.1 301) p0 hb1 q4) rfl (at_Teller s) rfl rfl (by omega) (Nat.le_of_ble_eq_true rfl) (Nat.zero_le _) (Nat.zero_le _) rfl ?_
  cases hf
  exact z_iret rfl dX9_tell_15 (Nat.zero_le _) (Nat.zero_le _) ⟨rfl, rfl⟩

noncomputable def fX9_letter (N : Nat) (p0 : Int32) (s : zS) : Option (Int32 × zS) := zbn (fX7_byteOfOut N p0 s) (fun x1 s2 => some (x1, s2))
set_option maxHeartbeats 400000 in
set_option maxRecDepth 100000 in
theorem tX9_letter {g : zGl} (hok : zGok g) (d : Nat) (hd : 1 ≤ d) (N : Nat) (p0 : Int32)  {s s' : zS} {w : Int32} (hf : fX9_letter N p0 s = some (w, s')) : zMet g mX9_letter d 0 0 [.ref 0, .int p0] (zHp s) (zret (some (.int w)) (zHp s')) := by
  refine zMet.ofW (by decide +kernel) (Nat.le_of_ble_eq_true rfl) ?_
  show zW g mX9_letter d 0 0 51 _ 0 0 (zHp s) [some (.ref 0), some (.int p0)] [] 0
  unfold fX9_letter at hf
  refine z_aload_n dX9_letter_0 rfl ?_
  refine z_getf dX9_letter_1 fX9_33 (at_UnitText s) rfl ?_
  refine z_iload_n dX9_letter_4 rfl ?_
  obtain ⟨x1, s2, q3, hf⟩ := zbn_of hf
  refine z_cV (as := [_]) hok dX9_letter_5 kX9_125 (tX7_byteOfOut hok (d - 1) N p0  q3) rfl (at_Teller s) rfl rfl (by omega) (Nat.le_of_ble_eq_true rfl) (Nat.zero_le _) (Nat.zero_le _) rfl ?_
  cases hf
  exact z_iret rfl dX9_letter_8 (Nat.zero_le _) (Nat.zero_le _) ⟨rfl, rfl⟩

noncomputable def fX9_read_L9S (N : Nat)  (rec : Int32 → zS → Option ((Option Int32 × zS) ⊕ (zS))) (v1 : Int32) (s : zS) : Option ((Option Int32 × zS) ⊕ (zS)) := if 3000 < v1 then some (.inr (s)) else zbn (fX3_hasLine N  s) (fun x4 s5 => if x4 = 0 then some (.inr (s5)) else zbt (fX3_readLabels N v1 s5) (fun sx => some (.inl (none, sx))) (fun x7 s8 => zbt (fX3_readWord N v1 s8) (fun sx => some (.inl (none, sx))) (fun x10 s11 => rec (v1 + 1) s11)))
noncomputable def fX9_read_L9 (N : Nat)  (n : Nat) : Int32 → zS → Option ((Option Int32 × zS) ⊕ (zS)) := Nat.rec (motive := fun _ => Int32 → zS → Option ((Option Int32 × zS) ⊕ (zS))) (fun _ _ => none) (fun _ rec => fX9_read_L9S N  rec) n
set_option maxHeartbeats 400000 in
set_option maxRecDepth 100000 in
theorem tX9_read_L9 {g : zGl} (hok : zGok g) (d : Nat) (hd : 423 ≤ d) (N : Nat)   {mc ms n0 : Nat} {Q : zO → List zE → Prop} (n : Nat) : ∀ (v1 : Int32) (s : zS) (r : (Option Int32 × zS) ⊕ (zS)) (hf : fX9_read_L9 N  n v1 s = some r) (k1 : ∀ w s', r = .inl (some w, s') → Q (.inl (some (.int w))) (zHp s')) (kx : ∀ s', r = .inl (none, s') → mc = 1 ∧ ms = 6 ∧ Q (.inr zIAE) (zHp s')) (k2 : ∀  (s' : zS), r = .inr (s') → zW g mX9_read d mc ms n0 Q 0 0 (zHp s') [some (.ref 0), none] [] 48), zW g mX9_read d mc ms n0 Q 0 0 (zHp s) [some (.ref 0), some (.int v1)] [] 9 := by
  induction n with
  | zero => intro v1 s r hf; cases hf
  | succ n ih =>
    intro v1 s r hf k1 kx k2
    have hrec : ∀ (v1 : Int32) (s : zS) (r1 : (Option Int32 × zS) ⊕ (zS)), fX9_read_L9 N  n v1 s = some r1 → r1 = r → zW g mX9_read d mc ms n0 Q 0 0 (zHp s) [some (.ref 0), some (.int v1)] [] 9 := fun v1 s r1 h e => ih v1 s r1 h (by subst e; exact k1) (by subst e; exact kx) (by subst e; exact k2)
    have hrec : ∀ (v1 : Int32) (s : zS), fX9_read_L9 N  n v1 s = some r → zW g mX9_read d mc ms n0 Q 0 0 (zHp s) [some (.ref 0), some (.int v1)] [] 9 := fun v1 s h => hrec v1 s r h rfl
    have hf : fX9_read_L9S N  (fX9_read_L9 N  n) v1 s = some r := hf
    unfold fX9_read_L9S at hf
    refine z_iload_n dX9_read_9 rfl ?_
    refine z_sipush 3000 dX9_read_10 (by decide +kernel) ?_
    refine z_icmp_gt 48 dX9_read_13 (by decide) (fun c13 => ?_) (fun c13 => ?_)
    · have hf := zifp hf c13
      cases hf
      refine z_mask (ls' := [_, _]) [true, false] rfl ?_
      exact k2  _ rfl
    · have hf := zifn hf c13
      refine z_aload_n dX9_read_16 rfl ?_
      refine z_getf dX9_read_17 fX9_19 (at_UnitText s) rfl ?_
      obtain ⟨x4, s5, q6, hf⟩ := zbn_of hf
      refine z_cV (as := []) hok dX9_read_20 kX9_58 (tX3_hasLine hok (d - 1) (by omega) N   q6) rfl (at_Reader s) rfl rfl (by omega) (Nat.le_of_ble_eq_true rfl) (Nat.zero_le _) (Nat.zero_le _) rfl ?_
      refine z_if_eq 48 dX9_read_23 (by decide) (fun c23 => ?_) (fun c23 => ?_)
      · have hf := zifp hf c23
        cases hf
        refine z_mask (ls' := [_, _]) [true, false] rfl ?_
        exact k2  _ rfl
      · have hf := zifn hf c23
        refine z_aload_n dX9_read_26 rfl ?_
        refine z_getf dX9_read_27 fX9_19 (at_UnitText s5) rfl ?_
        refine z_iload_n dX9_read_30 rfl ?_
        rcases zbt_of hf with ⟨s8, q9, hf⟩ | ⟨x7, s8, q9, hf⟩
        · cases hf
          obtain ⟨e1, e2, hQ⟩ := kx _ rfl
          cases e1
          cases e2
          exact z_xV (as := [_]) hok dX9_read_31 kX9_62 (zcvTV (tX3_readLabels hok (d - 1) (by omega) N v1  q9)) rfl (at_Reader s5) rfl rfl (by omega) (Nat.le_of_ble_eq_true rfl) rfl rfl hQ
        · refine z_cV (as := [_]) hok dX9_read_31 kX9_62 (zcvV (tX3_readLabels hok (d - 1) (by omega) N v1  q9)) rfl (at_Reader s5) rfl rfl (by omega) (Nat.le_of_ble_eq_true rfl) (Nat.zero_le _) (Nat.zero_le _) rfl ?_
          refine z_aload_n dX9_read_34 rfl ?_
          refine z_getf dX9_read_35 fX9_19 (at_UnitText s8) rfl ?_
          refine z_iload_n dX9_read_38 rfl ?_
          rcases zbt_of hf with ⟨s11, q12, hf⟩ | ⟨x10, s11, q12, hf⟩
          · cases hf
            obtain ⟨e1, e2, hQ⟩ := kx _ rfl
            cases e1
            cases e2
            exact z_xV (as := [_]) hok dX9_read_39 kX9_65 (zcvTV (tX3_readWord hok (d - 1) (by omega) N v1  q12)) rfl (at_Reader s8) rfl rfl (by omega) (Nat.le_of_ble_eq_true rfl) rfl rfl hQ
          · refine z_cV (as := [_]) hok dX9_read_39 kX9_65 (zcvV (tX3_readWord hok (d - 1) (by omega) N v1  q12)) rfl (at_Reader s8) rfl rfl (by omega) (Nat.le_of_ble_eq_true rfl) (Nat.zero_le _) (Nat.zero_le _) rfl ?_
            refine z_iinc (ls' := [_, _]) (v1 + 1) dX9_read_42 rfl rfl (by decide) rfl ?_
            refine z_goto 9 dX9_read_45 (by decide) ?_
            refine z_mask (ls' := [_, _]) [true, true] rfl ?_
            exact hrec (v1 + 1) s11 hf
noncomputable def fX9_read (N : Nat)  (s : zS) : Option (Option Int32 × zS) := zbt (fX3_begin N  s) (fun sx => some (none, sx)) (fun x1 s2 => zbl (fX9_read_L9 N  N 0 s2) (fun x => some x) (fun s16 => zbn (fX3_finish N  s16) (fun x17 s18 => some (some x17, s18))))
set_option maxHeartbeats 400000 in
set_option maxRecDepth 100000 in
theorem tX9_read {g : zGl} (hok : zGok g) (d : Nat) (hd : 423 ≤ d) (N : Nat)   {s s' : zS} {w : Option Int32} (hf : fX9_read N  s = some (w, s')) : zMet g mX9_read d (zk1 w) (zk6 w) [.ref 0] (zHp s) (zendI w (zHp s')) := by
  refine zMet.ofW (by decide +kernel) (Nat.le_of_ble_eq_true rfl) ?_
  generalize emc : zk1 w = mc
  generalize ems : zk6 w = ms
  show zW g mX9_read d mc ms 51 _ 0 0 (zHp s) [some (.ref 0), none] [] 0
  unfold fX9_read at hf
  refine z_aload_n dX9_read_0 rfl ?_
  refine z_getf dX9_read_1 fX9_19 (at_UnitText s) rfl ?_
  rcases zbt_of hf with ⟨s2, q3, hf⟩ | ⟨x1, s2, q3, hf⟩
  · cases hf
    have e1 : mc = 1 := emc.symm
    have e2 : ms = 6 := ems.symm
    subst e1
    subst e2
    exact z_xV (as := []) hok dX9_read_4 kX9_55 (zcvTV (tX3_begin hok (d - 1) (by omega) N   q3)) rfl (at_Reader s) rfl rfl (by omega) (Nat.le_of_ble_eq_true rfl) rfl rfl ⟨rfl, rfl⟩
  · refine z_cV (as := []) hok dX9_read_4 kX9_55 (zcvV (tX3_begin hok (d - 1) (by omega) N   q3)) rfl (at_Reader s) rfl rfl (by omega) (Nat.le_of_ble_eq_true rfl) (Nat.zero_le _) (Nat.zero_le _) rfl ?_
    refine z_iconst 0 dX9_read_7 (by decide +kernel) ?_
    refine z_istore_n (ls' := [_, _]) dX9_read_8 (by decide) rfl ?_
    refine z_mask (ls' := [_, _]) [true, true] rfl ?_
    rcases zbl_of hf with ⟨lr14, le15, hf⟩ | ⟨lr14, le15, hf⟩
    · cases hf
      exact tX9_read_L9 hok d (by omega) N   N 0 s2 _ le15 (fun w1 s1 hh => by cases hh; exact ⟨rfl, rfl⟩) (fun s1 hh => by cases hh; exact ⟨emc.symm, ems.symm, rfl, rfl⟩) (fun  _ hh => by cases hh)
    · obtain ⟨s16, rfl⟩ : ∃ z, z = lr14 := ⟨_, rfl⟩
      refine tX9_read_L9 hok d (by omega) N   N 0 s2 _ le15 (fun w1 s1 hh => by cases hh) (fun s1 hh => by cases hh) (fun  _ hh => ?_)
      cases hh
      refine z_aload_n dX9_read_48 rfl ?_
      refine z_getf dX9_read_49 fX9_19 (at_UnitText s16) rfl ?_
      obtain ⟨x17, s18, q19, hf⟩ := zbn_of hf
      refine z_cV (as := []) hok dX9_read_52 kX9_68 (tX3_finish hok (d - 1) N   q19) rfl (at_Reader s16) rfl rfl (by omega) (Nat.le_of_ble_eq_true rfl) (Nat.zero_le _) (Nat.zero_le _) rfl ?_
      cases hf
      exact z_iret rfl dX9_read_55 (Nat.zero_le _) (Nat.zero_le _) ⟨rfl, rfl⟩

