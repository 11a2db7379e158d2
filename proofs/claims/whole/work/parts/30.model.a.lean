noncomputable def fX10_thrown (N : Nat)  (s : zS) : Option (Int32 × zS) := some (s.1 3300, s)
set_option maxHeartbeats 400000 in
set_option maxRecDepth 100000 in
theorem tX10_thrown {g : zGl} (hok : zGok g) (d : Nat)  (N : Nat)   {s s' : zS} {w : Int32} (hf : fX10_thrown N  s = some (w, s')) : zMet g mX10_thrown d 0 0 [.ref 33] (zHp s) (zret (some (.int w)) (zHp s')) := by
  refine zMet.ofW (by decide +kernel) (Nat.le_of_ble_eq_true rfl) ?_
  show zW g mX10_thrown d 0 0 51 _ 0 0 (zHp s) [some (.ref 33)] [] 0
  unfold fX10_thrown at hf
  refine z_aload_n dX10_thrown_0 rfl ?_
  refine z_getf dX10_thrown_1 fX10_62 (at_Model s) rfl ?_
  cases hf
  exact z_iret rfl dX10_thrown_4 (Nat.zero_le _) (Nat.zero_le _) ⟨rfl, rfl⟩

noncomputable def fX10_wait_L2S (N : Nat) (p0 : Int32) (p1 : Int32) (rec : Int32 → zS → Option ((Unit × zS) ⊕ (zS))) (v3 : Int32) (s : zS) : Option ((Unit × zS) ⊕ (zS)) := if 4 ≤ v3 then some (.inr (s)) else if zga (p0 + v3) (zlen 34) = true then rec (v3 + 1) (zsr s 34 (p0 + v3) ((p1 >>> ((24 - (8 * v3)) &&& 31)) &&& 255)) else none
noncomputable def fX10_wait_L2 (N : Nat) (p0 : Int32) (p1 : Int32) (n : Nat) : Int32 → zS → Option ((Unit × zS) ⊕ (zS)) := Nat.rec (motive := fun _ => Int32 → zS → Option ((Unit × zS) ⊕ (zS))) (fun _ _ => none) (fun _ rec => fX10_wait_L2S N p0 p1 rec) n
set_option maxHeartbeats 400000 in
set_option maxRecDepth 100000 in
theorem tX10_wait_L2 {g : zGl} (hok : zGok g) (d : Nat)  (N : Nat) (p0 : Int32) (p1 : Int32)  {mc ms n0 : Nat} {Q : zO → List zE → Prop} (n : Nat) : ∀ (v3 : Int32) (s : zS) (r : (Unit × zS) ⊕ (zS)) (hf : fX10_wait_L2 N p0 p1 n v3 s = some r) (k1 : ∀ w s', r = .inl (w, s') → Q (.inl none) (zHp s')) (k2 : ∀  (s' : zS), r = .inr (s') → zW g mX10_wait d mc ms n0 Q 0 0 (zHp s') [some (.ref 33), some (.int p0), some (.int p1), none] [] 34), zW g mX10_wait d mc ms n0 Q 0 0 (zHp s) [some (.ref 33), some (.int p0), some (.int p1), some (.int v3)] [] 2 := by
  induction n with
  | zero => intro v3 s r hf; cases hf
  | succ n ih =>
    intro v3 s r hf k1 k2
    have hrec : ∀ (v3 : Int32) (s : zS) (r1 : (Unit × zS) ⊕ (zS)), fX10_wait_L2 N p0 p1 n v3 s = some r1 → r1 = r → zW g mX10_wait d mc ms n0 Q 0 0 (zHp s) [some (.ref 33), some (.int p0), some (.int p1), some (.int v3)] [] 2 := fun v3 s r1 h e => ih v3 s r1 h (by subst e; exact k1) (by subst e; exact k2)
    have hrec : ∀ (v3 : Int32) (s : zS), fX10_wait_L2 N p0 p1 n v3 s = some r → zW g mX10_wait d mc ms n0 Q 0 0 (zHp s) [some (.ref 33), some (.int p0), some (.int p1), some (.int v3)] [] 2 := fun v3 s h => hrec v3 s r h rfl
    have hf : fX10_wait_L2S N p0 p1 (fX10_wait_L2 N p0 p1 n) v3 s = some r := hf
    unfold fX10_wait_L2S at hf
    refine z_iload_n dX10_wait_2 rfl ?_
    refine z_iconst 4 dX10_wait_3 (by decide +kernel) ?_
    refine z_icmp_ge 34 dX10_wait_4 (by decide) (fun c4 => ?_) (fun c4 => ?_)
    · have hf := zifp hf c4
      cases hf
      refine z_mask (ls' := [_, _, _, _]) [true, true, true, false] rfl ?_
      exact k2  _ rfl
    · have hf := zifn hf c4
      refine z_aload_n dX10_wait_7 rfl ?_
      refine z_getf dX10_wait_8 fX10_7 (at_Model s) rfl ?_
      refine z_iload_n dX10_wait_11 rfl ?_
      refine z_iload_n dX10_wait_12 rfl ?_
      refine z_iadd dX10_wait_13 ?_
      refine z_iload_n dX10_wait_14 rfl ?_
      refine z_bipush 24 dX10_wait_15 (by decide +kernel) ?_
      refine z_bipush 8 dX10_wait_17 (by decide +kernel) ?_
      refine z_iload_n dX10_wait_19 rfl ?_
      refine z_imul dX10_wait_20 ?_
      refine z_isub dX10_wait_21 ?_
      refine z_ishr dX10_wait_22 ?_
      refine z_sipush 255 dX10_wait_23 (by decide +kernel) ?_
      refine z_iand dX10_wait_26 ?_
      obtain ⟨hi1, hf⟩ := zifs hf
      refine z_iastore dX10_wait_27 (at_arr s 34 (by decide)) (zga_in hi1) (st_arr s 34 (by decide) (p0 + v3) ((p1 >>> ((24 - (8 * v3)) &&& 31)) &&& 255)) ?_
      refine z_iinc (ls' := [_, _, _, _]) (v3 + 1) dX10_wait_28 rfl rfl (by decide) rfl ?_
      refine z_goto 2 dX10_wait_31 (by decide) ?_
      refine z_mask (ls' := [_, _, _, _]) [true, true, true, true] rfl ?_
      exact hrec (v3 + 1) (zsr s 34 (p0 + v3) ((p1 >>> ((24 - (8 * v3)) &&& 31)) &&& 255)) hf
noncomputable def fX10_wait (N : Nat) (p0 : Int32) (p1 : Int32) (s : zS) : Option (Unit × zS) := zbl (fX10_wait_L2 N p0 p1 N 0 s) (fun x => some x) (fun s5 => some ((), s5))
set_option maxHeartbeats 400000 in
set_option maxRecDepth 100000 in
theorem tX10_wait {g : zGl} (hok : zGok g) (d : Nat)  (N : Nat) (p0 : Int32) (p1 : Int32)  {s s' : zS} {w : Unit} (hf : fX10_wait N p0 p1 s = some (w, s')) : zMet g mX10_wait d 0 0 [.ref 33, .int p0, .int p1] (zHp s) (zret none (zHp s')) := by
  refine zMet.ofW (by decide +kernel) (Nat.le_of_ble_eq_true rfl) ?_
  show zW g mX10_wait d 0 0 51 _ 0 0 (zHp s) [some (.ref 33), some (.int p0), some (.int p1), none] [] 0
  unfold fX10_wait at hf
  refine z_iconst 0 dX10_wait_0 (by decide +kernel) ?_
  refine z_istore_n (ls' := [_, _, _, _]) dX10_wait_1 (by decide) rfl ?_
  refine z_mask (ls' := [_, _, _, _]) [true, true, true, true] rfl ?_
  rcases zbl_of hf with ⟨lr3, le4, hf⟩ | ⟨lr3, le4, hf⟩
  · cases hf
    exact tX10_wait_L2 hok d N p0 p1  N 0 s _ le4 (fun w1 s1 hh => by cases hh; exact ⟨rfl, rfl⟩) (fun  _ hh => by cases hh)
  · obtain ⟨s5, rfl⟩ : ∃ z, z = lr3 := ⟨_, rfl⟩
    refine tX10_wait_L2 hok d N p0 p1  N 0 s _ le4 (fun w1 s1 hh => by cases hh) (fun  _ hh => ?_)
    cases hh
    cases hf
    exact z_vret rfl dX10_wait_34 (Nat.zero_le _) (Nat.zero_le _) ⟨rfl, rfl⟩

noncomputable def fX10_feed (N : Nat) (p0 : Int32) (p1 : Int32) (p2 : Int32) (p3 : Int32) (p4 : Int32) (s : zS) : Option (Unit × zS) := zbn (fX10_wait N 0 p0 (zsc s 3300 0)) (fun x1 s2 => zbn (fX10_wait N 4 p1 s2) (fun x4 s5 => zbn (fX10_wait N 8 p2 s5) (fun x7 s8 => zbn (fX10_wait N 12 p3 s8) (fun x10 s11 => zbn (fX10_wait N 16 p4 s11) (fun x13 s14 => some ((), s14))))))
set_option maxHeartbeats 400000 in
set_option maxRecDepth 100000 in
theorem tX10_feed {g : zGl} (hok : zGok g) (d : Nat) (hd : 1 ≤ d) (N : Nat) (p0 : Int32) (p1 : Int32) (p2 : Int32) (p3 : Int32) (p4 : Int32)  {s s' : zS} {w : Unit} (hf : fX10_feed N p0 p1 p2 p3 p4 s = some (w, s')) : zMet g mX10_feed d 0 0 [.ref 33, .int p0, .int p1, .int p2, .int p3, .int p4] (zHp s) (zret none (zHp s')) := by
  refine zMet.ofW (by decide +kernel) (Nat.le_of_ble_eq_true rfl) ?_
  show zW g mX10_feed d 0 0 51 _ 0 0 (zHp s) [some (.ref 33), some (.int p0), some (.int p1), some (.int p2), some (.int p3), some (.int p4)] [] 0
  unfold fX10_feed at hf
  refine z_aload_n dX10_feed_0 rfl ?_
  refine z_iconst 0 dX10_feed_1 (by decide +kernel) ?_
  refine z_putf dX10_feed_2 fX10_62 wX10_0 (at_Model s) (Nat.le_of_ble_eq_true rfl) (fun _ => rfl) (fun _ => rfl) (st_Model_0 s 0) ?_
  refine z_aload_n dX10_feed_5 rfl ?_
  refine z_iconst 0 dX10_feed_6 (by decide +kernel) ?_
  refine z_iload_n dX10_feed_7 rfl ?_
  obtain ⟨x1, s2, q3, hf⟩ := zbn_of hf
  refine z_cV (as := [_, _]) hok dX10_feed_8 kX10_65 (tX10_wait hok (d - 1) N 0 p0  q3) rfl (at_Model (zsc s 3300 0)) rfl rfl (by omega) (Nat.le_of_ble_eq_true rfl) (Nat.zero_le _) (Nat.zero_le _) rfl ?_
  refine z_aload_n dX10_feed_11 rfl ?_
  refine z_iconst 4 dX10_feed_12 (by decide +kernel) ?_
  refine z_iload_n dX10_feed_13 rfl ?_
  obtain ⟨x4, s5, q6, hf⟩ := zbn_of hf
  refine z_cV (as := [_, _]) hok dX10_feed_14 kX10_65 (tX10_wait hok (d - 1) N 4 p1  q6) rfl (at_Model s2) rfl rfl (by omega) (Nat.le_of_ble_eq_true rfl) (Nat.zero_le _) (Nat.zero_le _) rfl ?_
  refine z_aload_n dX10_feed_17 rfl ?_
  refine z_bipush 8 dX10_feed_18 (by decide +kernel) ?_
  refine z_iload_n dX10_feed_20 rfl ?_
  obtain ⟨x7, s8, q9, hf⟩ := zbn_of hf
  refine z_cV (as := [_, _]) hok dX10_feed_21 kX10_65 (tX10_wait hok (d - 1) N 8 p2  q9) rfl (at_Model s5) rfl rfl (by omega) (Nat.le_of_ble_eq_true rfl) (Nat.zero_le _) (Nat.zero_le _) rfl ?_
  refine z_aload_n dX10_feed_24 rfl ?_
  refine z_bipush 12 dX10_feed_25 (by decide +kernel) ?_
  refine z_iload dX10_feed_27 rfl ?_
  obtain ⟨x10, s11, q12, hf⟩ := zbn_of hf
  refine z_cV (as := [_, _]) hok dX10_feed_29 kX10_65 (tX10_wait hok (d - 1) N 12 p3  q12) rfl (at_Model s8) rfl rfl (by omega) (Nat.le_of_ble_eq_true rfl) (Nat.zero_le _) (Nat.zero_le _) rfl ?_
  refine z_aload_n dX10_feed_32 rfl ?_
  refine z_bipush 16 dX10_feed_33 (by decide +kernel) ?_
  refine z_iload dX10_feed_35 rfl ?_
  obtain ⟨x13, s14, q15, hf⟩ := zbn_of hf
  refine z_cV (as := [_, _]) hok dX10_feed_37 kX10_65 (tX10_wait hok (d - 1) N 16 p4  q15) rfl (at_Model s11) rfl rfl (by omega) (Nat.le_of_ble_eq_true rfl) (Nat.zero_le _) (Nat.zero_le _) rfl ?_
  cases hf
  exact z_vret rfl dX10_feed_40 (Nat.zero_le _) (Nat.zero_le _) ⟨rfl, rfl⟩

noncomputable def fX10_end_L31S (N : Nat) (p0 : Int32) (rec : Int32 → zS → Option ((Int32 × zS) ⊕ (zS))) (v2 : Int32) (s : zS) : Option ((Int32 × zS) ⊕ (zS)) := if p0 ≤ v2 then some (.inr (s)) else if zga v2 (zlen 34) = true then if zga ((s.1 3303) + v2) (zlen 35) = true then rec (v2 + 1) (zsr s 35 ((s.1 3303) + v2) (s.2.1 34 v2.toNatClampNeg)) else none else none
noncomputable def fX10_end_L31 (N : Nat) (p0 : Int32) (n : Nat) : Int32 → zS → Option ((Int32 × zS) ⊕ (zS)) := Nat.rec (motive := fun _ => Int32 → zS → Option ((Int32 × zS) ⊕ (zS))) (fun _ _ => none) (fun _ rec => fX10_end_L31S N p0 rec) n
set_option maxHeartbeats 400000 in
set_option maxRecDepth 100000 in
theorem tX10_end_L31 {g : zGl} (hok : zGok g) (d : Nat)  (N : Nat) (p0 : Int32)  {mc ms n0 : Nat} {Q : zO → List zE → Prop} (n : Nat) : ∀ (v2 : Int32) (s : zS) (r : (Int32 × zS) ⊕ (zS)) (hf : fX10_end_L31 N p0 n v2 s = some r) (k1 : ∀ w s', r = .inl (w, s') → Q (.inl (some (.int w))) (zHp s')) (k2 : ∀  (s' : zS), r = .inr (s') → zW g mX10_end d mc ms n0 Q 0 0 (zHp s') [some (.ref 33), some (.int p0), none] [] 59), zW g mX10_end d mc ms n0 Q 0 0 (zHp s) [some (.ref 33), some (.int p0), some (.int v2)] [] 31 := by
  induction n with
  | zero => intro v2 s r hf; cases hf
  | succ n ih =>
    intro v2 s r hf k1 k2
    have hrec : ∀ (v2 : Int32) (s : zS) (r1 : (Int32 × zS) ⊕ (zS)), fX10_end_L31 N p0 n v2 s = some r1 → r1 = r → zW g mX10_end d mc ms n0 Q 0 0 (zHp s) [some (.ref 33), some (.int p0), some (.int v2)] [] 31 := fun v2 s r1 h e => ih v2 s r1 h (by subst e; exact k1) (by subst e; exact k2)
    have hrec : ∀ (v2 : Int32) (s : zS), fX10_end_L31 N p0 n v2 s = some r → zW g mX10_end d mc ms n0 Q 0 0 (zHp s) [some (.ref 33), some (.int p0), some (.int v2)] [] 31 := fun v2 s h => hrec v2 s r h rfl
    have hf : fX10_end_L31S N p0 (fX10_end_L31 N p0 n) v2 s = some r := hf
    unfold fX10_end_L31S at hf
    refine z_iload_n dX10_end_31 rfl ?_
    refine z_iload_n dX10_end_32 rfl ?_
    refine z_icmp_ge 59 dX10_end_33 (by decide) (fun c33 => ?_) (fun c33 => ?_)
    · have hf := zifp hf c33
      cases hf
      refine z_mask (ls' := [_, _, _]) [true, true, false] rfl ?_
      exact k2  _ rfl
    · have hf := zifn hf c33
      refine z_aload_n dX10_end_36 rfl ?_
      refine z_getf dX10_end_37 fX10_13 (at_Model s) rfl ?_
      refine z_aload_n dX10_end_40 rfl ?_
      refine z_getf dX10_end_41 fX10_69 (at_Model s) rfl ?_
      refine z_iload_n dX10_end_44 rfl ?_
      refine z_iadd dX10_end_45 ?_
      refine z_aload_n dX10_end_46 rfl ?_
      refine z_getf dX10_end_47 fX10_7 (at_Model s) rfl ?_
      refine z_iload_n dX10_end_50 rfl ?_
      obtain ⟨hi1, hf⟩ := zifs hf
      refine z_iald dX10_end_51 (at_arr s 34 (by decide)) (zga_in hi1) ?_
      obtain ⟨hi2, hf⟩ := zifs hf
      refine z_iastore dX10_end_52 (at_arr s 35 (by decide)) (zga_in hi2) (st_arr s 35 (by decide) ((s.1 3303) + v2) (s.2.1 34 v2.toNatClampNeg)) ?_
      refine z_iinc (ls' := [_, _, _]) (v2 + 1) dX10_end_53 rfl rfl (by decide) rfl ?_
      refine z_goto 31 dX10_end_56 (by decide) ?_
      refine z_mask (ls' := [_, _, _]) [true, true, true] rfl ?_
      exact hrec (v2 + 1) (zsr s 35 ((s.1 3303) + v2) (s.2.1 34 v2.toNatClampNeg)) hf
noncomputable def fX10_end_L61S (N : Nat) (p0 : Int32) (rec : Int32 → zS → Option ((Int32 × zS) ⊕ (zS))) (v2 : Int32) (s : zS) : Option ((Int32 × zS) ⊕ (zS)) := if 20 ≤ v2 then some (.inr (s)) else if zga v2 (zlen 34) = true then rec (v2 + 1) (zsr s 34 v2 0) else none
noncomputable def fX10_end_L61 (N : Nat) (p0 : Int32) (n : Nat) : Int32 → zS → Option ((Int32 × zS) ⊕ (zS)) := Nat.rec (motive := fun _ => Int32 → zS → Option ((Int32 × zS) ⊕ (zS))) (fun _ _ => none) (fun _ rec => fX10_end_L61S N p0 rec) n
set_option maxHeartbeats 400000 in
set_option maxRecDepth 100000 in
theorem tX10_end_L61 {g : zGl} (hok : zGok g) (d : Nat)  (N : Nat) (p0 : Int32)  {mc ms n0 : Nat} {Q : zO → List zE → Prop} (n : Nat) : ∀ (v2 : Int32) (s : zS) (r : (Int32 × zS) ⊕ (zS)) (hf : fX10_end_L61 N p0 n v2 s = some r) (k1 : ∀ w s', r = .inl (w, s') → Q (.inl (some (.int w))) (zHp s')) (k2 : ∀  (s' : zS), r = .inr (s') → zW g mX10_end d mc ms n0 Q 0 0 (zHp s') [some (.ref 33), some (.int p0), none] [] 80), zW g mX10_end d mc ms n0 Q 0 0 (zHp s) [some (.ref 33), some (.int p0), some (.int v2)] [] 61 := by
  induction n with
  | zero => intro v2 s r hf; cases hf
  | succ n ih =>
    intro v2 s r hf k1 k2
    have hrec : ∀ (v2 : Int32) (s : zS) (r1 : (Int32 × zS) ⊕ (zS)), fX10_end_L61 N p0 n v2 s = some r1 → r1 = r → zW g mX10_end d mc ms n0 Q 0 0 (zHp s) [some (.ref 33), some (.int p0), some (.int v2)] [] 61 := fun v2 s r1 h e => ih v2 s r1 h (by subst e; exact k1) (by subst e; exact k2)
    have hrec : ∀ (v2 : Int32) (s : zS), fX10_end_L61 N p0 n v2 s = some r → zW g mX10_end d mc ms n0 Q 0 0 (zHp s) [some (.ref 33), some (.int p0), some (.int v2)] [] 61 := fun v2 s h => hrec v2 s r h rfl
    have hf : fX10_end_L61S N p0 (fX10_end_L61 N p0 n) v2 s = some r := hf
    unfold fX10_end_L61S at hf
    refine z_iload_n dX10_end_61 rfl ?_
    refine z_bipush 20 dX10_end_62 (by decide +kernel) ?_
    refine z_icmp_ge 80 dX10_end_64 (by decide) (fun c64 => ?_) (fun c64 => ?_)
    · have hf := zifp hf c64
      cases hf
      refine z_mask (ls' := [_, _, _]) [true, true, false] rfl ?_
      exact k2  _ rfl
    · have hf := zifn hf c64
      refine z_aload_n dX10_end_67 rfl ?_
      refine z_getf dX10_end_68 fX10_7 (at_Model s) rfl ?_
      refine z_iload_n dX10_end_71 rfl ?_
      refine z_iconst 0 dX10_end_72 (by decide +kernel) ?_
      obtain ⟨hi7, hf⟩ := zifs hf
      refine z_iastore dX10_end_73 (at_arr s 34 (by decide)) (zga_in hi7) (st_arr s 34 (by decide) v2 0) ?_
      refine z_iinc (ls' := [_, _, _]) (v2 + 1) dX10_end_74 rfl rfl (by decide) rfl ?_
      refine z_goto 61 dX10_end_77 (by decide) ?_
      refine z_mask (ls' := [_, _, _]) [true, true, true] rfl ?_
      exact hrec (v2 + 1) (zsr s 34 v2 0) hf
noncomputable def fX10_end (N : Nat) (p0 : Int32) (s : zS) : Option (Int32 × zS) := if p0 < 0 then some ((-1), (zsc s 3300 0)) else if 20 < p0 then some ((-1), (zsc s 3300 0)) else if ((s.1 3303) + p0) ≤ 3000 then zbl (fX10_end_L31 N p0 N 0 (zsc s 3300 0)) (fun x => some x) (fun s6 => zbl (fX10_end_L61 N p0 N 0 s6) (fun x => some x) (fun s11 => some ((s11.1 3303) + p0, (zsc s11 3303 ((s11.1 3303) + p0))))) else some ((-1), (zsc s 3300 0))
set_option maxHeartbeats 400000 in
set_option maxRecDepth 100000 in
theorem tX10_end {g : zGl} (hok : zGok g) (d : Nat)  (N : Nat) (p0 : Int32)  {s s' : zS} {w : Int32} (hf : fX10_end N p0 s = some (w, s')) : zMet g mX10_end d 0 0 [.ref 33, .int p0] (zHp s) (zret (some (.int w)) (zHp s')) := by
  refine zMet.ofW (by decide +kernel) (Nat.le_of_ble_eq_true rfl) ?_
  show zW g mX10_end d 0 0 51 _ 0 0 (zHp s) [some (.ref 33), some (.int p0), none] [] 0
  unfold fX10_end at hf
  refine z_aload_n dX10_end_0 rfl ?_
  refine z_iconst 0 dX10_end_1 (by decide +kernel) ?_
  refine z_putf dX10_end_2 fX10_62 wX10_0 (at_Model s) (Nat.le_of_ble_eq_true rfl) (fun _ => rfl) (fun _ => rfl) (st_Model_0 s 0) ?_
  refine z_iload_n dX10_end_5 rfl ?_
  refine z_if_lt 27 dX10_end_6 (by decide) (fun c6 => ?_) (fun c6 => ?_)
  · have hf := zifp hf c6
    refine z_iconst (-1) dX10_end_27 (by decide +kernel) ?_
    cases hf
    exact z_iret rfl dX10_end_28 (Nat.zero_le _) (Nat.zero_le _) ⟨rfl, rfl⟩
  · have hf := zifn hf c6
    refine z_iload_n dX10_end_9 rfl ?_
    refine z_bipush 20 dX10_end_10 (by decide +kernel) ?_
    refine z_icmp_gt 27 dX10_end_12 (by decide) (fun c12 => ?_) (fun c12 => ?_)
    · have hf := zifp hf c12
      refine z_iconst (-1) dX10_end_27 (by decide +kernel) ?_
      cases hf
      exact z_iret rfl dX10_end_28 (Nat.zero_le _) (Nat.zero_le _) ⟨rfl, rfl⟩
    · have hf := zifn hf c12
      refine z_aload_n dX10_end_15 rfl ?_
      refine z_getf dX10_end_16 fX10_69 (at_Model (zsc s 3300 0)) rfl ?_
      refine z_iload_n dX10_end_19 rfl ?_
      refine z_iadd dX10_end_20 ?_
      refine z_sipush 3000 dX10_end_21 (by decide +kernel) ?_
      refine z_icmp_le 29 dX10_end_24 (by decide) (fun c24 => ?_) (fun c24 => ?_)
      · have hf := zifp hf c24
        refine z_iconst 0 dX10_end_29 (by decide +kernel) ?_
        refine z_istore_n (ls' := [_, _, _]) dX10_end_30 (by decide) rfl ?_
        refine z_mask (ls' := [_, _, _]) [true, true, true] rfl ?_
        rcases zbl_of hf with ⟨lr4, le5, hf⟩ | ⟨lr4, le5, hf⟩
        · cases hf
          exact tX10_end_L31 hok d N p0  N 0 (zsc s 3300 0) _ le5 (fun w1 s1 hh => by cases hh; exact ⟨rfl, rfl⟩) (fun  _ hh => by cases hh)
        · obtain ⟨s6, rfl⟩ : ∃ z, z = lr4 := ⟨_, rfl⟩
          refine tX10_end_L31 hok d N p0  N 0 (zsc s 3300 0) _ le5 (fun w1 s1 hh => by cases hh) (fun  _ hh => ?_)
          cases hh
          refine z_iconst 0 dX10_end_59 (by decide +kernel) ?_
          refine z_istore_n (ls' := [_, _, _]) dX10_end_60 (by decide) rfl ?_
          refine z_mask (ls' := [_, _, _]) [true, true, true] rfl ?_
          rcases zbl_of hf with ⟨lr9, le10, hf⟩ | ⟨lr9, le10, hf⟩
          · cases hf
            exact tX10_end_L61 hok d N p0  N 0 s6 _ le10 (fun w1 s1 hh => by cases hh; exact ⟨rfl, rfl⟩) (fun  _ hh => by cases hh)
          · obtain ⟨s11, rfl⟩ : ∃ z, z = lr9 := ⟨_, rfl⟩
            refine tX10_end_L61 hok d N p0  N 0 s6 _ le10 (fun w1 s1 hh => by cases hh) (fun  _ hh => ?_)
            cases hh
            refine z_aload_n dX10_end_80 rfl ?_
            refine z_dup dX10_end_81 rfl ?_
            refine z_getf dX10_end_82 fX10_69 (at_Model s11) rfl ?_
            refine z_iload_n dX10_end_85 rfl ?_
            refine z_iadd dX10_end_86 ?_
            refine z_putf dX10_end_87 fX10_69 wX10_3 (at_Model s11) (Nat.le_of_ble_eq_true rfl) (fun _ => rfl) (fun _ => rfl) (st_Model_3 s11 ((s11.1 3303) + p0)) ?_
            refine z_aload_n dX10_end_90 rfl ?_
            refine z_getf dX10_end_91 fX10_69 (at_Model (zsc s11 3303 ((s11.1 3303) + p0))) rfl ?_
            cases hf
            exact z_iret rfl dX10_end_94 (Nat.zero_le _) (Nat.zero_le _) ⟨rfl, rfl⟩
      · have hf := zifn hf c24
        refine z_iconst (-1) dX10_end_27 (by decide +kernel) ?_
        cases hf
        exact z_iret rfl dX10_end_28 (Nat.zero_le _) (Nat.zero_le _) ⟨rfl, rfl⟩

noncomputable def fX10_bad (N : Nat) (p0 : Int32) (p1 : Int32) (s : zS) : Option (Unit × zS) := some ((), (zsc (zsc (zsc s 3315 6) 3316 p0) 3317 p1))
set_option maxHeartbeats 400000 in
set_option maxRecDepth 100000 in
theorem tX10_bad {g : zGl} (hok : zGok g) (d : Nat)  (N : Nat) (p0 : Int32) (p1 : Int32)  {s s' : zS} {w : Unit} (hf : fX10_bad N p0 p1 s = some (w, s')) : zMet g mX10_bad d 0 0 [.ref 33, .int p0, .int p1] (zHp s) (zret none (zHp s')) := by
  refine zMet.ofW (by decide +kernel) (Nat.le_of_ble_eq_true rfl) ?_
  show zW g mX10_bad d 0 0 51 _ 0 0 (zHp s) [some (.ref 33), some (.int p0), some (.int p1)] [] 0
  unfold fX10_bad at hf
  refine z_aload_n dX10_bad_0 rfl ?_
  refine z_bipush 6 dX10_bad_1 (by decide +kernel) ?_
  refine z_putf dX10_bad_3 fX10_79 wX10_15 (at_Model s) (Nat.le_of_ble_eq_true rfl) (fun _ => rfl) (fun _ => rfl) (st_Model_15 s 6) ?_
  refine z_aload_n dX10_bad_6 rfl ?_
  refine z_iload_n dX10_bad_7 rfl ?_
  refine z_putf dX10_bad_8 fX10_82 wX10_16 (at_Model (zsc s 3315 6)) (Nat.le_of_ble_eq_true rfl) (fun _ => rfl) (fun _ => rfl) (st_Model_16 (zsc s 3315 6) p0) ?_
  refine z_aload_n dX10_bad_11 rfl ?_
  refine z_iload_n dX10_bad_12 rfl ?_
  refine z_putf dX10_bad_13 fX10_85 wX10_17 (at_Model (zsc (zsc s 3315 6) 3316 p0)) (Nat.le_of_ble_eq_true rfl) (fun _ => rfl) (fun _ => rfl) (st_Model_17 (zsc (zsc s 3315 6) 3316 p0) p1) ?_
  cases hf
  exact z_vret rfl dX10_bad_16 (Nat.zero_le _) (Nat.zero_le _) ⟨rfl, rfl⟩

noncomputable def fX10_isLetter_J12 (N : Nat) (p0 : Int32)  (s : zS) : Option (Int32 × zS) := if p0 < 65 then if p0 = 95 then some (1, s) else if p0 = 46 then some (1, s) else some (0, s) else if p0 ≤ 90 then some (1, s) else if p0 = 95 then some (1, s) else if p0 = 46 then some (1, s) else some (0, s)
set_option maxHeartbeats 400000 in
set_option maxRecDepth 100000 in
theorem tX10_isLetter_J12 {g : zGl} (hok : zGok g) (d : Nat)  (N : Nat) (p0 : Int32)  {mc ms n0 : Nat}  {s s' : zS} {w : Int32} (hf : fX10_isLetter_J12 N p0  s = some (w, s')) : zW g mX10_isLetter d mc ms n0 (zret (some (.int w)) (zHp s')) 0 0 (zHp s) [some (.int p0)] [] 12 := by
  unfold fX10_isLetter_J12 at hf
  refine z_iload_n dX10_isLetter_12 rfl ?_
  refine z_bipush 65 dX10_isLetter_13 (by decide +kernel) ?_
  refine z_icmp_lt 24 dX10_isLetter_15 (by decide) (fun c15 => ?_) (fun c15 => ?_)
  · have hf := zifp hf c15
    refine z_iload_n dX10_isLetter_24 rfl ?_
    refine z_bipush 95 dX10_isLetter_25 (by decide +kernel) ?_
    refine z_icmp_eq 36 dX10_isLetter_27 (by decide) (fun c27 => ?_) (fun c27 => ?_)
    · have hf := zifp hf c27
      refine z_iconst 1 dX10_isLetter_36 (by decide +kernel) ?_
      refine z_goto 41 dX10_isLetter_37 (by decide) ?_
      cases hf
      exact z_zret rfl (by decide) dX10_isLetter_41 (Nat.zero_le _) (Nat.zero_le _) ⟨rfl, rfl⟩
    · have hf := zifn hf c27
      refine z_iload_n dX10_isLetter_30 rfl ?_
      refine z_bipush 46 dX10_isLetter_31 (by decide +kernel) ?_
      refine z_icmp_ne 40 dX10_isLetter_33 (by decide) (fun c33 => ?_) (fun c33 => ?_)
      · have hf := zifn hf c33
        refine z_iconst 0 dX10_isLetter_40 (by decide +kernel) ?_
        cases hf
        exact z_zret rfl (by decide) dX10_isLetter_41 (Nat.zero_le _) (Nat.zero_le _) ⟨rfl, rfl⟩
      · have hf := zifp hf c33
        refine z_iconst 1 dX10_isLetter_36 (by decide +kernel) ?_
        refine z_goto 41 dX10_isLetter_37 (by decide) ?_
        cases hf
        exact z_zret rfl (by decide) dX10_isLetter_41 (Nat.zero_le _) (Nat.zero_le _) ⟨rfl, rfl⟩
  · have hf := zifn hf c15
    refine z_iload_n dX10_isLetter_18 rfl ?_
    refine z_bipush 90 dX10_isLetter_19 (by decide +kernel) ?_
    refine z_icmp_le 36 dX10_isLetter_21 (by decide) (fun c21 => ?_) (fun c21 => ?_)
    · have hf := zifp hf c21
      refine z_iconst 1 dX10_isLetter_36 (by decide +kernel) ?_
      refine z_goto 41 dX10_isLetter_37 (by decide) ?_
      cases hf
      exact z_zret rfl (by decide) dX10_isLetter_41 (Nat.zero_le _) (Nat.zero_le _) ⟨rfl, rfl⟩
    · have hf := zifn hf c21
      refine z_iload_n dX10_isLetter_24 rfl ?_
      refine z_bipush 95 dX10_isLetter_25 (by decide +kernel) ?_
      refine z_icmp_eq 36 dX10_isLetter_27 (by decide) (fun c27 => ?_) (fun c27 => ?_)
      · have hf := zifp hf c27
        refine z_iconst 1 dX10_isLetter_36 (by decide +kernel) ?_
        refine z_goto 41 dX10_isLetter_37 (by decide) ?_
        cases hf
        exact z_zret rfl (by decide) dX10_isLetter_41 (Nat.zero_le _) (Nat.zero_le _) ⟨rfl, rfl⟩
      · have hf := zifn hf c27
        refine z_iload_n dX10_isLetter_30 rfl ?_
        refine z_bipush 46 dX10_isLetter_31 (by decide +kernel) ?_
        refine z_icmp_ne 40 dX10_isLetter_33 (by decide) (fun c33 => ?_) (fun c33 => ?_)
        · have hf := zifn hf c33
          refine z_iconst 0 dX10_isLetter_40 (by decide +kernel) ?_
          cases hf
          exact z_zret rfl (by decide) dX10_isLetter_41 (Nat.zero_le _) (Nat.zero_le _) ⟨rfl, rfl⟩
        · have hf := zifp hf c33
          refine z_iconst 1 dX10_isLetter_36 (by decide +kernel) ?_
          refine z_goto 41 dX10_isLetter_37 (by decide) ?_
          cases hf
          exact z_zret rfl (by decide) dX10_isLetter_41 (Nat.zero_le _) (Nat.zero_le _) ⟨rfl, rfl⟩
noncomputable def fX10_isLetter (N : Nat) (p0 : Int32) (s : zS) : Option (Int32 × zS) := if p0 < 97 then fX10_isLetter_J12 N p0  s else if p0 ≤ 122 then some (1, s) else fX10_isLetter_J12 N p0  s
set_option maxHeartbeats 400000 in
set_option maxRecDepth 100000 in
theorem tX10_isLetter {g : zGl} (hok : zGok g) (d : Nat)  (N : Nat) (p0 : Int32)  {s s' : zS} {w : Int32} (hf : fX10_isLetter N p0 s = some (w, s')) : zMet g mX10_isLetter d 0 0 [.int p0] (zHp s) (zret (some (.int w)) (zHp s')) := by
  refine zMet.ofW (by decide +kernel) (Nat.le_of_ble_eq_true rfl) ?_
  show zW g mX10_isLetter d 0 0 51 _ 0 0 (zHp s) [some (.int p0)] [] 0
  unfold fX10_isLetter at hf
  refine z_iload_n dX10_isLetter_0 rfl ?_
  refine z_bipush 97 dX10_isLetter_1 (by decide +kernel) ?_
  refine z_icmp_lt 12 dX10_isLetter_3 (by decide) (fun c3 => ?_) (fun c3 => ?_)
  · have hf := zifp hf c3
    refine z_mask (ls' := [_]) [true] rfl ?_
    exact tX10_isLetter_J12 hok d N p0   hf
  · have hf := zifn hf c3
    refine z_iload_n dX10_isLetter_6 rfl ?_
    refine z_bipush 122 dX10_isLetter_7 (by decide +kernel) ?_
    refine z_icmp_le 36 dX10_isLetter_9 (by decide) (fun c9 => ?_) (fun c9 => ?_)
    · have hf := zifp hf c9
      refine z_iconst 1 dX10_isLetter_36 (by decide +kernel) ?_
      refine z_goto 41 dX10_isLetter_37 (by decide) ?_
      cases hf
      exact z_zret rfl (by decide) dX10_isLetter_41 (Nat.zero_le _) (Nat.zero_le _) ⟨rfl, rfl⟩
    · have hf := zifn hf c9
      refine z_mask (ls' := [_]) [true] rfl ?_
      exact tX10_isLetter_J12 hok d N p0   hf

noncomputable def fX10_isDigit (N : Nat) (p0 : Int32) (s : zS) : Option (Int32 × zS) := if p0 < 48 then some (0, s) else if 57 < p0 then some (0, s) else some (1, s)
set_option maxHeartbeats 400000 in
set_option maxRecDepth 100000 in
theorem tX10_isDigit {g : zGl} (hok : zGok g) (d : Nat)  (N : Nat) (p0 : Int32)  {s s' : zS} {w : Int32} (hf : fX10_isDigit N p0 s = some (w, s')) : zMet g mX10_isDigit d 0 0 [.int p0] (zHp s) (zret (some (.int w)) (zHp s')) := by
  refine zMet.ofW (by decide +kernel) (Nat.le_of_ble_eq_true rfl) ?_
  show zW g mX10_isDigit d 0 0 51 _ 0 0 (zHp s) [some (.int p0)] [] 0
  unfold fX10_isDigit at hf
  refine z_iload_n dX10_isDigit_0 rfl ?_
  refine z_bipush 48 dX10_isDigit_1 (by decide +kernel) ?_
  refine z_icmp_lt 16 dX10_isDigit_3 (by decide) (fun c3 => ?_) (fun c3 => ?_)
  · have hf := zifp hf c3
    refine z_iconst 0 dX10_isDigit_16 (by decide +kernel) ?_
    cases hf
    exact z_zret rfl (by decide) dX10_isDigit_17 (Nat.zero_le _) (Nat.zero_le _) ⟨rfl, rfl⟩
  · have hf := zifn hf c3
    refine z_iload_n dX10_isDigit_6 rfl ?_
    refine z_bipush 57 dX10_isDigit_7 (by decide +kernel) ?_
    refine z_icmp_gt 16 dX10_isDigit_9 (by decide) (fun c9 => ?_) (fun c9 => ?_)
    · have hf := zifp hf c9
      refine z_iconst 0 dX10_isDigit_16 (by decide +kernel) ?_
      cases hf
      exact z_zret rfl (by decide) dX10_isDigit_17 (Nat.zero_le _) (Nat.zero_le _) ⟨rfl, rfl⟩
    · have hf := zifn hf c9
      refine z_iconst 1 dX10_isDigit_12 (by decide +kernel) ?_
      refine z_goto 17 dX10_isDigit_13 (by decide) ?_
      cases hf
      exact z_zret rfl (by decide) dX10_isDigit_17 (Nat.zero_le _) (Nat.zero_le _) ⟨rfl, rfl⟩

noncomputable def fX10_isInName (N : Nat) (p0 : Int32) (s : zS) : Option (Int32 × zS) := zbn (fX10_isLetter N p0 s) (fun x1 s2 => if x1 = 0 then zbn (fX10_isDigit N p0 s2) (fun x4 s5 => if x4 = 0 then if p0 = 36 then some (1, s5) else some (0, s5) else some (1, s5)) else some (1, s2))
set_option maxHeartbeats 400000 in
set_option maxRecDepth 100000 in
theorem tX10_isInName {g : zGl} (hok : zGok g) (d : Nat) (hd : 1 ≤ d) (N : Nat) (p0 : Int32)  {s s' : zS} {w : Int32} (hf : fX10_isInName N p0 s = some (w, s')) : zMet g mX10_isInName d 0 0 [.int p0] (zHp s) (zret (some (.int w)) (zHp s')) := by
  refine zMet.ofW (by decide +kernel) (Nat.le_of_ble_eq_true rfl) ?_
  show zW g mX10_isInName d 0 0 51 _ 0 0 (zHp s) [some (.int p0)] [] 0
  unfold fX10_isInName at hf
  refine z_iload_n dX10_isInName_0 rfl ?_
  obtain ⟨x1, s2, q3, hf⟩ := zbn_of hf
  refine z_cS (as := [_]) hok dX10_isInName_1 kX10_72 (tX10_isLetter hok (d - 1) N p0  q3) rfl rfl (by omega) (Nat.le_of_ble_eq_true rfl) (Nat.zero_le _) (Nat.zero_le _) rfl ?_
  refine z_if_ne 20 dX10_isInName_4 (by decide) (fun c4 => ?_) (fun c4 => ?_)
  · have hf := zifn hf c4
    refine z_iconst 1 dX10_isInName_20 (by decide +kernel) ?_
    refine z_goto 25 dX10_isInName_21 (by decide) ?_
    cases hf
    exact z_zret rfl (by decide) dX10_isInName_25 (Nat.zero_le _) (Nat.zero_le _) ⟨rfl, rfl⟩
  · have hf := zifp hf c4
    refine z_iload_n dX10_isInName_7 rfl ?_
    obtain ⟨x4, s5, q6, hf⟩ := zbn_of hf
    refine z_cS (as := [_]) hok dX10_isInName_8 kX10_76 (tX10_isDigit hok (d - 1) N p0  q6) rfl rfl (by omega) (Nat.le_of_ble_eq_true rfl) (Nat.zero_le _) (Nat.zero_le _) rfl ?_
    refine z_if_ne 20 dX10_isInName_11 (by decide) (fun c11 => ?_) (fun c11 => ?_)
    · have hf := zifn hf c11
      refine z_iconst 1 dX10_isInName_20 (by decide +kernel) ?_
      refine z_goto 25 dX10_isInName_21 (by decide) ?_
      cases hf
      exact z_zret rfl (by decide) dX10_isInName_25 (Nat.zero_le _) (Nat.zero_le _) ⟨rfl, rfl⟩
    · have hf := zifp hf c11
      refine z_iload_n dX10_isInName_14 rfl ?_
      refine z_bipush 36 dX10_isInName_15 (by decide +kernel) ?_
      refine z_icmp_ne 24 dX10_isInName_17 (by decide) (fun c17 => ?_) (fun c17 => ?_)
      · have hf := zifn hf c17
        refine z_iconst 0 dX10_isInName_24 (by decide +kernel) ?_
        cases hf
        exact z_zret rfl (by decide) dX10_isInName_25 (Nat.zero_le _) (Nat.zero_le _) ⟨rfl, rfl⟩
      · have hf := zifp hf c17
        refine z_iconst 1 dX10_isInName_20 (by decide +kernel) ?_
        refine z_goto 25 dX10_isInName_21 (by decide) ?_
        cases hf
        exact z_zret rfl (by decide) dX10_isInName_25 (Nat.zero_le _) (Nat.zero_le _) ⟨rfl, rfl⟩

noncomputable def fX10_nameWord_L0S (N : Nat)  (rec : zS → Option ((Unit × zS) ⊕ (zS)))  (s : zS) : Option ((Unit × zS) ⊕ (zS)) := if (s.1 3303) ≤ (s.1 3318) then some (.inr (s)) else if zga (s.1 3318) (zlen 35) = true then zbn (fX10_isInName N (s.2.1 35 (s.1 3318).toNatClampNeg) s) (fun x2 s3 => if x2 = 0 then some (.inr (s3)) else rec  (zsc s3 3318 ((s3.1 3318) + 1))) else none
noncomputable def fX10_nameWord_L0 (N : Nat)  (n : Nat) : zS → Option ((Unit × zS) ⊕ (zS)) := Nat.rec (motive := fun _ => zS → Option ((Unit × zS) ⊕ (zS))) (fun  _ => none) (fun _ rec => fX10_nameWord_L0S N  rec) n
set_option maxHeartbeats 400000 in
set_option maxRecDepth 100000 in
theorem tX10_nameWord_L0 {g : zGl} (hok : zGok g) (d : Nat) (hd : 2 ≤ d) (N : Nat)   {mc ms n0 : Nat} {Q : zO → List zE → Prop} (n : Nat) : ∀  (s : zS) (r : (Unit × zS) ⊕ (zS)) (hf : fX10_nameWord_L0 N  n  s = some r) (k1 : ∀ w s', r = .inl (w, s') → Q (.inl none) (zHp s')) (k2 : ∀  (s' : zS), r = .inr (s') → zW g mX10_nameWord d mc ms n0 Q 0 0 (zHp s') [some (.ref 33)] [] 39), zW g mX10_nameWord d mc ms n0 Q 0 0 (zHp s) [some (.ref 33)] [] 0 := by
  induction n with
  | zero => intro  s r hf; cases hf
  | succ n ih =>
    intro  s r hf k1 k2
    have hrec : ∀  (s : zS) (r1 : (Unit × zS) ⊕ (zS)), fX10_nameWord_L0 N  n  s = some r1 → r1 = r → zW g mX10_nameWord d mc ms n0 Q 0 0 (zHp s) [some (.ref 33)] [] 0 := fun  s r1 h e => ih  s r1 h (by subst e; exact k1) (by subst e; exact k2)
    have hrec : ∀  (s : zS), fX10_nameWord_L0 N  n  s = some r → zW g mX10_nameWord d mc ms n0 Q 0 0 (zHp s) [some (.ref 33)] [] 0 := fun  s h => hrec  s r h rfl
    have hf : fX10_nameWord_L0S N  (fX10_nameWord_L0 N  n)  s = some r := hf
    unfold fX10_nameWord_L0S at hf
    refine z_aload_n dX10_nameWord_0 rfl ?_
    refine z_getf dX10_nameWord_1 fX10_88 (at_Model s) rfl ?_
    refine z_aload_n dX10_nameWord_4 rfl ?_
    refine z_getf dX10_nameWord_5 fX10_69 (at_Model s) rfl ?_
    refine z_icmp_ge 39 dX10_nameWord_8 (by decide) (fun c8 => ?_) (fun c8 => ?_)
    · have hf := zifp hf c8
      cases hf
      refine z_mask (ls' := [_]) [true] rfl ?_
      exact k2  _ rfl
    · have hf := zifn hf c8
      refine z_aload_n dX10_nameWord_11 rfl ?_
      refine z_getf dX10_nameWord_12 fX10_13 (at_Model s) rfl ?_
      refine z_aload_n dX10_nameWord_15 rfl ?_
      refine z_getf dX10_nameWord_16 fX10_88 (at_Model s) rfl ?_
      obtain ⟨hi1, hf⟩ := zifs hf
      refine z_iald dX10_nameWord_19 (at_arr s 35 (by decide)) (zga_in hi1) ?_
      obtain ⟨x2, s3, q4, hf⟩ := zbn_of hf
      refine z_cS (as := [_]) hok dX10_nameWord_20 kX10_110 (tX10_isInName hok (d - 1) (by omega) N (s.2.1 35 (s.1 3318).toNatClampNeg)  q4) rfl rfl (by omega) (Nat.le_of_ble_eq_true rfl) (Nat.zero_le _) (Nat.zero_le _) rfl ?_
      refine z_if_eq 39 dX10_nameWord_23 (by decide) (fun c23 => ?_) (fun c23 => ?_)
      · have hf := zifp hf c23
        cases hf
        refine z_mask (ls' := [_]) [true] rfl ?_
        exact k2  _ rfl
      · have hf := zifn hf c23
        refine z_aload_n dX10_nameWord_26 rfl ?_
        refine z_dup dX10_nameWord_27 rfl ?_
        refine z_getf dX10_nameWord_28 fX10_88 (at_Model s3) rfl ?_
        refine z_iconst 1 dX10_nameWord_31 (by decide +kernel) ?_
        refine z_iadd dX10_nameWord_32 ?_
        refine z_putf dX10_nameWord_33 fX10_88 wX10_18 (at_Model s3) (Nat.le_of_ble_eq_true rfl) (fun _ => rfl) (fun _ => rfl) (st_Model_18 s3 ((s3.1 3318) + 1)) ?_
        refine z_goto 0 dX10_nameWord_36 (by decide) ?_
        refine z_mask (ls' := [_]) [true] rfl ?_
        exact hrec  (zsc s3 3318 ((s3.1 3318) + 1)) hf
noncomputable def fX10_nameWord_J72 (N : Nat)   (s : zS) : Option (Unit × zS) := if ((s.1 3318) - (s.1 3317)) ≤ 16 then some ((), (zsc s 3315 1)) else zbn (fX10_bad N 2 (s.1 3317) (zsc s 3315 1)) (fun x9 s10 => some ((), s10))
set_option maxHeartbeats 400000 in
set_option maxRecDepth 100000 in
theorem tX10_nameWord_J72 {g : zGl} (hok : zGok g) (d : Nat) (hd : 2 ≤ d) (N : Nat)   {mc ms n0 : Nat}  {s s' : zS} {w : Unit} (hf : fX10_nameWord_J72 N   s = some (w, s')) : zW g mX10_nameWord d mc ms n0 (zret none (zHp s')) 0 0 (zHp s) [some (.ref 33)] [.ref 33] 72 := by
  unfold fX10_nameWord_J72 at hf
  refine z_iconst 1 dX10_nameWord_72 (by decide +kernel) ?_
  refine z_putf dX10_nameWord_73 fX10_79 wX10_15 (at_Model s) (Nat.le_of_ble_eq_true rfl) (fun _ => rfl) (fun _ => rfl) (st_Model_15 s 1) ?_
  refine z_aload_n dX10_nameWord_76 rfl ?_
  refine z_getf dX10_nameWord_77 fX10_88 (at_Model (zsc s 3315 1)) rfl ?_
  refine z_aload_n dX10_nameWord_80 rfl ?_
  refine z_getf dX10_nameWord_81 fX10_85 (at_Model (zsc s 3315 1)) rfl ?_
  refine z_isub dX10_nameWord_84 ?_
  refine z_bipush 16 dX10_nameWord_85 (by decide +kernel) ?_
  refine z_icmp_le 99 dX10_nameWord_87 (by decide) (fun c87 => ?_) (fun c87 => ?_)
  · have hf := zifp hf c87
    cases hf
    exact z_vret rfl dX10_nameWord_99 (Nat.zero_le _) (Nat.zero_le _) ⟨rfl, rfl⟩
  · have hf := zifn hf c87
    refine z_aload_n dX10_nameWord_90 rfl ?_
    refine z_iconst 2 dX10_nameWord_91 (by decide +kernel) ?_
    refine z_aload_n dX10_nameWord_92 rfl ?_
    refine z_getf dX10_nameWord_93 fX10_85 (at_Model (zsc s 3315 1)) rfl ?_
    obtain ⟨x9, s10, q11, hf⟩ := zbn_of hf
    refine z_cV (as := [_, _]) hok dX10_nameWord_96 kX10_91 (tX10_bad hok (d - 1) N 2 (s.1 3317)  q11) rfl (at_Model (zsc s 3315 1)) rfl rfl (by omega) (Nat.le_of_ble_eq_true rfl) (Nat.zero_le _) (Nat.zero_le _) rfl ?_
    cases hf
    exact z_vret rfl dX10_nameWord_99 (Nat.zero_le _) (Nat.zero_le _) ⟨rfl, rfl⟩
noncomputable def fX10_nameWord_J39 (N : Nat)   (s : zS) : Option (Unit × zS) := if ((s.1 3318) - (s.1 3317)) = 1 then if zga (s.1 3317) (zlen 35) = true then if (s.2.1 35 (s.1 3317).toNatClampNeg) = 46 then if ((s.1 3318) - (s.1 3317)) ≤ 16 then some ((), (zsc s 3315 7)) else zbn (fX10_bad N 2 (s.1 3317) (zsc s 3315 7)) (fun x13 s14 => some ((), s14)) else fX10_nameWord_J72 N   s else none else fX10_nameWord_J72 N   s
set_option maxHeartbeats 400000 in
set_option maxRecDepth 100000 in
theorem tX10_nameWord_J39 {g : zGl} (hok : zGok g) (d : Nat) (hd : 2 ≤ d) (N : Nat)   {mc ms n0 : Nat}  {s s' : zS} {w : Unit} (hf : fX10_nameWord_J39 N   s = some (w, s')) : zW g mX10_nameWord d mc ms n0 (zret none (zHp s')) 0 0 (zHp s) [some (.ref 33)] [] 39 := by
  unfold fX10_nameWord_J39 at hf
  refine z_aload_n dX10_nameWord_39 rfl ?_
  refine z_aload_n dX10_nameWord_40 rfl ?_
  refine z_getf dX10_nameWord_41 fX10_88 (at_Model s) rfl ?_
  refine z_aload_n dX10_nameWord_44 rfl ?_
  refine z_getf dX10_nameWord_45 fX10_85 (at_Model s) rfl ?_
  refine z_isub dX10_nameWord_48 ?_
  refine z_iconst 1 dX10_nameWord_49 (by decide +kernel) ?_
  refine z_icmp_ne 72 dX10_nameWord_50 (by decide) (fun c50 => ?_) (fun c50 => ?_)
  · have hf := zifn hf c50
    refine z_mask (ls' := [_]) [true] rfl ?_
    exact tX10_nameWord_J72 hok d (by omega) N    hf
  · have hf := zifp hf c50
    refine z_aload_n dX10_nameWord_53 rfl ?_
    refine z_getf dX10_nameWord_54 fX10_13 (at_Model s) rfl ?_
    refine z_aload_n dX10_nameWord_57 rfl ?_
    refine z_getf dX10_nameWord_58 fX10_85 (at_Model s) rfl ?_
    obtain ⟨hi12, hf⟩ := zifs hf
    refine z_iald dX10_nameWord_61 (at_arr s 35 (by decide)) (zga_in hi12) ?_
    refine z_bipush 46 dX10_nameWord_62 (by decide +kernel) ?_
    refine z_icmp_ne 72 dX10_nameWord_64 (by decide) (fun c64 => ?_) (fun c64 => ?_)
    · have hf := zifn hf c64
      refine z_mask (ls' := [_]) [true] rfl ?_
      exact tX10_nameWord_J72 hok d (by omega) N    hf
    · have hf := zifp hf c64
      refine z_bipush 7 dX10_nameWord_67 (by decide +kernel) ?_
      refine z_goto 73 dX10_nameWord_69 (by decide) ?_
      refine z_putf dX10_nameWord_73 fX10_79 wX10_15 (at_Model s) (Nat.le_of_ble_eq_true rfl) (fun _ => rfl) (fun _ => rfl) (st_Model_15 s 7) ?_
      refine z_aload_n dX10_nameWord_76 rfl ?_
      refine z_getf dX10_nameWord_77 fX10_88 (at_Model (zsc s 3315 7)) rfl ?_
      refine z_aload_n dX10_nameWord_80 rfl ?_
      refine z_getf dX10_nameWord_81 fX10_85 (at_Model (zsc s 3315 7)) rfl ?_
      refine z_isub dX10_nameWord_84 ?_
      refine z_bipush 16 dX10_nameWord_85 (by decide +kernel) ?_
      refine z_icmp_le 99 dX10_nameWord_87 (by decide) (fun c87 => ?_) (fun c87 => ?_)
      · have hf := zifp hf c87
        cases hf
        exact z_vret rfl dX10_nameWord_99 (Nat.zero_le _) (Nat.zero_le _) ⟨rfl, rfl⟩
      · have hf := zifn hf c87
        refine z_aload_n dX10_nameWord_90 rfl ?_
        refine z_iconst 2 dX10_nameWord_91 (by decide +kernel) ?_
        refine z_aload_n dX10_nameWord_92 rfl ?_
        refine z_getf dX10_nameWord_93 fX10_85 (at_Model (zsc s 3315 7)) rfl ?_
        obtain ⟨x13, s14, q15, hf⟩ := zbn_of hf
        refine z_cV (as := [_, _]) hok dX10_nameWord_96 kX10_91 (tX10_bad hok (d - 1) N 2 (s.1 3317)  q15) rfl (at_Model (zsc s 3315 7)) rfl rfl (by omega) (Nat.le_of_ble_eq_true rfl) (Nat.zero_le _) (Nat.zero_le _) rfl ?_
        cases hf
        exact z_vret rfl dX10_nameWord_99 (Nat.zero_le _) (Nat.zero_le _) ⟨rfl, rfl⟩
noncomputable def fX10_nameWord (N : Nat)  (s : zS) : Option (Unit × zS) := zbl (fX10_nameWord_L0 N  N  s) (fun x => some x) (fun s8 => fX10_nameWord_J39 N   s8)
set_option maxHeartbeats 400000 in
set_option maxRecDepth 100000 in
theorem tX10_nameWord {g : zGl} (hok : zGok g) (d : Nat) (hd : 2 ≤ d) (N : Nat)   {s s' : zS} {w : Unit} (hf : fX10_nameWord N  s = some (w, s')) : zMet g mX10_nameWord d 0 0 [.ref 33] (zHp s) (zret none (zHp s')) := by
  refine zMet.ofW (by decide +kernel) (Nat.le_of_ble_eq_true rfl) ?_
  show zW g mX10_nameWord d 0 0 51 _ 0 0 (zHp s) [some (.ref 33)] [] 0
  unfold fX10_nameWord at hf
  refine z_mask (ls' := [_]) [true] rfl ?_
  rcases zbl_of hf with ⟨lr6, le7, hf⟩ | ⟨lr6, le7, hf⟩
  · cases hf
    exact tX10_nameWord_L0 hok d (by omega) N   N  s _ le7 (fun w1 s1 hh => by cases hh; exact ⟨rfl, rfl⟩) (fun  _ hh => by cases hh)
  · obtain ⟨s8, rfl⟩ : ∃ z, z = lr6 := ⟨_, rfl⟩
    refine tX10_nameWord_L0 hok d (by omega) N   N  s _ le7 (fun w1 s1 hh => by cases hh) (fun  _ hh => ?_)
    cases hh
    refine z_mask (ls' := [_]) [true] rfl ?_
    exact tX10_nameWord_J39 hok d (by omega) N    hf

noncomputable def fX10_at (N : Nat) (p0 : Int32) (s : zS) : Option (Int32 × zS) := if (s.1 3303) ≤ p0 then some (10, s) else if zga p0 (zlen 35) = true then some (s.2.1 35 p0.toNatClampNeg, s) else none
set_option maxHeartbeats 400000 in
set_option maxRecDepth 100000 in
theorem tX10_at {g : zGl} (hok : zGok g) (d : Nat)  (N : Nat) (p0 : Int32)  {s s' : zS} {w : Int32} (hf : fX10_at N p0 s = some (w, s')) : zMet g mX10_at d 0 0 [.ref 33, .int p0] (zHp s) (zret (some (.int w)) (zHp s')) := by
  refine zMet.ofW (by decide +kernel) (Nat.le_of_ble_eq_true rfl) ?_
  show zW g mX10_at d 0 0 51 _ 0 0 (zHp s) [some (.ref 33), some (.int p0)] [] 0
  unfold fX10_at at hf
  refine z_iload_n dX10_at_0 rfl ?_
  refine z_aload_n dX10_at_1 rfl ?_
  refine z_getf dX10_at_2 fX10_69 (at_Model s) rfl ?_
  refine z_icmp_ge 17 dX10_at_5 (by decide) (fun c5 => ?_) (fun c5 => ?_)
  · have hf := zifp hf c5
    refine z_bipush 10 dX10_at_17 (by decide +kernel) ?_
    cases hf
    exact z_iret rfl dX10_at_19 (Nat.zero_le _) (Nat.zero_le _) ⟨rfl, rfl⟩
  · have hf := zifn hf c5
    refine z_aload_n dX10_at_8 rfl ?_
    refine z_getf dX10_at_9 fX10_13 (at_Model s) rfl ?_
    refine z_iload_n dX10_at_12 rfl ?_
    obtain ⟨hi1, hf⟩ := zifs hf
    refine z_iald dX10_at_13 (at_arr s 35 (by decide)) (zga_in hi1) ?_
    refine z_goto 19 dX10_at_14 (by decide) ?_
    cases hf
    exact z_iret rfl dX10_at_19 (Nat.zero_le _) (Nat.zero_le _) ⟨rfl, rfl⟩

noncomputable def fX10_digitOf (N : Nat) (p0 : Int32) (s : zS) : Option (Int32 × zS) := zbn (fX10_isDigit N p0 s) (fun x1 s2 => if x1 = 0 then if p0 < 97 then if p0 < 65 then some (99, s2) else if 70 < p0 then some (99, s2) else some (p0 - 55, s2) else if 102 < p0 then if p0 < 65 then some (99, s2) else if 70 < p0 then some (99, s2) else some (p0 - 55, s2) else some (p0 - 87, s2) else some (p0 - 48, s2))
set_option maxHeartbeats 400000 in
set_option maxRecDepth 100000 in
theorem tX10_digitOf {g : zGl} (hok : zGok g) (d : Nat) (hd : 1 ≤ d) (N : Nat) (p0 : Int32)  {s s' : zS} {w : Int32} (hf : fX10_digitOf N p0 s = some (w, s')) : zMet g mX10_digitOf d 0 0 [.int p0] (zHp s) (zret (some (.int w)) (zHp s')) := by
  refine zMet.ofW (by decide +kernel) (Nat.le_of_ble_eq_true rfl) ?_
  show zW g mX10_digitOf d 0 0 51 _ 0 0 (zHp s) [some (.int p0)] [] 0
  unfold fX10_digitOf at hf
  refine z_iload_n dX10_digitOf_0 rfl ?_
  obtain ⟨x1, s2, q3, hf⟩ := zbn_of hf
  refine z_cS (as := [_]) hok dX10_digitOf_1 kX10_76 (tX10_isDigit hok (d - 1) N p0  q3) rfl rfl (by omega) (Nat.le_of_ble_eq_true rfl) (Nat.zero_le _) (Nat.zero_le _) rfl ?_
  refine z_if_eq 12 dX10_digitOf_4 (by decide) (fun c4 => ?_) (fun c4 => ?_)
  · have hf := zifp hf c4
    refine z_iload_n dX10_digitOf_12 rfl ?_
    refine z_bipush 97 dX10_digitOf_13 (by decide +kernel) ?_
    refine z_icmp_lt 31 dX10_digitOf_15 (by decide) (fun c15 => ?_) (fun c15 => ?_)
    · have hf := zifp hf c15
      refine z_iload_n dX10_digitOf_31 rfl ?_
      refine z_bipush 65 dX10_digitOf_32 (by decide +kernel) ?_
      refine z_icmp_lt 50 dX10_digitOf_34 (by decide) (fun c34 => ?_) (fun c34 => ?_)
      · have hf := zifp hf c34
        refine z_bipush 99 dX10_digitOf_50 (by decide +kernel) ?_
        cases hf
        exact z_iret rfl dX10_digitOf_52 (Nat.zero_le _) (Nat.zero_le _) ⟨rfl, rfl⟩
      · have hf := zifn hf c34
        refine z_iload_n dX10_digitOf_37 rfl ?_
        refine z_bipush 70 dX10_digitOf_38 (by decide +kernel) ?_
        refine z_icmp_gt 50 dX10_digitOf_40 (by decide) (fun c40 => ?_) (fun c40 => ?_)
        · have hf := zifp hf c40
          refine z_bipush 99 dX10_digitOf_50 (by decide +kernel) ?_
          cases hf
          exact z_iret rfl dX10_digitOf_52 (Nat.zero_le _) (Nat.zero_le _) ⟨rfl, rfl⟩
        · have hf := zifn hf c40
          refine z_iload_n dX10_digitOf_43 rfl ?_
          refine z_bipush 55 dX10_digitOf_44 (by decide +kernel) ?_
          refine z_isub dX10_digitOf_46 ?_
          refine z_goto 52 dX10_digitOf_47 (by decide) ?_
          cases hf
          exact z_iret rfl dX10_digitOf_52 (Nat.zero_le _) (Nat.zero_le _) ⟨rfl, rfl⟩
    · have hf := zifn hf c15
      refine z_iload_n dX10_digitOf_18 rfl ?_
      refine z_bipush 102 dX10_digitOf_19 (by decide +kernel) ?_
      refine z_icmp_gt 31 dX10_digitOf_21 (by decide) (fun c21 => ?_) (fun c21 => ?_)
      · have hf := zifp hf c21
        refine z_iload_n dX10_digitOf_31 rfl ?_
        refine z_bipush 65 dX10_digitOf_32 (by decide +kernel) ?_
        refine z_icmp_lt 50 dX10_digitOf_34 (by decide) (fun c34 => ?_) (fun c34 => ?_)
        · have hf := zifp hf c34
          refine z_bipush 99 dX10_digitOf_50 (by decide +kernel) ?_
          cases hf
          exact z_iret rfl dX10_digitOf_52 (Nat.zero_le _) (Nat.zero_le _) ⟨rfl, rfl⟩
        · have hf := zifn hf c34
          refine z_iload_n dX10_digitOf_37 rfl ?_
          refine z_bipush 70 dX10_digitOf_38 (by decide +kernel) ?_
          refine z_icmp_gt 50 dX10_digitOf_40 (by decide) (fun c40 => ?_) (fun c40 => ?_)
          · have hf := zifp hf c40
            refine z_bipush 99 dX10_digitOf_50 (by decide +kernel) ?_
            cases hf
            exact z_iret rfl dX10_digitOf_52 (Nat.zero_le _) (Nat.zero_le _) ⟨rfl, rfl⟩
          · have hf := zifn hf c40
            refine z_iload_n dX10_digitOf_43 rfl ?_
            refine z_bipush 55 dX10_digitOf_44 (by decide +kernel) ?_
            refine z_isub dX10_digitOf_46 ?_
            refine z_goto 52 dX10_digitOf_47 (by decide) ?_
            cases hf
            exact z_iret rfl dX10_digitOf_52 (Nat.zero_le _) (Nat.zero_le _) ⟨rfl, rfl⟩
      · have hf := zifn hf c21
        refine z_iload_n dX10_digitOf_24 rfl ?_
        refine z_bipush 87 dX10_digitOf_25 (by decide +kernel) ?_
        refine z_isub dX10_digitOf_27 ?_
        refine z_goto 52 dX10_digitOf_28 (by decide) ?_
        cases hf
        exact z_iret rfl dX10_digitOf_52 (Nat.zero_le _) (Nat.zero_le _) ⟨rfl, rfl⟩
  · have hf := zifn hf c4
    refine z_iload_n dX10_digitOf_7 rfl ?_
    refine z_bipush 48 dX10_digitOf_8 (by decide +kernel) ?_
    refine z_isub dX10_digitOf_10 ?_
    cases hf
    exact z_iret rfl dX10_digitOf_11 (Nat.zero_le _) (Nat.zero_le _) ⟨rfl, rfl⟩

noncomputable def fX10_numberWord_L212S (N : Nat)  (rec : Int32 → Int64 → zS → Option ((Unit × zS) ⊕ (Int32 × Int64 × zS))) (v1 : Int32) (v3 : Int64) (s : zS) : Option ((Unit × zS) ⊕ (Int32 × Int64 × zS)) := zbn (fX10_at N (s.1 3318) s) (fun x6 s7 => zbn (fX10_digitOf N x6 s7) (fun x9 s10 => if v1 ≤ x9 then some (.inr (v1, v3, s10)) else if (lg_cmp v3 4294967296) < 0 then zbn (fX10_at N (s10.1 3318) s10) (fun x12 s13 => zbn (fX10_digitOf N x12 s13) (fun x15 s16 => rec v1 ((v1.toInt64 * v3) + x15.toInt64) (zsc s16 3318 ((s16.1 3318) + 1)))) else rec v1 v3 (zsc s10 3318 ((s10.1 3318) + 1))))
noncomputable def fX10_numberWord_L212 (N : Nat)  (n : Nat) : Int32 → Int64 → zS → Option ((Unit × zS) ⊕ (Int32 × Int64 × zS)) := Nat.rec (motive := fun _ => Int32 → Int64 → zS → Option ((Unit × zS) ⊕ (Int32 × Int64 × zS))) (fun _ _ _ => none) (fun _ rec => fX10_numberWord_L212S N  rec) n
set_option maxHeartbeats 400000 in
set_option maxRecDepth 100000 in
theorem tX10_numberWord_L212 {g : zGl} (hok : zGok g) (d : Nat) (hd : 2 ≤ d) (N : Nat)   {mc ms n0 : Nat} {Q : zO → List zE → Prop} (n : Nat) : ∀ (v1 : Int32) (v3 : Int64) (s : zS) (r : (Unit × zS) ⊕ (Int32 × Int64 × zS)) (hf : fX10_numberWord_L212 N  n v1 v3 s = some r) (k1 : ∀ w s', r = .inl (w, s') → Q (.inl none) (zHp s')) (k2 : ∀ (y1 : Int32) (y3 : Int64) (s' : zS), r = .inr (y1, y3, s') → zW g mX10_numberWord d mc ms n0 Q 0 0 (zHp s') [some (.ref 33), some (.int y1), none, some (.long y3), none] [] 270), zW g mX10_numberWord d mc ms n0 Q 0 0 (zHp s) [some (.ref 33), some (.int v1), none, some (.long v3), none] [] 212 := by
  induction n with
  | zero => intro v1 v3 s r hf; cases hf
  | succ n ih =>
    intro v1 v3 s r hf k1 k2
    have hrec : ∀ (v1 : Int32) (v3 : Int64) (s : zS) (r1 : (Unit × zS) ⊕ (Int32 × Int64 × zS)), fX10_numberWord_L212 N  n v1 v3 s = some r1 → r1 = r → zW g mX10_numberWord d mc ms n0 Q 0 0 (zHp s) [some (.ref 33), some (.int v1), none, some (.long v3), none] [] 212 := fun v1 v3 s r1 h e => ih v1 v3 s r1 h (by subst e; exact k1) (by subst e; exact k2)
    have hrec : ∀ (v1 : Int32) (v3 : Int64) (s : zS), fX10_numberWord_L212 N  n v1 v3 s = some r → zW g mX10_numberWord d mc ms n0 Q 0 0 (zHp s) [some (.ref 33), some (.int v1), none, some (.long v3), none] [] 212 := fun v1 v3 s h => hrec v1 v3 s r h rfl
    have hf : fX10_numberWord_L212S N  (fX10_numberWord_L212 N  n) v1 v3 s = some r := hf
    unfold fX10_numberWord_L212S at hf
    refine z_aload_n dX10_numberWord_212 rfl ?_
    refine z_aload_n dX10_numberWord_213 rfl ?_
    refine z_getf dX10_numberWord_214 fX10_88 (at_Model s) rfl ?_
    obtain ⟨x6, s7, q8, hf⟩ := zbn_of hf
    refine z_cV (as := [_]) hok dX10_numberWord_217 kX10_113 (tX10_at hok (d - 1) N (s.1 3318)  q8) rfl (at_Model s) rfl rfl (by omega) (Nat.le_of_ble_eq_true rfl) (Nat.zero_le _) (Nat.zero_le _) rfl ?_
    obtain ⟨x9, s10, q11, hf⟩ := zbn_of hf
    refine z_cS (as := [_]) hok dX10_numberWord_220 kX10_117 (tX10_digitOf hok (d - 1) (by omega) N x6  q11) rfl rfl (by omega) (Nat.le_of_ble_eq_true rfl) (Nat.zero_le _) (Nat.zero_le _) rfl ?_
    refine z_iload_n dX10_numberWord_223 rfl ?_
    refine z_icmp_ge 270 dX10_numberWord_224 (by decide) (fun c224 => ?_) (fun c224 => ?_)
    · have hf := zifp hf c224
      cases hf
      refine z_mask (ls' := [_, _, _, _, _]) [true, true, false, true, false] rfl ?_
      exact k2 _ _ _ rfl
    · have hf := zifn hf c224
      refine z_lload_n dX10_numberWord_227 rfl ?_
      refine z_ldc2 dX10_numberWord_228 lX10_120 ?_
      refine z_lcmp dX10_numberWord_231 ?_
      refine z_if_lt 239 dX10_numberWord_232 (by decide) (fun c232 => ?_) (fun c232 => ?_)
      · have hf := zifp hf c232
        refine z_iload_n dX10_numberWord_239 rfl ?_
        refine z_i2l dX10_numberWord_240 ?_
        refine z_lload_n dX10_numberWord_241 rfl ?_
        refine z_lmul dX10_numberWord_242 ?_
        refine z_aload_n dX10_numberWord_243 rfl ?_
        refine z_aload_n dX10_numberWord_244 rfl ?_
        refine z_getf dX10_numberWord_245 fX10_88 (at_Model s10) rfl ?_
        obtain ⟨x12, s13, q14, hf⟩ := zbn_of hf
        refine z_cV (as := [_]) hok dX10_numberWord_248 kX10_113 (tX10_at hok (d - 1) N (s10.1 3318)  q14) rfl (at_Model s10) rfl rfl (by omega) (Nat.le_of_ble_eq_true rfl) (Nat.zero_le _) (Nat.zero_le _) rfl ?_
        obtain ⟨x15, s16, q17, hf⟩ := zbn_of hf
        refine z_cS (as := [_]) hok dX10_numberWord_251 kX10_117 (tX10_digitOf hok (d - 1) (by omega) N x12  q17) rfl rfl (by omega) (Nat.le_of_ble_eq_true rfl) (Nat.zero_le _) (Nat.zero_le _) rfl ?_
        refine z_i2l dX10_numberWord_254 ?_
        refine z_ladd dX10_numberWord_255 ?_
        refine z_lstore_n (ls' := [_, _, _, _, _]) dX10_numberWord_256 (by decide) rfl ?_
        refine z_aload_n dX10_numberWord_257 rfl ?_
        refine z_dup dX10_numberWord_258 rfl ?_
        refine z_getf dX10_numberWord_259 fX10_88 (at_Model s16) rfl ?_
        refine z_iconst 1 dX10_numberWord_262 (by decide +kernel) ?_
        refine z_iadd dX10_numberWord_263 ?_
        refine z_putf dX10_numberWord_264 fX10_88 wX10_18 (at_Model s16) (Nat.le_of_ble_eq_true rfl) (fun _ => rfl) (fun _ => rfl) (st_Model_18 s16 ((s16.1 3318) + 1)) ?_
        refine z_goto 212 dX10_numberWord_267 (by decide) ?_
        refine z_mask (ls' := [_, _, _, _, _]) [true, true, false, true, false] rfl ?_
        exact hrec v1 ((v1.toInt64 * v3) + x15.toInt64) (zsc s16 3318 ((s16.1 3318) + 1)) hf
      · have hf := zifn hf c232
        refine z_lload_n dX10_numberWord_235 rfl ?_
        refine z_goto 256 dX10_numberWord_236 (by decide) ?_
        refine z_lstore_n (ls' := [_, _, _, _, _]) dX10_numberWord_256 (by decide) rfl ?_
        refine z_aload_n dX10_numberWord_257 rfl ?_
        refine z_dup dX10_numberWord_258 rfl ?_
        refine z_getf dX10_numberWord_259 fX10_88 (at_Model s10) rfl ?_
        refine z_iconst 1 dX10_numberWord_262 (by decide +kernel) ?_
        refine z_iadd dX10_numberWord_263 ?_
        refine z_putf dX10_numberWord_264 fX10_88 wX10_18 (at_Model s10) (Nat.le_of_ble_eq_true rfl) (fun _ => rfl) (fun _ => rfl) (st_Model_18 s10 ((s10.1 3318) + 1)) ?_
        refine z_goto 212 dX10_numberWord_267 (by decide) ?_
        refine z_mask (ls' := [_, _, _, _, _]) [true, true, false, true, false] rfl ?_
        exact hrec v1 v3 (zsc s10 3318 ((s10.1 3318) + 1)) hf
noncomputable def fX10_numberWord_J207 (N : Nat)  (v1 : Int32) (k0 : Int32) (s : zS) : Option (Unit × zS) := zbl (fX10_numberWord_L212 N  N v1 0 (zsc s 3318 k0)) (fun x => some x) (fun lq18 => match lq18 with | (y21, y22, s23) => if 0 ≤ (lg_cmp y22 4294967296) then zbn (fX10_bad N 3 (s23.1 3317) (zsc (zsc s23 3315 2) 3316 y22.toInt32)) (fun x24 s25 => some ((), s25)) else if y21 = 16 then if (s23.1 3318) = ((s23.1 3317) + 2) then zbn (fX10_bad N 3 (s23.1 3317) (zsc (zsc s23 3315 2) 3316 y22.toInt32)) (fun x27 s28 => some ((), s28)) else some ((), (zsc (zsc s23 3315 2) 3316 y22.toInt32)) else some ((), (zsc (zsc s23 3315 2) 3316 y22.toInt32)))
set_option maxHeartbeats 400000 in
set_option maxRecDepth 100000 in
theorem tX10_numberWord_J207 {g : zGl} (hok : zGok g) (d : Nat) (hd : 2 ≤ d) (N : Nat)   {mc ms n0 : Nat} (v1 : Int32) (k0 : Int32) {s s' : zS} {w : Unit} (hf : fX10_numberWord_J207 N  v1 k0 s = some (w, s')) : zW g mX10_numberWord d mc ms n0 (zret none (zHp s')) 0 0 (zHp s) [some (.ref 33), some (.int v1), none, none, none] [.int k0, .ref 33] 207 := by
  unfold fX10_numberWord_J207 at hf
  refine z_putf dX10_numberWord_207 fX10_88 wX10_18 (at_Model s) (Nat.le_of_ble_eq_true rfl) (fun _ => rfl) (fun _ => rfl) (st_Model_18 s k0) ?_
  refine z_lconst 0 dX10_numberWord_210 (by decide +kernel) ?_
  refine z_lstore_n (ls' := [_, _, _, _, _]) dX10_numberWord_211 (by decide) rfl ?_
  refine z_mask (ls' := [_, _, _, _, _]) [true, true, false, true, false] rfl ?_
  rcases zbl_of hf with ⟨lr19, le20, hf⟩ | ⟨lr19, le20, hf⟩
  · cases hf
    exact tX10_numberWord_L212 hok d (by omega) N   N v1 0 (zsc s 3318 k0) _ le20 (fun w1 s1 hh => by cases hh; exact ⟨rfl, rfl⟩) (fun _ _ _ hh => by cases hh)
  · obtain ⟨y21, y22, s23⟩ := lr19
    refine tX10_numberWord_L212 hok d (by omega) N   N v1 0 (zsc s 3318 k0) _ le20 (fun w1 s1 hh => by cases hh) (fun _ _ _ hh => ?_)
    cases hh
    refine z_aload_n dX10_numberWord_270 rfl ?_
    refine z_iconst 2 dX10_numberWord_271 (by decide +kernel) ?_
    refine z_putf dX10_numberWord_272 fX10_79 wX10_15 (at_Model s23) (Nat.le_of_ble_eq_true rfl) (fun _ => rfl) (fun _ => rfl) (st_Model_15 s23 2) ?_
    refine z_aload_n dX10_numberWord_275 rfl ?_
    refine z_lload_n dX10_numberWord_276 rfl ?_
    refine z_l2i dX10_numberWord_277 ?_
    refine z_putf dX10_numberWord_278 fX10_82 wX10_16 (at_Model (zsc s23 3315 2)) (Nat.le_of_ble_eq_true rfl) (fun _ => rfl) (fun _ => rfl) (st_Model_16 (zsc s23 3315 2) y22.toInt32) ?_
    refine z_lload_n dX10_numberWord_281 rfl ?_
    refine z_ldc2 dX10_numberWord_282 lX10_120 ?_
    refine z_lcmp dX10_numberWord_285 ?_
    refine z_if_ge 308 dX10_numberWord_286 (by decide) (fun c286 => ?_) (fun c286 => ?_)
    · have hf := zifp hf c286
      refine z_aload_n dX10_numberWord_308 rfl ?_
      refine z_iconst 3 dX10_numberWord_309 (by decide +kernel) ?_
      refine z_aload_n dX10_numberWord_310 rfl ?_
      refine z_getf dX10_numberWord_311 fX10_85 (at_Model (zsc (zsc s23 3315 2) 3316 y22.toInt32)) rfl ?_
      obtain ⟨x24, s25, q26, hf⟩ := zbn_of hf
      refine z_cV (as := [_, _]) hok dX10_numberWord_314 kX10_91 (tX10_bad hok (d - 1) N 3 (s23.1 3317)  q26) rfl (at_Model (zsc (zsc s23 3315 2) 3316 y22.toInt32)) rfl rfl (by omega) (Nat.le_of_ble_eq_true rfl) (Nat.zero_le _) (Nat.zero_le _) rfl ?_
      cases hf
      exact z_vret rfl dX10_numberWord_317 (Nat.zero_le _) (Nat.zero_le _) ⟨rfl, rfl⟩
    · have hf := zifn hf c286
      refine z_iload_n dX10_numberWord_289 rfl ?_
      refine z_bipush 16 dX10_numberWord_290 (by decide +kernel) ?_
      refine z_icmp_ne 317 dX10_numberWord_292 (by decide) (fun c292 => ?_) (fun c292 => ?_)
      · have hf := zifn hf c292
        cases hf
        exact z_vret rfl dX10_numberWord_317 (Nat.zero_le _) (Nat.zero_le _) ⟨rfl, rfl⟩
      · have hf := zifp hf c292
        refine z_aload_n dX10_numberWord_295 rfl ?_
        refine z_getf dX10_numberWord_296 fX10_88 (at_Model (zsc (zsc s23 3315 2) 3316 y22.toInt32)) rfl ?_
        refine z_aload_n dX10_numberWord_299 rfl ?_
        refine z_getf dX10_numberWord_300 fX10_85 (at_Model (zsc (zsc s23 3315 2) 3316 y22.toInt32)) rfl ?_
        refine z_iconst 2 dX10_numberWord_303 (by decide +kernel) ?_
        refine z_iadd dX10_numberWord_304 ?_
        refine z_icmp_ne 317 dX10_numberWord_305 (by decide) (fun c305 => ?_) (fun c305 => ?_)
        · have hf := zifn hf c305
          cases hf
          exact z_vret rfl dX10_numberWord_317 (Nat.zero_le _) (Nat.zero_le _) ⟨rfl, rfl⟩
        · have hf := zifp hf c305
          refine z_aload_n dX10_numberWord_308 rfl ?_
          refine z_iconst 3 dX10_numberWord_309 (by decide +kernel) ?_
          refine z_aload_n dX10_numberWord_310 rfl ?_
          refine z_getf dX10_numberWord_311 fX10_85 (at_Model (zsc (zsc s23 3315 2) 3316 y22.toInt32)) rfl ?_
          obtain ⟨x27, s28, q29, hf⟩ := zbn_of hf
          refine z_cV (as := [_, _]) hok dX10_numberWord_314 kX10_91 (tX10_bad hok (d - 1) N 3 (s23.1 3317)  q29) rfl (at_Model (zsc (zsc s23 3315 2) 3316 y22.toInt32)) rfl rfl (by omega) (Nat.le_of_ble_eq_true rfl) (Nat.zero_le _) (Nat.zero_le _) rfl ?_
          cases hf
          exact z_vret rfl dX10_numberWord_317 (Nat.zero_le _) (Nat.zero_le _) ⟨rfl, rfl⟩
noncomputable def fX10_numberWord_J187 (N : Nat)  (v1 : Int32) (s : zS) : Option (Unit × zS) := if v1 = 10 then fX10_numberWord_J207 N  v1 (s.1 3317) s else fX10_numberWord_J207 N  v1 ((s.1 3317) + 2) s
set_option maxHeartbeats 400000 in
set_option maxRecDepth 100000 in
theorem tX10_numberWord_J187 {g : zGl} (hok : zGok g) (d : Nat) (hd : 2 ≤ d) (N : Nat)   {mc ms n0 : Nat} (v1 : Int32) {s s' : zS} {w : Unit} (hf : fX10_numberWord_J187 N  v1 s = some (w, s')) : zW g mX10_numberWord d mc ms n0 (zret none (zHp s')) 0 0 (zHp s) [some (.ref 33), some (.int v1), none, none, none] [] 187 := by
  unfold fX10_numberWord_J187 at hf
  refine z_aload_n dX10_numberWord_187 rfl ?_
  refine z_iload_n dX10_numberWord_188 rfl ?_
  refine z_bipush 10 dX10_numberWord_189 (by decide +kernel) ?_
  refine z_icmp_ne 201 dX10_numberWord_191 (by decide) (fun c191 => ?_) (fun c191 => ?_)
  · have hf := zifn hf c191
    refine z_aload_n dX10_numberWord_201 rfl ?_
    refine z_getf dX10_numberWord_202 fX10_85 (at_Model s) rfl ?_
    refine z_iconst 2 dX10_numberWord_205 (by decide +kernel) ?_
    refine z_iadd dX10_numberWord_206 ?_
    refine z_mask (ls' := [_, _, _, _, _]) [true, true, false, false, false] rfl ?_
    exact tX10_numberWord_J207 hok d (by omega) N   v1 ((s.1 3317) + 2) hf
  · have hf := zifp hf c191
    refine z_aload_n dX10_numberWord_194 rfl ?_
    refine z_getf dX10_numberWord_195 fX10_85 (at_Model s) rfl ?_
    refine z_goto 207 dX10_numberWord_198 (by decide) ?_
    refine z_mask (ls' := [_, _, _, _, _]) [true, true, false, false, false] rfl ?_
    exact tX10_numberWord_J207 hok d (by omega) N   v1 (s.1 3317) hf
noncomputable def fX10_numberWord_J125 (N : Nat)  (v1 : Int32) (v2 : Int32) (s : zS) : Option (Unit × zS) := zbn (fX10_at N ((s.1 3317) + 2) s) (fun x30 s31 => zbn (fX10_isInName N x30 s31) (fun x33 s34 => if x33 = 0 then if zga (s34.1 3317) (zlen 35) = true then if v2 = 102 then some ((), (zsc (zsc (zsc s34 3315 3) 3316 ((2 * ((s34.2.1 35 (s34.1 3317).toNatClampNeg) - 48)) + 1)) 3318 ((s34.1 3317) + 2))) else some ((), (zsc (zsc (zsc s34 3315 3) 3316 ((2 * ((s34.2.1 35 (s34.1 3317).toNatClampNeg) - 48)) + 0)) 3318 ((s34.1 3317) + 2))) else none else fX10_numberWord_J187 N  v1 s34))
set_option maxHeartbeats 400000 in
set_option maxRecDepth 100000 in
theorem tX10_numberWord_J125 {g : zGl} (hok : zGok g) (d : Nat) (hd : 2 ≤ d) (N : Nat)   {mc ms n0 : Nat} (v1 : Int32) (v2 : Int32) {s s' : zS} {w : Unit} (hf : fX10_numberWord_J125 N  v1 v2 s = some (w, s')) : zW g mX10_numberWord d mc ms n0 (zret none (zHp s')) 0 0 (zHp s) [some (.ref 33), some (.int v1), some (.int v2), none, none] [] 125 := by
  unfold fX10_numberWord_J125 at hf
  refine z_aload_n dX10_numberWord_125 rfl ?_
  refine z_aload_n dX10_numberWord_126 rfl ?_
  refine z_getf dX10_numberWord_127 fX10_85 (at_Model s) rfl ?_
  refine z_iconst 2 dX10_numberWord_130 (by decide +kernel) ?_
  refine z_iadd dX10_numberWord_131 ?_
  obtain ⟨x30, s31, q32, hf⟩ := zbn_of hf
  refine z_cV (as := [_]) hok dX10_numberWord_132 kX10_113 (tX10_at hok (d - 1) N ((s.1 3317) + 2)  q32) rfl (at_Model s) rfl rfl (by omega) (Nat.le_of_ble_eq_true rfl) (Nat.zero_le _) (Nat.zero_le _) rfl ?_
  obtain ⟨x33, s34, q35, hf⟩ := zbn_of hf
  refine z_cS (as := [_]) hok dX10_numberWord_135 kX10_110 (tX10_isInName hok (d - 1) (by omega) N x30  q35) rfl rfl (by omega) (Nat.le_of_ble_eq_true rfl) (Nat.zero_le _) (Nat.zero_le _) rfl ?_
  refine z_if_ne 187 dX10_numberWord_138 (by decide) (fun c138 => ?_) (fun c138 => ?_)
  · have hf := zifn hf c138
    refine z_mask (ls' := [_, _, _, _, _]) [true, true, false, false, false] rfl ?_
    exact tX10_numberWord_J187 hok d (by omega) N   v1 hf
  · have hf := zifp hf c138
    refine z_aload_n dX10_numberWord_141 rfl ?_
    refine z_iconst 3 dX10_numberWord_142 (by decide +kernel) ?_
    refine z_putf dX10_numberWord_143 fX10_79 wX10_15 (at_Model s34) (Nat.le_of_ble_eq_true rfl) (fun _ => rfl) (fun _ => rfl) (st_Model_15 s34 3) ?_
    refine z_aload_n dX10_numberWord_146 rfl ?_
    refine z_iconst 2 dX10_numberWord_147 (by decide +kernel) ?_
    refine z_aload_n dX10_numberWord_148 rfl ?_
    refine z_getf dX10_numberWord_149 fX10_13 (at_Model (zsc s34 3315 3)) rfl ?_
    refine z_aload_n dX10_numberWord_152 rfl ?_
    refine z_getf dX10_numberWord_153 fX10_85 (at_Model (zsc s34 3315 3)) rfl ?_
    obtain ⟨hi36, hf⟩ := zifs hf
    refine z_iald dX10_numberWord_156 (at_arr (zsc s34 3315 3) 35 (by decide)) (zga_in hi36) ?_
    refine z_bipush 48 dX10_numberWord_157 (by decide +kernel) ?_
    refine z_isub dX10_numberWord_159 ?_
    refine z_imul dX10_numberWord_160 ?_
    refine z_iload_n dX10_numberWord_161 rfl ?_
    refine z_bipush 102 dX10_numberWord_162 (by decide +kernel) ?_
    refine z_icmp_ne 171 dX10_numberWord_164 (by decide) (fun c164 => ?_) (fun c164 => ?_)
    · have hf := zifn hf c164
      refine z_iconst 0 dX10_numberWord_171 (by decide +kernel) ?_
      refine z_iadd dX10_numberWord_172 ?_
      refine z_putf dX10_numberWord_173 fX10_82 wX10_16 (at_Model (zsc s34 3315 3)) (Nat.le_of_ble_eq_true rfl) (fun _ => rfl) (fun _ => rfl) (st_Model_16 (zsc s34 3315 3) ((2 * ((s34.2.1 35 (s34.1 3317).toNatClampNeg) - 48)) + 0)) ?_
      refine z_aload_n dX10_numberWord_176 rfl ?_
      refine z_aload_n dX10_numberWord_177 rfl ?_
      refine z_getf dX10_numberWord_178 fX10_85 (at_Model (zsc (zsc s34 3315 3) 3316 ((2 * ((s34.2.1 35 (s34.1 3317).toNatClampNeg) - 48)) + 0))) rfl ?_
      refine z_iconst 2 dX10_numberWord_181 (by decide +kernel) ?_
      refine z_iadd dX10_numberWord_182 ?_
      refine z_putf dX10_numberWord_183 fX10_88 wX10_18 (at_Model (zsc (zsc s34 3315 3) 3316 ((2 * ((s34.2.1 35 (s34.1 3317).toNatClampNeg) - 48)) + 0))) (Nat.le_of_ble_eq_true rfl) (fun _ => rfl) (fun _ => rfl) (st_Model_18 (zsc (zsc s34 3315 3) 3316 ((2 * ((s34.2.1 35 (s34.1 3317).toNatClampNeg) - 48)) + 0)) ((s34.1 3317) + 2)) ?_
      cases hf
      exact z_vret rfl dX10_numberWord_186 (Nat.zero_le _) (Nat.zero_le _) ⟨rfl, rfl⟩
    · have hf := zifp hf c164
      refine z_iconst 1 dX10_numberWord_167 (by decide +kernel) ?_
      refine z_goto 172 dX10_numberWord_168 (by decide) ?_
      refine z_iadd dX10_numberWord_172 ?_
      refine z_putf dX10_numberWord_173 fX10_82 wX10_16 (at_Model (zsc s34 3315 3)) (Nat.le_of_ble_eq_true rfl) (fun _ => rfl) (fun _ => rfl) (st_Model_16 (zsc s34 3315 3) ((2 * ((s34.2.1 35 (s34.1 3317).toNatClampNeg) - 48)) + 1)) ?_
      refine z_aload_n dX10_numberWord_176 rfl ?_
      refine z_aload_n dX10_numberWord_177 rfl ?_
      refine z_getf dX10_numberWord_178 fX10_85 (at_Model (zsc (zsc s34 3315 3) 3316 ((2 * ((s34.2.1 35 (s34.1 3317).toNatClampNeg) - 48)) + 1))) rfl ?_
      refine z_iconst 2 dX10_numberWord_181 (by decide +kernel) ?_
      refine z_iadd dX10_numberWord_182 ?_
      refine z_putf dX10_numberWord_183 fX10_88 wX10_18 (at_Model (zsc (zsc s34 3315 3) 3316 ((2 * ((s34.2.1 35 (s34.1 3317).toNatClampNeg) - 48)) + 1))) (Nat.le_of_ble_eq_true rfl) (fun _ => rfl) (fun _ => rfl) (st_Model_18 (zsc (zsc s34 3315 3) 3316 ((2 * ((s34.2.1 35 (s34.1 3317).toNatClampNeg) - 48)) + 1)) ((s34.1 3317) + 2)) ?_
      cases hf
      exact z_vret rfl dX10_numberWord_186 (Nat.zero_le _) (Nat.zero_le _) ⟨rfl, rfl⟩
noncomputable def fX10_numberWord_J96 (N : Nat)  (v1 : Int32) (s : zS) : Option (Unit × zS) := zbn (fX10_at N ((s.1 3317) + 1) s) (fun x3 s4 => if v1 = 10 then if x3 = 98 then fX10_numberWord_J125 N  v1 x3 s4 else if x3 = 102 then fX10_numberWord_J125 N  v1 x3 s4 else fX10_numberWord_J187 N  v1 s4 else fX10_numberWord_J187 N  v1 s4)
set_option maxHeartbeats 400000 in
set_option maxRecDepth 100000 in
theorem tX10_numberWord_J96 {g : zGl} (hok : zGok g) (d : Nat) (hd : 2 ≤ d) (N : Nat)   {mc ms n0 : Nat} (v1 : Int32) {s s' : zS} {w : Unit} (hf : fX10_numberWord_J96 N  v1 s = some (w, s')) : zW g mX10_numberWord d mc ms n0 (zret none (zHp s')) 0 0 (zHp s) [some (.ref 33), some (.int v1), none, none, none] [] 96 := by
  unfold fX10_numberWord_J96 at hf
  refine z_aload_n dX10_numberWord_96 rfl ?_
  refine z_aload_n dX10_numberWord_97 rfl ?_
  refine z_getf dX10_numberWord_98 fX10_85 (at_Model s) rfl ?_
  refine z_iconst 1 dX10_numberWord_101 (by decide +kernel) ?_
  refine z_iadd dX10_numberWord_102 ?_
  obtain ⟨x3, s4, q5, hf⟩ := zbn_of hf
  refine z_cV (as := [_]) hok dX10_numberWord_103 kX10_113 (tX10_at hok (d - 1) N ((s.1 3317) + 1)  q5) rfl (at_Model s) rfl rfl (by omega) (Nat.le_of_ble_eq_true rfl) (Nat.zero_le _) (Nat.zero_le _) rfl ?_
  refine z_istore_n (ls' := [_, _, _, _, _]) dX10_numberWord_106 (by decide) rfl ?_
  refine z_iload_n dX10_numberWord_107 rfl ?_
  refine z_bipush 10 dX10_numberWord_108 (by decide +kernel) ?_
  refine z_icmp_ne 187 dX10_numberWord_110 (by decide) (fun c110 => ?_) (fun c110 => ?_)
  · have hf := zifn hf c110
    refine z_mask (ls' := [_, _, _, _, _]) [true, true, false, false, false] rfl ?_
    exact tX10_numberWord_J187 hok d (by omega) N   v1 hf
  · have hf := zifp hf c110
    refine z_iload_n dX10_numberWord_113 rfl ?_
    refine z_bipush 98 dX10_numberWord_114 (by decide +kernel) ?_
    refine z_icmp_eq 125 dX10_numberWord_116 (by decide) (fun c116 => ?_) (fun c116 => ?_)
    · have hf := zifp hf c116
      refine z_mask (ls' := [_, _, _, _, _]) [true, true, true, false, false] rfl ?_
      exact tX10_numberWord_J125 hok d (by omega) N   v1 x3 hf
    · have hf := zifn hf c116
      refine z_iload_n dX10_numberWord_119 rfl ?_
      refine z_bipush 102 dX10_numberWord_120 (by decide +kernel) ?_
      refine z_icmp_ne 187 dX10_numberWord_122 (by decide) (fun c122 => ?_) (fun c122 => ?_)
      · have hf := zifn hf c122
        refine z_mask (ls' := [_, _, _, _, _]) [true, true, false, false, false] rfl ?_
        exact tX10_numberWord_J187 hok d (by omega) N   v1 hf
      · have hf := zifp hf c122
        refine z_mask (ls' := [_, _, _, _, _]) [true, true, true, false, false] rfl ?_
        exact tX10_numberWord_J125 hok d (by omega) N   v1 x3 hf
noncomputable def fX10_numberWord_J94 (N : Nat)   (s : zS) : Option (Unit × zS) := fX10_numberWord_J96 N  2 s
set_option maxHeartbeats 400000 in
set_option maxRecDepth 100000 in
theorem tX10_numberWord_J94 {g : zGl} (hok : zGok g) (d : Nat) (hd : 2 ≤ d) (N : Nat)   {mc ms n0 : Nat}  {s s' : zS} {w : Unit} (hf : fX10_numberWord_J94 N   s = some (w, s')) : zW g mX10_numberWord d mc ms n0 (zret none (zHp s')) 0 0 (zHp s) [some (.ref 33), none, none, none, none] [] 94 := by
  unfold fX10_numberWord_J94 at hf
  refine z_iconst 2 dX10_numberWord_94 (by decide +kernel) ?_
  refine z_istore_n (ls' := [_, _, _, _, _]) dX10_numberWord_95 (by decide) rfl ?_
  refine z_mask (ls' := [_, _, _, _, _]) [true, true, false, false, false] rfl ?_
  exact tX10_numberWord_J96 hok d (by omega) N   2 hf
noncomputable def fX10_numberWord_J35 (N : Nat)  (v1 : Int32) (s : zS) : Option (Unit × zS) := if zga (s.1 3317) (zlen 35) = true then if (s.2.1 35 (s.1 3317).toNatClampNeg) = 48 then zbn (fX10_at N ((s.1 3317) + 1) s) (fun x37 s38 => if x37 = 98 then zbn (fX10_at N ((s38.1 3317) + 2) s38) (fun x40 s41 => if x40 = 48 then fX10_numberWord_J94 N   s41 else zbn (fX10_at N ((s41.1 3317) + 2) s41) (fun x43 s44 => if x43 = 49 then fX10_numberWord_J94 N   s44 else fX10_numberWord_J96 N  v1 s44)) else fX10_numberWord_J96 N  v1 s38) else fX10_numberWord_J96 N  v1 s else none
set_option maxHeartbeats 400000 in
set_option maxRecDepth 100000 in
theorem tX10_numberWord_J35 {g : zGl} (hok : zGok g) (d : Nat) (hd : 2 ≤ d) (N : Nat)   {mc ms n0 : Nat} (v1 : Int32) {s s' : zS} {w : Unit} (hf : fX10_numberWord_J35 N  v1 s = some (w, s')) : zW g mX10_numberWord d mc ms n0 (zret none (zHp s')) 0 0 (zHp s) [some (.ref 33), some (.int v1), none, none, none] [] 35 := by
  unfold fX10_numberWord_J35 at hf
  refine z_aload_n dX10_numberWord_35 rfl ?_
  refine z_getf dX10_numberWord_36 fX10_13 (at_Model s) rfl ?_
  refine z_aload_n dX10_numberWord_39 rfl ?_
  refine z_getf dX10_numberWord_40 fX10_85 (at_Model s) rfl ?_
  obtain ⟨hi2, hf⟩ := zifs hf
  refine z_iald dX10_numberWord_43 (at_arr s 35 (by decide)) (zga_in hi2) ?_
  refine z_bipush 48 dX10_numberWord_44 (by decide +kernel) ?_
  refine z_icmp_ne 96 dX10_numberWord_46 (by decide) (fun c46 => ?_) (fun c46 => ?_)
  · have hf := zifn hf c46
    refine z_mask (ls' := [_, _, _, _, _]) [true, true, false, false, false] rfl ?_
    exact tX10_numberWord_J96 hok d (by omega) N   v1 hf
  · have hf := zifp hf c46
    refine z_aload_n dX10_numberWord_49 rfl ?_
    refine z_aload_n dX10_numberWord_50 rfl ?_
    refine z_getf dX10_numberWord_51 fX10_85 (at_Model s) rfl ?_
    refine z_iconst 1 dX10_numberWord_54 (by decide +kernel) ?_
    refine z_iadd dX10_numberWord_55 ?_
    obtain ⟨x37, s38, q39, hf⟩ := zbn_of hf
    refine z_cV (as := [_]) hok dX10_numberWord_56 kX10_113 (tX10_at hok (d - 1) N ((s.1 3317) + 1)  q39) rfl (at_Model s) rfl rfl (by omega) (Nat.le_of_ble_eq_true rfl) (Nat.zero_le _) (Nat.zero_le _) rfl ?_
    refine z_bipush 98 dX10_numberWord_59 (by decide +kernel) ?_
    refine z_icmp_ne 96 dX10_numberWord_61 (by decide) (fun c61 => ?_) (fun c61 => ?_)
    · have hf := zifn hf c61
      refine z_mask (ls' := [_, _, _, _, _]) [true, true, false, false, false] rfl ?_
      exact tX10_numberWord_J96 hok d (by omega) N   v1 hf
    · have hf := zifp hf c61
      refine z_aload_n dX10_numberWord_64 rfl ?_
      refine z_aload_n dX10_numberWord_65 rfl ?_
      refine z_getf dX10_numberWord_66 fX10_85 (at_Model s38) rfl ?_
      refine z_iconst 2 dX10_numberWord_69 (by decide +kernel) ?_
      refine z_iadd dX10_numberWord_70 ?_
      obtain ⟨x40, s41, q42, hf⟩ := zbn_of hf
      refine z_cV (as := [_]) hok dX10_numberWord_71 kX10_113 (tX10_at hok (d - 1) N ((s38.1 3317) + 2)  q42) rfl (at_Model s38) rfl rfl (by omega) (Nat.le_of_ble_eq_true rfl) (Nat.zero_le _) (Nat.zero_le _) rfl ?_
      refine z_bipush 48 dX10_numberWord_74 (by decide +kernel) ?_
      refine z_icmp_eq 94 dX10_numberWord_76 (by decide) (fun c76 => ?_) (fun c76 => ?_)
      · have hf := zifp hf c76
        refine z_mask (ls' := [_, _, _, _, _]) [true, false, false, false, false] rfl ?_
        exact tX10_numberWord_J94 hok d (by omega) N    hf
      · have hf := zifn hf c76
        refine z_aload_n dX10_numberWord_79 rfl ?_
        refine z_aload_n dX10_numberWord_80 rfl ?_
        refine z_getf dX10_numberWord_81 fX10_85 (at_Model s41) rfl ?_
        refine z_iconst 2 dX10_numberWord_84 (by decide +kernel) ?_
        refine z_iadd dX10_numberWord_85 ?_
        obtain ⟨x43, s44, q45, hf⟩ := zbn_of hf
        refine z_cV (as := [_]) hok dX10_numberWord_86 kX10_113 (tX10_at hok (d - 1) N ((s41.1 3317) + 2)  q45) rfl (at_Model s41) rfl rfl (by omega) (Nat.le_of_ble_eq_true rfl) (Nat.zero_le _) (Nat.zero_le _) rfl ?_
        refine z_bipush 49 dX10_numberWord_89 (by decide +kernel) ?_
        refine z_icmp_ne 96 dX10_numberWord_91 (by decide) (fun c91 => ?_) (fun c91 => ?_)
        · have hf := zifn hf c91
          refine z_mask (ls' := [_, _, _, _, _]) [true, true, false, false, false] rfl ?_
          exact tX10_numberWord_J96 hok d (by omega) N   v1 hf
        · have hf := zifp hf c91
          refine z_mask (ls' := [_, _, _, _, _]) [true, false, false, false, false] rfl ?_
          exact tX10_numberWord_J94 hok d (by omega) N    hf
noncomputable def fX10_numberWord (N : Nat)  (s : zS) : Option (Unit × zS) := if zga (s.1 3317) (zlen 35) = true then if (s.2.1 35 (s.1 3317).toNatClampNeg) = 48 then zbn (fX10_at N ((s.1 3317) + 1) s) (fun x46 s47 => if x46 = 120 then fX10_numberWord_J35 N  16 s47 else fX10_numberWord_J35 N  10 s47) else fX10_numberWord_J35 N  10 s else none
set_option maxHeartbeats 400000 in
set_option maxRecDepth 100000 in
theorem tX10_numberWord {g : zGl} (hok : zGok g) (d : Nat) (hd : 2 ≤ d) (N : Nat)   {s s' : zS} {w : Unit} (hf : fX10_numberWord N  s = some (w, s')) : zMet g mX10_numberWord d 0 0 [.ref 33] (zHp s) (zret none (zHp s')) := by
  refine zMet.ofW (by decide +kernel) (Nat.le_of_ble_eq_true rfl) ?_
  show zW g mX10_numberWord d 0 0 51 _ 0 0 (zHp s) [some (.ref 33), none, none, none, none] [] 0
  unfold fX10_numberWord at hf
  refine z_bipush 10 dX10_numberWord_0 (by decide +kernel) ?_
  refine z_istore_n (ls' := [_, _, _, _, _]) dX10_numberWord_2 (by decide) rfl ?_
  refine z_aload_n dX10_numberWord_3 rfl ?_
  refine z_getf dX10_numberWord_4 fX10_13 (at_Model s) rfl ?_
  refine z_aload_n dX10_numberWord_7 rfl ?_
  refine z_getf dX10_numberWord_8 fX10_85 (at_Model s) rfl ?_
  obtain ⟨hi1, hf⟩ := zifs hf
  refine z_iald dX10_numberWord_11 (at_arr s 35 (by decide)) (zga_in hi1) ?_
  refine z_bipush 48 dX10_numberWord_12 (by decide +kernel) ?_
  refine z_icmp_ne 35 dX10_numberWord_14 (by decide) (fun c14 => ?_) (fun c14 => ?_)
  · have hf := zifn hf c14
    refine z_mask (ls' := [_, _, _, _, _]) [true, true, false, false, false] rfl ?_
    exact tX10_numberWord_J35 hok d (by omega) N   10 hf
  · have hf := zifp hf c14
    refine z_aload_n dX10_numberWord_17 rfl ?_
    refine z_aload_n dX10_numberWord_18 rfl ?_
    refine z_getf dX10_numberWord_19 fX10_85 (at_Model s) rfl ?_
    refine z_iconst 1 dX10_numberWord_22 (by decide +kernel) ?_
    refine z_iadd dX10_numberWord_23 ?_
    obtain ⟨x46, s47, q48, hf⟩ := zbn_of hf
    refine z_cV (as := [_]) hok dX10_numberWord_24 kX10_113 (tX10_at hok (d - 1) N ((s.1 3317) + 1)  q48) rfl (at_Model s) rfl rfl (by omega) (Nat.le_of_ble_eq_true rfl) (Nat.zero_le _) (Nat.zero_le _) rfl ?_
    refine z_bipush 120 dX10_numberWord_27 (by decide +kernel) ?_
    refine z_icmp_ne 35 dX10_numberWord_29 (by decide) (fun c29 => ?_) (fun c29 => ?_)
    · have hf := zifn hf c29
      refine z_mask (ls' := [_, _, _, _, _]) [true, true, false, false, false] rfl ?_
      exact tX10_numberWord_J35 hok d (by omega) N   10 hf
    · have hf := zifp hf c29
      refine z_bipush 16 dX10_numberWord_32 (by decide +kernel) ?_
      refine z_istore_n (ls' := [_, _, _, _, _]) dX10_numberWord_34 (by decide) rfl ?_
      refine z_mask (ls' := [_, _, _, _, _]) [true, true, false, false, false] rfl ?_
      exact tX10_numberWord_J35 hok d (by omega) N   16 hf

