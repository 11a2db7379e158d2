noncomputable def fX10_sayMark_J62 (N : Nat) (p0 : Int32) (k0 : Int32) (s : zS) : Option (Unit × zS) := zbn (fX10_say N k0 s) (fun x5 s6 => if (p0 - p0 / 2 * 2) = 1 then zbn (fX10_say N 105 s6) (fun x15 s16 => zbn (fX10_say N 40 s16) (fun x18 s19 => some ((), s19))) else zbn (fX10_say N 111 s6) (fun x9 s10 => zbn (fX10_say N 40 s10) (fun x12 s13 => some ((), s13))))
set_option maxHeartbeats 400000 in
set_option maxRecDepth 100000 in
theorem tX10_sayMark_J62 {g : zGl} (hok : zGok g) (d : Nat) (hd : 1 ≤ d) (N : Nat) (p0 : Int32)  {mc ms n0 : Nat} (k0 : Int32) {s s' : zS} {w : Unit} (hf : fX10_sayMark_J62 N p0 k0 s = some (w, s')) : zW g mX10_sayMark d mc ms n0 (zret none (zHp s')) 0 0 (zHp s) [some (.ref 33), some (.int p0)] [.int k0, .ref 33] 62 := by
  unfold fX10_sayMark_J62 at hf
  obtain ⟨x5, s6, q7, hf⟩ := zbn_of hf
  refine z_cV (as := [_]) hok dX10_sayMark_62 kX10_256 (tX10_say hok (d - 1) N k0  q7) rfl (at_Model s) rfl rfl (by omega) (Nat.le_of_ble_eq_true rfl) (Nat.zero_le _) (Nat.zero_le _) rfl ?_
  refine z_aload_n dX10_sayMark_65 rfl ?_
  refine z_iload_n dX10_sayMark_66 rfl ?_
  refine z_iconst 2 dX10_sayMark_67 (by decide +kernel) ?_
  refine z_irem dX10_sayMark_68 (by decide) ?_
  refine z_iconst 1 dX10_sayMark_69 (by decide +kernel) ?_
  refine z_icmp_ne 78 dX10_sayMark_70 (by decide) (fun c70 => ?_) (fun c70 => ?_)
  · have hf := zifn hf c70
    refine z_bipush 111 dX10_sayMark_78 (by decide +kernel) ?_
    obtain ⟨x9, s10, q11, hf⟩ := zbn_of hf
    refine z_cV (as := [_]) hok dX10_sayMark_80 kX10_256 (tX10_say hok (d - 1) N 111  q11) rfl (at_Model s6) rfl rfl (by omega) (Nat.le_of_ble_eq_true rfl) (Nat.zero_le _) (Nat.zero_le _) rfl ?_
    refine z_aload_n dX10_sayMark_83 rfl ?_
    refine z_bipush 40 dX10_sayMark_84 (by decide +kernel) ?_
    obtain ⟨x12, s13, q14, hf⟩ := zbn_of hf
    refine z_cV (as := [_]) hok dX10_sayMark_86 kX10_256 (tX10_say hok (d - 1) N 40  q14) rfl (at_Model s10) rfl rfl (by omega) (Nat.le_of_ble_eq_true rfl) (Nat.zero_le _) (Nat.zero_le _) rfl ?_
    cases hf
    exact z_vret rfl dX10_sayMark_89 (Nat.zero_le _) (Nat.zero_le _) ⟨rfl, rfl⟩
  · have hf := zifp hf c70
    refine z_bipush 105 dX10_sayMark_73 (by decide +kernel) ?_
    refine z_goto 80 dX10_sayMark_75 (by decide) ?_
    obtain ⟨x15, s16, q17, hf⟩ := zbn_of hf
    refine z_cV (as := [_]) hok dX10_sayMark_80 kX10_256 (tX10_say hok (d - 1) N 105  q17) rfl (at_Model s6) rfl rfl (by omega) (Nat.le_of_ble_eq_true rfl) (Nat.zero_le _) (Nat.zero_le _) rfl ?_
    refine z_aload_n dX10_sayMark_83 rfl ?_
    refine z_bipush 40 dX10_sayMark_84 (by decide +kernel) ?_
    obtain ⟨x18, s19, q20, hf⟩ := zbn_of hf
    refine z_cV (as := [_]) hok dX10_sayMark_86 kX10_256 (tX10_say hok (d - 1) N 40  q20) rfl (at_Model s16) rfl rfl (by omega) (Nat.le_of_ble_eq_true rfl) (Nat.zero_le _) (Nat.zero_le _) rfl ?_
    cases hf
    exact z_vret rfl dX10_sayMark_89 (Nat.zero_le _) (Nat.zero_le _) ⟨rfl, rfl⟩
noncomputable def fX10_sayMark_J47 (N : Nat) (p0 : Int32)  (s : zS) : Option (Unit × zS) := if (p0 - p0 / 2 * 2) = 1 then fX10_sayMark_J62 N p0 104 s else fX10_sayMark_J62 N p0 108 s
set_option maxHeartbeats 400000 in
set_option maxRecDepth 100000 in
theorem tX10_sayMark_J47 {g : zGl} (hok : zGok g) (d : Nat) (hd : 1 ≤ d) (N : Nat) (p0 : Int32)  {mc ms n0 : Nat}  {s s' : zS} {w : Unit} (hf : fX10_sayMark_J47 N p0  s = some (w, s')) : zW g mX10_sayMark d mc ms n0 (zret none (zHp s')) 0 0 (zHp s) [some (.ref 33), some (.int p0)] [] 47 := by
  unfold fX10_sayMark_J47 at hf
  refine z_aload_n dX10_sayMark_47 rfl ?_
  refine z_iload_n dX10_sayMark_48 rfl ?_
  refine z_iconst 2 dX10_sayMark_49 (by decide +kernel) ?_
  refine z_irem dX10_sayMark_50 (by decide) ?_
  refine z_iconst 1 dX10_sayMark_51 (by decide +kernel) ?_
  refine z_icmp_ne 60 dX10_sayMark_52 (by decide) (fun c52 => ?_) (fun c52 => ?_)
  · have hf := zifn hf c52
    refine z_bipush 108 dX10_sayMark_60 (by decide +kernel) ?_
    refine z_mask (ls' := [_, _]) [true, true] rfl ?_
    exact tX10_sayMark_J62 hok d (by omega) N p0  108 hf
  · have hf := zifp hf c52
    refine z_bipush 104 dX10_sayMark_55 (by decide +kernel) ?_
    refine z_goto 62 dX10_sayMark_57 (by decide) ?_
    refine z_mask (ls' := [_, _]) [true, true] rfl ?_
    exact tX10_sayMark_J62 hok d (by omega) N p0  104 hf
noncomputable def fX10_sayMark (N : Nat) (p0 : Int32) (s : zS) : Option (Unit × zS) := zbn (fX10_say N 37 s) (fun x1 s2 => if p0 ≤ 2 then fX10_sayMark_J47 N p0  s2 else zbn (fX10_say N 112 s2) (fun x21 s22 => zbn (fX10_say N 99 s22) (fun x24 s25 => zbn (fX10_say N 114 s25) (fun x27 s28 => zbn (fX10_say N 101 s28) (fun x30 s31 => zbn (fX10_say N 108 s31) (fun x33 s34 => zbn (fX10_say N 95 s34) (fun x36 s37 => fX10_sayMark_J47 N p0  s37)))))))
set_option maxHeartbeats 400000 in
set_option maxRecDepth 100000 in
theorem tX10_sayMark {g : zGl} (hok : zGok g) (d : Nat) (hd : 1 ≤ d) (N : Nat) (p0 : Int32)  {s s' : zS} {w : Unit} (hf : fX10_sayMark N p0 s = some (w, s')) : zMet g mX10_sayMark d 0 0 [.ref 33, .int p0] (zHp s) (zret none (zHp s')) := by
  refine zMet.ofW (by decide +kernel) (Nat.le_of_ble_eq_true rfl) ?_
  show zW g mX10_sayMark d 0 0 51 _ 0 0 (zHp s) [some (.ref 33), some (.int p0)] [] 0
  unfold fX10_sayMark at hf
  refine z_aload_n dX10_sayMark_0 rfl ?_
  refine z_bipush 37 dX10_sayMark_1 (by decide +kernel) ?_
  obtain ⟨x1, s2, q3, hf⟩ := zbn_of hf
  refine z_cV (as := [_]) hok dX10_sayMark_3 kX10_256 (tX10_say hok (d - 1) N 37  q3) rfl (at_Model s) rfl rfl (by omega) (Nat.le_of_ble_eq_true rfl) (Nat.zero_le _) (Nat.zero_le _) rfl ?_
  refine z_iload_n dX10_sayMark_6 rfl ?_
  refine z_iconst 2 dX10_sayMark_7 (by decide +kernel) ?_
  refine z_icmp_le 47 dX10_sayMark_8 (by decide) (fun c8 => ?_) (fun c8 => ?_)
  · have hf := zifp hf c8
    refine z_mask (ls' := [_, _]) [true, true] rfl ?_
    exact tX10_sayMark_J47 hok d (by omega) N p0   hf
  · have hf := zifn hf c8
    refine z_aload_n dX10_sayMark_11 rfl ?_
    refine z_bipush 112 dX10_sayMark_12 (by decide +kernel) ?_
    obtain ⟨x21, s22, q23, hf⟩ := zbn_of hf
    refine z_cV (as := [_]) hok dX10_sayMark_14 kX10_256 (tX10_say hok (d - 1) N 112  q23) rfl (at_Model s2) rfl rfl (by omega) (Nat.le_of_ble_eq_true rfl) (Nat.zero_le _) (Nat.zero_le _) rfl ?_
    refine z_aload_n dX10_sayMark_17 rfl ?_
    refine z_bipush 99 dX10_sayMark_18 (by decide +kernel) ?_
    obtain ⟨x24, s25, q26, hf⟩ := zbn_of hf
    refine z_cV (as := [_]) hok dX10_sayMark_20 kX10_256 (tX10_say hok (d - 1) N 99  q26) rfl (at_Model s22) rfl rfl (by omega) (Nat.le_of_ble_eq_true rfl) (Nat.zero_le _) (Nat.zero_le _) rfl ?_
    refine z_aload_n dX10_sayMark_23 rfl ?_
    refine z_bipush 114 dX10_sayMark_24 (by decide +kernel) ?_
    obtain ⟨x27, s28, q29, hf⟩ := zbn_of hf
    refine z_cV (as := [_]) hok dX10_sayMark_26 kX10_256 (tX10_say hok (d - 1) N 114  q29) rfl (at_Model s25) rfl rfl (by omega) (Nat.le_of_ble_eq_true rfl) (Nat.zero_le _) (Nat.zero_le _) rfl ?_
    refine z_aload_n dX10_sayMark_29 rfl ?_
    refine z_bipush 101 dX10_sayMark_30 (by decide +kernel) ?_
    obtain ⟨x30, s31, q32, hf⟩ := zbn_of hf
    refine z_cV (as := [_]) hok dX10_sayMark_32 kX10_256 (tX10_say hok (d - 1) N 101  q32) rfl (at_Model s28) rfl rfl (by omega) (Nat.le_of_ble_eq_true rfl) (Nat.zero_le _) (Nat.zero_le _) rfl ?_
    refine z_aload_n dX10_sayMark_35 rfl ?_
    refine z_bipush 108 dX10_sayMark_36 (by decide +kernel) ?_
    obtain ⟨x33, s34, q35, hf⟩ := zbn_of hf
    refine z_cV (as := [_]) hok dX10_sayMark_38 kX10_256 (tX10_say hok (d - 1) N 108  q35) rfl (at_Model s31) rfl rfl (by omega) (Nat.le_of_ble_eq_true rfl) (Nat.zero_le _) (Nat.zero_le _) rfl ?_
    refine z_aload_n dX10_sayMark_41 rfl ?_
    refine z_bipush 95 dX10_sayMark_42 (by decide +kernel) ?_
    obtain ⟨x36, s37, q38, hf⟩ := zbn_of hf
    refine z_cV (as := [_]) hok dX10_sayMark_44 kX10_256 (tX10_say hok (d - 1) N 95  q38) rfl (at_Model s34) rfl rfl (by omega) (Nat.le_of_ble_eq_true rfl) (Nat.zero_le _) (Nat.zero_le _) rfl ?_
    refine z_mask (ls' := [_, _]) [true, true] rfl ?_
    exact tX10_sayMark_J47 hok d (by omega) N p0   hf

noncomputable def fX10_whatOf (N : Nat) (p0 : Int32) (s : zS) : Option (Int32 × zS) := if zga (4000 + (2 * p0)) (zlen 39) = true then some (s.2.1 39 (4000 + (2 * p0)).toNatClampNeg, s) else none
set_option maxHeartbeats 400000 in
set_option maxRecDepth 100000 in
theorem tX10_whatOf {g : zGl} (hok : zGok g) (d : Nat)  (N : Nat) (p0 : Int32)  {s s' : zS} {w : Int32} (hf : fX10_whatOf N p0 s = some (w, s')) : zMet g mX10_whatOf d 0 0 [.ref 33, .int p0] (zHp s) (zret (some (.int w)) (zHp s')) := by
  refine zMet.ofW (by decide +kernel) (Nat.le_of_ble_eq_true rfl) ?_
  show zW g mX10_whatOf d 0 0 51 _ 0 0 (zHp s) [some (.ref 33), some (.int p0)] [] 0
  unfold fX10_whatOf at hf
  refine z_aload_n dX10_whatOf_0 rfl ?_
  refine z_getf dX10_whatOf_1 fX10_25 (at_Model s) rfl ?_
  refine z_sipush 4000 dX10_whatOf_4 (by decide +kernel) ?_
  refine z_iconst 2 dX10_whatOf_7 (by decide +kernel) ?_
  refine z_iload_n dX10_whatOf_8 rfl ?_
  refine z_imul dX10_whatOf_9 ?_
  refine z_iadd dX10_whatOf_10 ?_
  obtain ⟨hi1, hf⟩ := zifs hf
  refine z_iald dX10_whatOf_11 (at_arr s 39 (by decide)) (zga_in hi1) ?_
  cases hf
  exact z_iret rfl dX10_whatOf_12 (Nat.zero_le _) (Nat.zero_le _) ⟨rfl, rfl⟩

noncomputable def fX10_findBegins_J64 (N : Nat) (p0 : Int32) (p1 : Int32) (rec : Int32 → Int32 → zS → Option ((Unit × zS) ⊕ (zS))) (v3 : Int32) (v4 : Int32) (v6 : Int32) (s : zS) : Option ((Unit × zS) ⊕ (zS)) := if zga (v4 - p0) (zlen 45) = true then if zga v3 (zlen 47) = true then rec (v3 + 1) (v4 + 1) (zsr (zsr s 45 (v4 - p0) v6) 47 v3 v6) else none else none
set_option maxHeartbeats 400000 in
set_option maxRecDepth 100000 in
theorem tX10_findBegins_J64 {g : zGl} (hok : zGok g) (d : Nat) (hd : 1 ≤ d) (N : Nat) (p0 : Int32) (p1 : Int32)  {mc ms n0 : Nat} {Q : zO → List zE → Prop} (rec : Int32 → Int32 → zS → Option ((Unit × zS) ⊕ (zS))) (r : (Unit × zS) ⊕ (zS)) (k1 : ∀ w s', r = .inl (w, s') → Q (.inl none) (zHp s')) (k2 : ∀  (s' : zS), r = .inr (s') → zW g mX10_findBegins d mc ms n0 Q 0 0 (zHp s') [some (.ref 33), some (.int p0), some (.int p1), none, none, none, none] [] 92) (hrec : ∀ (v3 : Int32) (v4 : Int32) (s : zS), rec v3 v4 s = some r → zW g mX10_findBegins d mc ms n0 Q 0 0 (zHp s) [some (.ref 33), some (.int p0), some (.int p1), some (.int v3), some (.int v4), none, none] [] 5) (v3 : Int32) (v4 : Int32) (v6 : Int32) (s : zS) (hf : fX10_findBegins_J64 N p0 p1 rec v3 v4 v6 s = some r) : zW g mX10_findBegins d mc ms n0 Q 0 0 (zHp s) [some (.ref 33), some (.int p0), some (.int p1), some (.int v3), some (.int v4), none, some (.int v6)] [] 64 := by
  unfold fX10_findBegins_J64 at hf
  refine z_aload_n dX10_findBegins_64 rfl ?_
  refine z_getf dX10_findBegins_65 fX10_47 (at_Model s) rfl ?_
  refine z_iload dX10_findBegins_68 rfl ?_
  refine z_iload_n dX10_findBegins_70 rfl ?_
  refine z_isub dX10_findBegins_71 ?_
  refine z_iload dX10_findBegins_72 rfl ?_
  obtain ⟨hi4, hf⟩ := zifs hf
  refine z_iastore dX10_findBegins_74 (at_arr s 45 (by decide)) (zga_in hi4) (st_arr s 45 (by decide) (v4 - p0) v6) ?_
  refine z_aload_n dX10_findBegins_75 rfl ?_
  refine z_getf dX10_findBegins_76 fX10_53 (at_Model (zsr s 45 (v4 - p0) v6)) rfl ?_
  refine z_iload_n dX10_findBegins_79 rfl ?_
  refine z_iload dX10_findBegins_80 rfl ?_
  obtain ⟨hi5, hf⟩ := zifs hf
  refine z_iastore dX10_findBegins_82 (at_arr (zsr s 45 (v4 - p0) v6) 47 (by decide)) (zga_in hi5) (st_arr (zsr s 45 (v4 - p0) v6) 47 (by decide) v3 v6) ?_
  refine z_iinc (ls' := [_, _, _, _, _, _, _]) (v3 + 1) dX10_findBegins_83 rfl rfl (by decide) rfl ?_
  refine z_iinc (ls' := [_, _, _, _, _, _, _]) (v4 + 1) dX10_findBegins_86 rfl rfl (by decide) rfl ?_
  refine z_goto 5 dX10_findBegins_89 (by decide) ?_
  refine z_mask (ls' := [_, _, _, _, _, _, _]) [true, true, true, true, true, false, false] rfl ?_
  exact hrec (v3 + 1) (v4 + 1) (zsr (zsr s 45 (v4 - p0) v6) 47 v3 v6) hf
noncomputable def fX10_findBegins_L5S (N : Nat) (p0 : Int32) (p1 : Int32) (rec : Int32 → Int32 → zS → Option ((Unit × zS) ⊕ (zS))) (v3 : Int32) (v4 : Int32) (s : zS) : Option ((Unit × zS) ⊕ (zS)) := if (p0 + p1) ≤ v4 then some (.inr (s)) else zbn (fX10_whatOf N v4 s) (fun x1 s2 => if x1 ≤ 11 then if x1 ≤ 9 then fX10_findBegins_J64 N p0 p1 rec v3 v4 v4 s2 else if zga (v3 + (-1)) (zlen 47) = true then fX10_findBegins_J64 N p0 p1 rec (v3 + (-1)) v4 (s2.2.1 47 (v3 + (-1)).toNatClampNeg) s2 else none else if zga (v3 + (-2)) (zlen 47) = true then fX10_findBegins_J64 N p0 p1 rec (v3 + (-2)) v4 (s2.2.1 47 (v3 + (-2)).toNatClampNeg) s2 else none)
noncomputable def fX10_findBegins_L5 (N : Nat) (p0 : Int32) (p1 : Int32) (n : Nat) : Int32 → Int32 → zS → Option ((Unit × zS) ⊕ (zS)) := Nat.rec (motive := fun _ => Int32 → Int32 → zS → Option ((Unit × zS) ⊕ (zS))) (fun _ _ _ => none) (fun _ rec => fX10_findBegins_L5S N p0 p1 rec) n
set_option maxHeartbeats 400000 in
set_option maxRecDepth 100000 in
theorem tX10_findBegins_L5 {g : zGl} (hok : zGok g) (d : Nat) (hd : 1 ≤ d) (N : Nat) (p0 : Int32) (p1 : Int32)  {mc ms n0 : Nat} {Q : zO → List zE → Prop} (n : Nat) : ∀ (v3 : Int32) (v4 : Int32) (s : zS) (r : (Unit × zS) ⊕ (zS)) (hf : fX10_findBegins_L5 N p0 p1 n v3 v4 s = some r) (k1 : ∀ w s', r = .inl (w, s') → Q (.inl none) (zHp s')) (k2 : ∀  (s' : zS), r = .inr (s') → zW g mX10_findBegins d mc ms n0 Q 0 0 (zHp s') [some (.ref 33), some (.int p0), some (.int p1), none, none, none, none] [] 92), zW g mX10_findBegins d mc ms n0 Q 0 0 (zHp s) [some (.ref 33), some (.int p0), some (.int p1), some (.int v3), some (.int v4), none, none] [] 5 := by
  induction n with
  | zero => intro v3 v4 s r hf; cases hf
  | succ n ih =>
    intro v3 v4 s r hf k1 k2
    have hrec : ∀ (v3 : Int32) (v4 : Int32) (s : zS) (r1 : (Unit × zS) ⊕ (zS)), fX10_findBegins_L5 N p0 p1 n v3 v4 s = some r1 → r1 = r → zW g mX10_findBegins d mc ms n0 Q 0 0 (zHp s) [some (.ref 33), some (.int p0), some (.int p1), some (.int v3), some (.int v4), none, none] [] 5 := fun v3 v4 s r1 h e => ih v3 v4 s r1 h (by subst e; exact k1) (by subst e; exact k2)
    have hrec : ∀ (v3 : Int32) (v4 : Int32) (s : zS), fX10_findBegins_L5 N p0 p1 n v3 v4 s = some r → zW g mX10_findBegins d mc ms n0 Q 0 0 (zHp s) [some (.ref 33), some (.int p0), some (.int p1), some (.int v3), some (.int v4), none, none] [] 5 := fun v3 v4 s h => hrec v3 v4 s r h rfl
    have hf : fX10_findBegins_L5S N p0 p1 (fX10_findBegins_L5 N p0 p1 n) v3 v4 s = some r := hf
    unfold fX10_findBegins_L5S at hf
    refine z_iload dX10_findBegins_5 rfl ?_
    refine z_iload_n dX10_findBegins_7 rfl ?_
    refine z_iload_n dX10_findBegins_8 rfl ?_
    refine z_iadd dX10_findBegins_9 ?_
    refine z_icmp_ge 92 dX10_findBegins_10 (by decide) (fun c10 => ?_) (fun c10 => ?_)
    · have hf := zifp hf c10
      cases hf
      refine z_mask (ls' := [_, _, _, _, _, _, _]) [true, true, true, false, false, false, false] rfl ?_
      exact k2  _ rfl
    · have hf := zifn hf c10
      refine z_aload_n dX10_findBegins_13 rfl ?_
      refine z_iload dX10_findBegins_14 rfl ?_
      obtain ⟨x1, s2, q3, hf⟩ := zbn_of hf
      refine z_cV (as := [_]) hok dX10_findBegins_16 kX10_263 (tX10_whatOf hok (d - 1) N v4  q3) rfl (at_Model s) rfl rfl (by omega) (Nat.le_of_ble_eq_true rfl) (Nat.zero_le _) (Nat.zero_le _) rfl ?_
      refine z_istore (ls' := [_, _, _, _, _, _, _]) dX10_findBegins_19 (by decide) rfl ?_
      refine z_iload dX10_findBegins_21 rfl ?_
      refine z_istore (ls' := [_, _, _, _, _, _, _]) dX10_findBegins_23 (by decide) rfl ?_
      refine z_iload dX10_findBegins_25 rfl ?_
      refine z_bipush 11 dX10_findBegins_27 (by decide +kernel) ?_
      refine z_icmp_le 46 dX10_findBegins_29 (by decide) (fun c29 => ?_) (fun c29 => ?_)
      · have hf := zifp hf c29
        refine z_iload dX10_findBegins_46 rfl ?_
        refine z_bipush 9 dX10_findBegins_48 (by decide +kernel) ?_
        refine z_icmp_le 64 dX10_findBegins_50 (by decide) (fun c50 => ?_) (fun c50 => ?_)
        · have hf := zifp hf c50
          refine z_mask (ls' := [_, _, _, _, _, _, _]) [true, true, true, true, true, false, true] rfl ?_
          exact tX10_findBegins_J64 hok d (by omega) N p0 p1  _ r k1 k2 hrec v3 v4 v4 s2 hf
        · have hf := zifn hf c50
          refine z_iinc (ls' := [_, _, _, _, _, _, _]) (v3 + (-1)) dX10_findBegins_53 rfl rfl (by decide) rfl ?_
          refine z_aload_n dX10_findBegins_56 rfl ?_
          refine z_getf dX10_findBegins_57 fX10_53 (at_Model s2) rfl ?_
          refine z_iload_n dX10_findBegins_60 rfl ?_
          obtain ⟨hi6, hf⟩ := zifs hf
          refine z_iald dX10_findBegins_61 (at_arr s2 47 (by decide)) (zga_in hi6) ?_
          refine z_istore (ls' := [_, _, _, _, _, _, _]) dX10_findBegins_62 (by decide) rfl ?_
          refine z_mask (ls' := [_, _, _, _, _, _, _]) [true, true, true, true, true, false, true] rfl ?_
          exact tX10_findBegins_J64 hok d (by omega) N p0 p1  _ r k1 k2 hrec (v3 + (-1)) v4 (s2.2.1 47 (v3 + (-1)).toNatClampNeg) s2 hf
      · have hf := zifn hf c29
        refine z_iinc (ls' := [_, _, _, _, _, _, _]) (v3 + (-2)) dX10_findBegins_32 rfl rfl (by decide) rfl ?_
        refine z_aload_n dX10_findBegins_35 rfl ?_
        refine z_getf dX10_findBegins_36 fX10_53 (at_Model s2) rfl ?_
        refine z_iload_n dX10_findBegins_39 rfl ?_
        obtain ⟨hi7, hf⟩ := zifs hf
        refine z_iald dX10_findBegins_40 (at_arr s2 47 (by decide)) (zga_in hi7) ?_
        refine z_istore (ls' := [_, _, _, _, _, _, _]) dX10_findBegins_41 (by decide) rfl ?_
        refine z_goto 64 dX10_findBegins_43 (by decide) ?_
        refine z_mask (ls' := [_, _, _, _, _, _, _]) [true, true, true, true, true, false, true] rfl ?_
        exact tX10_findBegins_J64 hok d (by omega) N p0 p1  _ r k1 k2 hrec (v3 + (-2)) v4 (s2.2.1 47 (v3 + (-2)).toNatClampNeg) s2 hf
noncomputable def fX10_findBegins (N : Nat) (p0 : Int32) (p1 : Int32) (s : zS) : Option (Unit × zS) := zbl (fX10_findBegins_L5 N p0 p1 N 0 p0 s) (fun x => some x) (fun s11 => some ((), s11))
set_option maxHeartbeats 400000 in
set_option maxRecDepth 100000 in
theorem tX10_findBegins {g : zGl} (hok : zGok g) (d : Nat) (hd : 1 ≤ d) (N : Nat) (p0 : Int32) (p1 : Int32)  {s s' : zS} {w : Unit} (hf : fX10_findBegins N p0 p1 s = some (w, s')) : zMet g mX10_findBegins d 0 0 [.ref 33, .int p0, .int p1] (zHp s) (zret none (zHp s')) := by
  refine zMet.ofW (by decide +kernel) (Nat.le_of_ble_eq_true rfl) ?_
  show zW g mX10_findBegins d 0 0 51 _ 0 0 (zHp s) [some (.ref 33), some (.int p0), some (.int p1), none, none, none, none] [] 0
  unfold fX10_findBegins at hf
  refine z_iconst 0 dX10_findBegins_0 (by decide +kernel) ?_
  refine z_istore_n (ls' := [_, _, _, _, _, _, _]) dX10_findBegins_1 (by decide) rfl ?_
  refine z_iload_n dX10_findBegins_2 rfl ?_
  refine z_istore (ls' := [_, _, _, _, _, _, _]) dX10_findBegins_3 (by decide) rfl ?_
  refine z_mask (ls' := [_, _, _, _, _, _, _]) [true, true, true, true, true, false, false] rfl ?_
  rcases zbl_of hf with ⟨lr9, le10, hf⟩ | ⟨lr9, le10, hf⟩
  · cases hf
    exact tX10_findBegins_L5 hok d (by omega) N p0 p1  N 0 p0 s _ le10 (fun w1 s1 hh => by cases hh; exact ⟨rfl, rfl⟩) (fun  _ hh => by cases hh)
  · obtain ⟨s11, rfl⟩ : ∃ z, z = lr9 := ⟨_, rfl⟩
    refine tX10_findBegins_L5 hok d (by omega) N p0 p1  N 0 p0 s _ le10 (fun w1 s1 hh => by cases hh) (fun  _ hh => ?_)
    cases hh
    cases hf
    exact z_vret rfl dX10_findBegins_92 (Nat.zero_le _) (Nat.zero_le _) ⟨rfl, rfl⟩

noncomputable def fX10_add (N : Nat) (p0 : Int32) (s : zS) : Option (Unit × zS) := if zga (s.1 3335) (zlen 46) = true then some ((), (zsc (zsr s 46 (s.1 3335) p0) 3335 ((s.1 3335) + 1))) else none
set_option maxHeartbeats 400000 in
set_option maxRecDepth 100000 in
theorem tX10_add {g : zGl} (hok : zGok g) (d : Nat)  (N : Nat) (p0 : Int32)  {s s' : zS} {w : Unit} (hf : fX10_add N p0 s = some (w, s')) : zMet g mX10_add d 0 0 [.ref 33, .int p0] (zHp s) (zret none (zHp s')) := by
  refine zMet.ofW (by decide +kernel) (Nat.le_of_ble_eq_true rfl) ?_
  show zW g mX10_add d 0 0 51 _ 0 0 (zHp s) [some (.ref 33), some (.int p0)] [] 0
  unfold fX10_add at hf
  refine z_aload_n dX10_add_0 rfl ?_
  refine z_getf dX10_add_1 fX10_50 (at_Model s) rfl ?_
  refine z_aload_n dX10_add_4 rfl ?_
  refine z_getf dX10_add_5 fX10_266 (at_Model s) rfl ?_
  refine z_iload_n dX10_add_8 rfl ?_
  obtain ⟨hi1, hf⟩ := zifs hf
  refine z_iastore dX10_add_9 (at_arr s 46 (by decide)) (zga_in hi1) (st_arr s 46 (by decide) (s.1 3335) p0) ?_
  refine z_aload_n dX10_add_10 rfl ?_
  refine z_dup dX10_add_11 rfl ?_
  refine z_getf dX10_add_12 fX10_266 (at_Model (zsr s 46 (s.1 3335) p0)) rfl ?_
  refine z_iconst 1 dX10_add_15 (by decide +kernel) ?_
  refine z_iadd dX10_add_16 ?_
  refine z_putf dX10_add_17 fX10_266 wX10_35 (at_Model (zsr s 46 (s.1 3335) p0)) (Nat.le_of_ble_eq_true rfl) (fun _ => rfl) (fun _ => rfl) (st_Model_35 (zsr s 46 (s.1 3335) p0) ((s.1 3335) + 1)) ?_
  cases hf
  exact z_vret rfl dX10_add_20 (Nat.zero_le _) (Nat.zero_le _) ⟨rfl, rfl⟩

noncomputable def fX10_saySign (N : Nat) (p0 : Int32) (s : zS) : Option (Unit × zS) := if p0 = 10 then zbn (fX10_say N 45 s) (fun x1 s2 => some ((), s2)) else if p0 = 11 then zbn (fX10_say N 126 s) (fun x4 s5 => some ((), s5)) else if p0 = 12 then zbn (fX10_say N 43 s) (fun x7 s8 => some ((), s8)) else if p0 = 13 then zbn (fX10_say N 45 s) (fun x10 s11 => some ((), s11)) else if p0 = 14 then zbn (fX10_say N 42 s) (fun x13 s14 => some ((), s14)) else if p0 = 15 then zbn (fX10_say N 47 s) (fun x16 s17 => some ((), s17)) else if p0 = 16 then zbn (fX10_say N 37 s) (fun x19 s20 => some ((), s20)) else if p0 = 17 then zbn (fX10_say N 60 s) (fun x22 s23 => zbn (fX10_say N 60 s23) (fun x25 s26 => some ((), s26))) else if p0 = 18 then zbn (fX10_say N 62 s) (fun x28 s29 => zbn (fX10_say N 62 s29) (fun x31 s32 => some ((), s32))) else if p0 = 19 then zbn (fX10_say N 38 s) (fun x34 s35 => some ((), s35)) else if p0 = 20 then zbn (fX10_say N 94 s) (fun x37 s38 => some ((), s38)) else zbn (fX10_say N 124 s) (fun x40 s41 => some ((), s41))
set_option maxHeartbeats 400000 in
set_option maxRecDepth 100000 in
theorem tX10_saySign {g : zGl} (hok : zGok g) (d : Nat) (hd : 1 ≤ d) (N : Nat) (p0 : Int32)  {s s' : zS} {w : Unit} (hf : fX10_saySign N p0 s = some (w, s')) : zMet g mX10_saySign d 0 0 [.ref 33, .int p0] (zHp s) (zret none (zHp s')) := by
  refine zMet.ofW (by decide +kernel) (Nat.le_of_ble_eq_true rfl) ?_
  show zW g mX10_saySign d 0 0 51 _ 0 0 (zHp s) [some (.ref 33), some (.int p0)] [] 0
  unfold fX10_saySign at hf
  refine z_iload_n dX10_saySign_0 rfl ?_
  refine z_tab [(10, 60), (11, 69), (12, 78), (13, 60), (14, 87), (15, 96), (16, 105), (17, 114), (18, 129), (19, 144), (20, 153)] 162 dX10_saySign_1 (by decide +kernel) (by decide +kernel) (by decide +kernel) (by decide +kernel) ?_
  refine z_selc (fun c1_0 => ?_) (fun c1_0 => ?_)
  · have hf := zifp hf c1_0
    refine z_aload_n dX10_saySign_60 rfl ?_
    refine z_bipush 45 dX10_saySign_61 (by decide +kernel) ?_
    obtain ⟨x1, s2, q3, hf⟩ := zbn_of hf
    refine z_cV (as := [_]) hok dX10_saySign_63 kX10_256 (tX10_say hok (d - 1) N 45  q3) rfl (at_Model s) rfl rfl (by omega) (Nat.le_of_ble_eq_true rfl) (Nat.zero_le _) (Nat.zero_le _) rfl ?_
    refine z_goto 168 dX10_saySign_66 (by decide) ?_
    cases hf
    exact z_vret rfl dX10_saySign_168 (Nat.zero_le _) (Nat.zero_le _) ⟨rfl, rfl⟩
  · have hf := zifn hf c1_0
    refine z_selc (fun c1_1 => ?_) (fun c1_1 => ?_)
    · have hf := zifp hf c1_1
      refine z_aload_n dX10_saySign_69 rfl ?_
      refine z_bipush 126 dX10_saySign_70 (by decide +kernel) ?_
      obtain ⟨x4, s5, q6, hf⟩ := zbn_of hf
      refine z_cV (as := [_]) hok dX10_saySign_72 kX10_256 (tX10_say hok (d - 1) N 126  q6) rfl (at_Model s) rfl rfl (by omega) (Nat.le_of_ble_eq_true rfl) (Nat.zero_le _) (Nat.zero_le _) rfl ?_
      refine z_goto 168 dX10_saySign_75 (by decide) ?_
      cases hf
      exact z_vret rfl dX10_saySign_168 (Nat.zero_le _) (Nat.zero_le _) ⟨rfl, rfl⟩
    · have hf := zifn hf c1_1
      refine z_selc (fun c1_2 => ?_) (fun c1_2 => ?_)
      · have hf := zifp hf c1_2
        refine z_aload_n dX10_saySign_78 rfl ?_
        refine z_bipush 43 dX10_saySign_79 (by decide +kernel) ?_
        obtain ⟨x7, s8, q9, hf⟩ := zbn_of hf
        refine z_cV (as := [_]) hok dX10_saySign_81 kX10_256 (tX10_say hok (d - 1) N 43  q9) rfl (at_Model s) rfl rfl (by omega) (Nat.le_of_ble_eq_true rfl) (Nat.zero_le _) (Nat.zero_le _) rfl ?_
        refine z_goto 168 dX10_saySign_84 (by decide) ?_
        cases hf
        exact z_vret rfl dX10_saySign_168 (Nat.zero_le _) (Nat.zero_le _) ⟨rfl, rfl⟩
      · have hf := zifn hf c1_2
        refine z_selc (fun c1_3 => ?_) (fun c1_3 => ?_)
        · have hf := zifp hf c1_3
          refine z_aload_n dX10_saySign_60 rfl ?_
          refine z_bipush 45 dX10_saySign_61 (by decide +kernel) ?_
          obtain ⟨x10, s11, q12, hf⟩ := zbn_of hf
          refine z_cV (as := [_]) hok dX10_saySign_63 kX10_256 (tX10_say hok (d - 1) N 45  q12) rfl (at_Model s) rfl rfl (by omega) (Nat.le_of_ble_eq_true rfl) (Nat.zero_le _) (Nat.zero_le _) rfl ?_
          refine z_goto 168 dX10_saySign_66 (by decide) ?_
          cases hf
          exact z_vret rfl dX10_saySign_168 (Nat.zero_le _) (Nat.zero_le _) ⟨rfl, rfl⟩
        · have hf := zifn hf c1_3
          refine z_selc (fun c1_4 => ?_) (fun c1_4 => ?_)
          · have hf := zifp hf c1_4
            refine z_aload_n dX10_saySign_87 rfl ?_
            refine z_bipush 42 dX10_saySign_88 (by decide +kernel) ?_
            obtain ⟨x13, s14, q15, hf⟩ := zbn_of hf
            refine z_cV (as := [_]) hok dX10_saySign_90 kX10_256 (tX10_say hok (d - 1) N 42  q15) rfl (at_Model s) rfl rfl (by omega) (Nat.le_of_ble_eq_true rfl) (Nat.zero_le _) (Nat.zero_le _) rfl ?_
            refine z_goto 168 dX10_saySign_93 (by decide) ?_
            cases hf
            exact z_vret rfl dX10_saySign_168 (Nat.zero_le _) (Nat.zero_le _) ⟨rfl, rfl⟩
          · have hf := zifn hf c1_4
            refine z_selc (fun c1_5 => ?_) (fun c1_5 => ?_)
            · have hf := zifp hf c1_5
              refine z_aload_n dX10_saySign_96 rfl ?_
              refine z_bipush 47 dX10_saySign_97 (by decide +kernel) ?_
              obtain ⟨x16, s17, q18, hf⟩ := zbn_of hf
              refine z_cV (as := [_]) hok dX10_saySign_99 kX10_256 (tX10_say hok (d - 1) N 47  q18) rfl (at_Model s) rfl rfl (by omega) (Nat.le_of_ble_eq_true rfl) (Nat.zero_le _) (Nat.zero_le _) rfl ?_
              refine z_goto 168 dX10_saySign_102 (by decide) ?_
              cases hf
              exact z_vret rfl dX10_saySign_168 (Nat.zero_le _) (Nat.zero_le _) ⟨rfl, rfl⟩
            · have hf := zifn hf c1_5
              refine z_selc (fun c1_6 => ?_) (fun c1_6 => ?_)
              · have hf := zifp hf c1_6
                refine z_aload_n dX10_saySign_105 rfl ?_
                refine z_bipush 37 dX10_saySign_106 (by decide +kernel) ?_
                obtain ⟨x19, s20, q21, hf⟩ := zbn_of hf
                refine z_cV (as := [_]) hok dX10_saySign_108 kX10_256 (tX10_say hok (d - 1) N 37  q21) rfl (at_Model s) rfl rfl (by omega) (Nat.le_of_ble_eq_true rfl) (Nat.zero_le _) (Nat.zero_le _) rfl ?_
                refine z_goto 168 dX10_saySign_111 (by decide) ?_
                cases hf
                exact z_vret rfl dX10_saySign_168 (Nat.zero_le _) (Nat.zero_le _) ⟨rfl, rfl⟩
              · have hf := zifn hf c1_6
                refine z_selc (fun c1_7 => ?_) (fun c1_7 => ?_)
                · have hf := zifp hf c1_7
                  refine z_aload_n dX10_saySign_114 rfl ?_
                  refine z_bipush 60 dX10_saySign_115 (by decide +kernel) ?_
                  obtain ⟨x22, s23, q24, hf⟩ := zbn_of hf
                  refine z_cV (as := [_]) hok dX10_saySign_117 kX10_256 (tX10_say hok (d - 1) N 60  q24) rfl (at_Model s) rfl rfl (by omega) (Nat.le_of_ble_eq_true rfl) (Nat.zero_le _) (Nat.zero_le _) rfl ?_
                  refine z_aload_n dX10_saySign_120 rfl ?_
                  refine z_bipush 60 dX10_saySign_121 (by decide +kernel) ?_
                  obtain ⟨x25, s26, q27, hf⟩ := zbn_of hf
                  refine z_cV (as := [_]) hok dX10_saySign_123 kX10_256 (tX10_say hok (d - 1) N 60  q27) rfl (at_Model s23) rfl rfl (by omega) (Nat.le_of_ble_eq_true rfl) (Nat.zero_le _) (Nat.zero_le _) rfl ?_
                  refine z_goto 168 dX10_saySign_126 (by decide) ?_
                  cases hf
                  exact z_vret rfl dX10_saySign_168 (Nat.zero_le _) (Nat.zero_le _) ⟨rfl, rfl⟩
                · have hf := zifn hf c1_7
                  refine z_selc (fun c1_8 => ?_) (fun c1_8 => ?_)
                  · have hf := zifp hf c1_8
                    refine z_aload_n dX10_saySign_129 rfl ?_
                    refine z_bipush 62 dX10_saySign_130 (by decide +kernel) ?_
                    obtain ⟨x28, s29, q30, hf⟩ := zbn_of hf
                    refine z_cV (as := [_]) hok dX10_saySign_132 kX10_256 (tX10_say hok (d - 1) N 62  q30) rfl (at_Model s) rfl rfl (by omega) (Nat.le_of_ble_eq_true rfl) (Nat.zero_le _) (Nat.zero_le _) rfl ?_
                    refine z_aload_n dX10_saySign_135 rfl ?_
                    refine z_bipush 62 dX10_saySign_136 (by decide +kernel) ?_
                    obtain ⟨x31, s32, q33, hf⟩ := zbn_of hf
                    refine z_cV (as := [_]) hok dX10_saySign_138 kX10_256 (tX10_say hok (d - 1) N 62  q33) rfl (at_Model s29) rfl rfl (by omega) (Nat.le_of_ble_eq_true rfl) (Nat.zero_le _) (Nat.zero_le _) rfl ?_
                    refine z_goto 168 dX10_saySign_141 (by decide) ?_
                    cases hf
                    exact z_vret rfl dX10_saySign_168 (Nat.zero_le _) (Nat.zero_le _) ⟨rfl, rfl⟩
                  · have hf := zifn hf c1_8
                    refine z_selc (fun c1_9 => ?_) (fun c1_9 => ?_)
                    · have hf := zifp hf c1_9
                      refine z_aload_n dX10_saySign_144 rfl ?_
                      refine z_bipush 38 dX10_saySign_145 (by decide +kernel) ?_
                      obtain ⟨x34, s35, q36, hf⟩ := zbn_of hf
                      refine z_cV (as := [_]) hok dX10_saySign_147 kX10_256 (tX10_say hok (d - 1) N 38  q36) rfl (at_Model s) rfl rfl (by omega) (Nat.le_of_ble_eq_true rfl) (Nat.zero_le _) (Nat.zero_le _) rfl ?_
                      refine z_goto 168 dX10_saySign_150 (by decide) ?_
                      cases hf
                      exact z_vret rfl dX10_saySign_168 (Nat.zero_le _) (Nat.zero_le _) ⟨rfl, rfl⟩
                    · have hf := zifn hf c1_9
                      refine z_selc (fun c1_10 => ?_) (fun c1_10 => ?_)
                      · have hf := zifp hf c1_10
                        refine z_aload_n dX10_saySign_153 rfl ?_
                        refine z_bipush 94 dX10_saySign_154 (by decide +kernel) ?_
                        obtain ⟨x37, s38, q39, hf⟩ := zbn_of hf
                        refine z_cV (as := [_]) hok dX10_saySign_156 kX10_256 (tX10_say hok (d - 1) N 94  q39) rfl (at_Model s) rfl rfl (by omega) (Nat.le_of_ble_eq_true rfl) (Nat.zero_le _) (Nat.zero_le _) rfl ?_
                        refine z_goto 168 dX10_saySign_159 (by decide) ?_
                        cases hf
                        exact z_vret rfl dX10_saySign_168 (Nat.zero_le _) (Nat.zero_le _) ⟨rfl, rfl⟩
                      · have hf := zifn hf c1_10
                        refine z_seln ?_
                        refine z_aload_n dX10_saySign_162 rfl ?_
                        refine z_bipush 124 dX10_saySign_163 (by decide +kernel) ?_
                        obtain ⟨x40, s41, q42, hf⟩ := zbn_of hf
                        refine z_cV (as := [_]) hok dX10_saySign_165 kX10_256 (tX10_say hok (d - 1) N 124  q42) rfl (at_Model s) rfl rfl (by omega) (Nat.le_of_ble_eq_true rfl) (Nat.zero_le _) (Nat.zero_le _) rfl ?_
                        cases hf
                        exact z_vret rfl dX10_saySign_168 (Nat.zero_le _) (Nat.zero_le _) ⟨rfl, rfl⟩

noncomputable def fX10_sayLeaf_J43 (N : Nat) (p0 : Int32) (v2 : Int32) (v3 : Int32) (s : zS) : Option (Unit × zS) := if v3 = 2 then zbn (fX10_say N (48 + (v2 / 2)) s) (fun x9 s10 => if (v2 - v2 / 2 * 2) = 1 then zbn (fX10_say N 102 s10) (fun x19 s20 => if v3 = 3 then zbn (fX10_say N 46 s20) (fun x22 s23 => some ((), s23)) else some ((), s20)) else zbn (fX10_say N 98 s10) (fun x13 s14 => if v3 = 3 then zbn (fX10_say N 46 s14) (fun x16 s17 => some ((), s17)) else some ((), s14))) else if v3 = 3 then zbn (fX10_say N 46 s) (fun x5 s6 => some ((), s6)) else some ((), s)
set_option maxHeartbeats 400000 in
set_option maxRecDepth 100000 in
theorem tX10_sayLeaf_J43 {g : zGl} (hok : zGok g) (d : Nat) (hd : 1 ≤ d) (N : Nat) (p0 : Int32)  {mc ms n0 : Nat} (v2 : Int32) (v3 : Int32) {s s' : zS} {w : Unit} (hf : fX10_sayLeaf_J43 N p0 v2 v3 s = some (w, s')) : zW g mX10_sayLeaf d mc ms n0 (zret none (zHp s')) 0 0 (zHp s) [some (.ref 33), some (.int p0), some (.int v2), some (.int v3)] [] 43 := by
  unfold fX10_sayLeaf_J43 at hf
  refine z_iload_n dX10_sayLeaf_43 rfl ?_
  refine z_iconst 2 dX10_sayLeaf_44 (by decide +kernel) ?_
  refine z_icmp_ne 76 dX10_sayLeaf_45 (by decide) (fun c45 => ?_) (fun c45 => ?_)
  · have hf := zifn hf c45
    refine z_iload_n dX10_sayLeaf_76 rfl ?_
    refine z_iconst 3 dX10_sayLeaf_77 (by decide +kernel) ?_
    refine z_icmp_ne 87 dX10_sayLeaf_78 (by decide) (fun c78 => ?_) (fun c78 => ?_)
    · have hf := zifn hf c78
      cases hf
      exact z_vret rfl dX10_sayLeaf_87 (Nat.zero_le _) (Nat.zero_le _) ⟨rfl, rfl⟩
    · have hf := zifp hf c78
      refine z_aload_n dX10_sayLeaf_81 rfl ?_
      refine z_bipush 46 dX10_sayLeaf_82 (by decide +kernel) ?_
      obtain ⟨x5, s6, q7, hf⟩ := zbn_of hf
      refine z_cV (as := [_]) hok dX10_sayLeaf_84 kX10_256 (tX10_say hok (d - 1) N 46  q7) rfl (at_Model s) rfl rfl (by omega) (Nat.le_of_ble_eq_true rfl) (Nat.zero_le _) (Nat.zero_le _) rfl ?_
      cases hf
      exact z_vret rfl dX10_sayLeaf_87 (Nat.zero_le _) (Nat.zero_le _) ⟨rfl, rfl⟩
  · have hf := zifp hf c45
    refine z_aload_n dX10_sayLeaf_48 rfl ?_
    refine z_bipush 48 dX10_sayLeaf_49 (by decide +kernel) ?_
    refine z_iload_n dX10_sayLeaf_51 rfl ?_
    refine z_iconst 2 dX10_sayLeaf_52 (by decide +kernel) ?_
    refine z_idiv dX10_sayLeaf_53 (by decide) ?_
    refine z_iadd dX10_sayLeaf_54 ?_
    obtain ⟨x9, s10, q11, hf⟩ := zbn_of hf
    refine z_cV (as := [_]) hok dX10_sayLeaf_55 kX10_256 (tX10_say hok (d - 1) N (48 + (v2 / 2))  q11) rfl (at_Model s) rfl rfl (by omega) (Nat.le_of_ble_eq_true rfl) (Nat.zero_le _) (Nat.zero_le _) rfl ?_
    refine z_aload_n dX10_sayLeaf_58 rfl ?_
    refine z_iload_n dX10_sayLeaf_59 rfl ?_
    refine z_iconst 2 dX10_sayLeaf_60 (by decide +kernel) ?_
    refine z_irem dX10_sayLeaf_61 (by decide) ?_
    refine z_iconst 1 dX10_sayLeaf_62 (by decide +kernel) ?_
    refine z_icmp_ne 71 dX10_sayLeaf_63 (by decide) (fun c63 => ?_) (fun c63 => ?_)
    · have hf := zifn hf c63
      refine z_bipush 98 dX10_sayLeaf_71 (by decide +kernel) ?_
      obtain ⟨x13, s14, q15, hf⟩ := zbn_of hf
      refine z_cV (as := [_]) hok dX10_sayLeaf_73 kX10_256 (tX10_say hok (d - 1) N 98  q15) rfl (at_Model s10) rfl rfl (by omega) (Nat.le_of_ble_eq_true rfl) (Nat.zero_le _) (Nat.zero_le _) rfl ?_
      refine z_iload_n dX10_sayLeaf_76 rfl ?_
      refine z_iconst 3 dX10_sayLeaf_77 (by decide +kernel) ?_
      refine z_icmp_ne 87 dX10_sayLeaf_78 (by decide) (fun c78 => ?_) (fun c78 => ?_)
      · have hf := zifn hf c78
        cases hf
        exact z_vret rfl dX10_sayLeaf_87 (Nat.zero_le _) (Nat.zero_le _) ⟨rfl, rfl⟩
      · have hf := zifp hf c78
        refine z_aload_n dX10_sayLeaf_81 rfl ?_
        refine z_bipush 46 dX10_sayLeaf_82 (by decide +kernel) ?_
        obtain ⟨x16, s17, q18, hf⟩ := zbn_of hf
        refine z_cV (as := [_]) hok dX10_sayLeaf_84 kX10_256 (tX10_say hok (d - 1) N 46  q18) rfl (at_Model s14) rfl rfl (by omega) (Nat.le_of_ble_eq_true rfl) (Nat.zero_le _) (Nat.zero_le _) rfl ?_
        cases hf
        exact z_vret rfl dX10_sayLeaf_87 (Nat.zero_le _) (Nat.zero_le _) ⟨rfl, rfl⟩
    · have hf := zifp hf c63
      refine z_bipush 102 dX10_sayLeaf_66 (by decide +kernel) ?_
      refine z_goto 73 dX10_sayLeaf_68 (by decide) ?_
      obtain ⟨x19, s20, q21, hf⟩ := zbn_of hf
      refine z_cV (as := [_]) hok dX10_sayLeaf_73 kX10_256 (tX10_say hok (d - 1) N 102  q21) rfl (at_Model s10) rfl rfl (by omega) (Nat.le_of_ble_eq_true rfl) (Nat.zero_le _) (Nat.zero_le _) rfl ?_
      refine z_iload_n dX10_sayLeaf_76 rfl ?_
      refine z_iconst 3 dX10_sayLeaf_77 (by decide +kernel) ?_
      refine z_icmp_ne 87 dX10_sayLeaf_78 (by decide) (fun c78 => ?_) (fun c78 => ?_)
      · have hf := zifn hf c78
        cases hf
        exact z_vret rfl dX10_sayLeaf_87 (Nat.zero_le _) (Nat.zero_le _) ⟨rfl, rfl⟩
      · have hf := zifp hf c78
        refine z_aload_n dX10_sayLeaf_81 rfl ?_
        refine z_bipush 46 dX10_sayLeaf_82 (by decide +kernel) ?_
        obtain ⟨x22, s23, q24, hf⟩ := zbn_of hf
        refine z_cV (as := [_]) hok dX10_sayLeaf_84 kX10_256 (tX10_say hok (d - 1) N 46  q24) rfl (at_Model s20) rfl rfl (by omega) (Nat.le_of_ble_eq_true rfl) (Nat.zero_le _) (Nat.zero_le _) rfl ?_
        cases hf
        exact z_vret rfl dX10_sayLeaf_87 (Nat.zero_le _) (Nat.zero_le _) ⟨rfl, rfl⟩
noncomputable def fX10_sayLeaf_J33 (N : Nat) (p0 : Int32) (v2 : Int32) (v3 : Int32) (s : zS) : Option (Unit × zS) := if v3 = 1 then zbn (fX10_sayName N v2 s) (fun x25 s26 => fX10_sayLeaf_J43 N p0 v2 v3 s26) else fX10_sayLeaf_J43 N p0 v2 v3 s
set_option maxHeartbeats 400000 in
set_option maxRecDepth 100000 in
theorem tX10_sayLeaf_J33 {g : zGl} (hok : zGok g) (d : Nat) (hd : 2 ≤ d) (N : Nat) (p0 : Int32)  {mc ms n0 : Nat} (v2 : Int32) (v3 : Int32) {s s' : zS} {w : Unit} (hf : fX10_sayLeaf_J33 N p0 v2 v3 s = some (w, s')) : zW g mX10_sayLeaf d mc ms n0 (zret none (zHp s')) 0 0 (zHp s) [some (.ref 33), some (.int p0), some (.int v2), some (.int v3)] [] 33 := by
  unfold fX10_sayLeaf_J33 at hf
  refine z_iload_n dX10_sayLeaf_33 rfl ?_
  refine z_iconst 1 dX10_sayLeaf_34 (by decide +kernel) ?_
  refine z_icmp_ne 43 dX10_sayLeaf_35 (by decide) (fun c35 => ?_) (fun c35 => ?_)
  · have hf := zifn hf c35
    refine z_mask (ls' := [_, _, _, _]) [true, true, true, true] rfl ?_
    exact tX10_sayLeaf_J43 hok d (by omega) N p0  v2 v3 hf
  · have hf := zifp hf c35
    refine z_aload_n dX10_sayLeaf_38 rfl ?_
    refine z_iload_n dX10_sayLeaf_39 rfl ?_
    obtain ⟨x25, s26, q27, hf⟩ := zbn_of hf
    refine z_cV (as := [_]) hok dX10_sayLeaf_40 kX10_274 (tX10_sayName hok (d - 1) (by omega) N v2  q27) rfl (at_Model s) rfl rfl (by omega) (Nat.le_of_ble_eq_true rfl) (Nat.zero_le _) (Nat.zero_le _) rfl ?_
    refine z_mask (ls' := [_, _, _, _]) [true, true, true, true] rfl ?_
    exact tX10_sayLeaf_J43 hok d (by omega) N p0  v2 v3 hf
noncomputable def fX10_sayLeaf (N : Nat) (p0 : Int32) (s : zS) : Option (Unit × zS) := if zga (4001 + (2 * p0)) (zlen 39) = true then zbn (fX10_whatOf N p0 s) (fun x2 s3 => if x2 = 0 then zbn (fX10_sayNumber N (((s.2.1 39 (4001 + (2 * p0)).toNatClampNeg).toInt64) &&& 4294967295) s3) (fun x28 s29 => fX10_sayLeaf_J33 N p0 (s.2.1 39 (4001 + (2 * p0)).toNatClampNeg) x2 s29) else fX10_sayLeaf_J33 N p0 (s.2.1 39 (4001 + (2 * p0)).toNatClampNeg) x2 s3) else none
set_option maxHeartbeats 400000 in
set_option maxRecDepth 100000 in
theorem tX10_sayLeaf {g : zGl} (hok : zGok g) (d : Nat) (hd : 2 ≤ d) (N : Nat) (p0 : Int32)  {s s' : zS} {w : Unit} (hf : fX10_sayLeaf N p0 s = some (w, s')) : zMet g mX10_sayLeaf d 0 0 [.ref 33, .int p0] (zHp s) (zret none (zHp s')) := by
  refine zMet.ofW (by decide +kernel) (Nat.le_of_ble_eq_true rfl) ?_
  show zW g mX10_sayLeaf d 0 0 51 _ 0 0 (zHp s) [some (.ref 33), some (.int p0), none, none] [] 0
  unfold fX10_sayLeaf at hf
  refine z_aload_n dX10_sayLeaf_0 rfl ?_
  refine z_getf dX10_sayLeaf_1 fX10_25 (at_Model s) rfl ?_
  refine z_sipush 4001 dX10_sayLeaf_4 (by decide +kernel) ?_
  refine z_iconst 2 dX10_sayLeaf_7 (by decide +kernel) ?_
  refine z_iload_n dX10_sayLeaf_8 rfl ?_
  refine z_imul dX10_sayLeaf_9 ?_
  refine z_iadd dX10_sayLeaf_10 ?_
  obtain ⟨hi1, hf⟩ := zifs hf
  refine z_iald dX10_sayLeaf_11 (at_arr s 39 (by decide)) (zga_in hi1) ?_
  refine z_istore_n (ls' := [_, _, _, _]) dX10_sayLeaf_12 (by decide) rfl ?_
  refine z_aload_n dX10_sayLeaf_13 rfl ?_
  refine z_iload_n dX10_sayLeaf_14 rfl ?_
  obtain ⟨x2, s3, q4, hf⟩ := zbn_of hf
  refine z_cV (as := [_]) hok dX10_sayLeaf_15 kX10_263 (tX10_whatOf hok (d - 1) N p0  q4) rfl (at_Model s) rfl rfl (by omega) (Nat.le_of_ble_eq_true rfl) (Nat.zero_le _) (Nat.zero_le _) rfl ?_
  refine z_istore_n (ls' := [_, _, _, _]) dX10_sayLeaf_18 (by decide) rfl ?_
  refine z_iload_n dX10_sayLeaf_19 rfl ?_
  refine z_if_ne 33 dX10_sayLeaf_20 (by decide) (fun c20 => ?_) (fun c20 => ?_)
  · have hf := zifn hf c20
    refine z_mask (ls' := [_, _, _, _]) [true, true, true, true] rfl ?_
    exact tX10_sayLeaf_J33 hok d (by omega) N p0  (s.2.1 39 (4001 + (2 * p0)).toNatClampNeg) x2 hf
  · have hf := zifp hf c20
    refine z_aload_n dX10_sayLeaf_23 rfl ?_
    refine z_iload_n dX10_sayLeaf_24 rfl ?_
    refine z_i2l dX10_sayLeaf_25 ?_
    refine z_ldc2 dX10_sayLeaf_26 lX10_272 ?_
    refine z_land dX10_sayLeaf_29 ?_
    obtain ⟨x28, s29, q30, hf⟩ := zbn_of hf
    refine z_cV (as := [_]) hok dX10_sayLeaf_30 kX10_259 (tX10_sayNumber hok (d - 1) (by omega) N (((s.2.1 39 (4001 + (2 * p0)).toNatClampNeg).toInt64) &&& 4294967295)  q30) rfl (at_Model s3) rfl rfl (by omega) (Nat.le_of_ble_eq_true rfl) (Nat.zero_le _) (Nat.zero_le _) rfl ?_
    refine z_mask (ls' := [_, _, _, _]) [true, true, true, true] rfl ?_
    exact tX10_sayLeaf_J33 hok d (by omega) N p0  (s.2.1 39 (4001 + (2 * p0)).toNatClampNeg) x2 hf

noncomputable def fX10_addSide (N : Nat) (p0 : Int32) (p1 : Int32) (s : zS) : Option (Unit × zS) := if p1 = 0 then zbn (fX10_add N (2 * p0) s) (fun x1 s2 => if p1 = 0 then some ((), s2) else zbn (fX10_add N 1 s2) (fun x4 s5 => some ((), s5))) else zbn (fX10_add N 3 s) (fun x7 s8 => zbn (fX10_add N (2 * p0) s8) (fun x10 s11 => if p1 = 0 then some ((), s11) else zbn (fX10_add N 1 s11) (fun x13 s14 => some ((), s14))))
set_option maxHeartbeats 400000 in
set_option maxRecDepth 100000 in
theorem tX10_addSide {g : zGl} (hok : zGok g) (d : Nat) (hd : 1 ≤ d) (N : Nat) (p0 : Int32) (p1 : Int32)  {s s' : zS} {w : Unit} (hf : fX10_addSide N p0 p1 s = some (w, s')) : zMet g mX10_addSide d 0 0 [.ref 33, .int p0, .int p1] (zHp s) (zret none (zHp s')) := by
  refine zMet.ofW (by decide +kernel) (Nat.le_of_ble_eq_true rfl) ?_
  show zW g mX10_addSide d 0 0 51 _ 0 0 (zHp s) [some (.ref 33), some (.int p0), some (.int p1)] [] 0
  unfold fX10_addSide at hf
  refine z_iload_n dX10_addSide_0 rfl ?_
  refine z_if_eq 9 dX10_addSide_1 (by decide) (fun c1 => ?_) (fun c1 => ?_)
  · have hf := zifp hf c1
    refine z_aload_n dX10_addSide_9 rfl ?_
    refine z_iconst 2 dX10_addSide_10 (by decide +kernel) ?_
    refine z_iload_n dX10_addSide_11 rfl ?_
    refine z_imul dX10_addSide_12 ?_
    obtain ⟨x1, s2, q3, hf⟩ := zbn_of hf
    refine z_cV (as := [_]) hok dX10_addSide_13 kX10_269 (tX10_add hok (d - 1) N (2 * p0)  q3) rfl (at_Model s) rfl rfl (by omega) (Nat.le_of_ble_eq_true rfl) (Nat.zero_le _) (Nat.zero_le _) rfl ?_
    refine z_iload_n dX10_addSide_16 rfl ?_
    refine z_if_eq 25 dX10_addSide_17 (by decide) (fun c17 => ?_) (fun c17 => ?_)
    · have hf := zifp hf c17
      cases hf
      exact z_vret rfl dX10_addSide_25 (Nat.zero_le _) (Nat.zero_le _) ⟨rfl, rfl⟩
    · have hf := zifn hf c17
      refine z_aload_n dX10_addSide_20 rfl ?_
      refine z_iconst 1 dX10_addSide_21 (by decide +kernel) ?_
      obtain ⟨x4, s5, q6, hf⟩ := zbn_of hf
      refine z_cV (as := [_]) hok dX10_addSide_22 kX10_269 (tX10_add hok (d - 1) N 1  q6) rfl (at_Model s2) rfl rfl (by omega) (Nat.le_of_ble_eq_true rfl) (Nat.zero_le _) (Nat.zero_le _) rfl ?_
      cases hf
      exact z_vret rfl dX10_addSide_25 (Nat.zero_le _) (Nat.zero_le _) ⟨rfl, rfl⟩
  · have hf := zifn hf c1
    refine z_aload_n dX10_addSide_4 rfl ?_
    refine z_iconst 3 dX10_addSide_5 (by decide +kernel) ?_
    obtain ⟨x7, s8, q9, hf⟩ := zbn_of hf
    refine z_cV (as := [_]) hok dX10_addSide_6 kX10_269 (tX10_add hok (d - 1) N 3  q9) rfl (at_Model s) rfl rfl (by omega) (Nat.le_of_ble_eq_true rfl) (Nat.zero_le _) (Nat.zero_le _) rfl ?_
    refine z_aload_n dX10_addSide_9 rfl ?_
    refine z_iconst 2 dX10_addSide_10 (by decide +kernel) ?_
    refine z_iload_n dX10_addSide_11 rfl ?_
    refine z_imul dX10_addSide_12 ?_
    obtain ⟨x10, s11, q12, hf⟩ := zbn_of hf
    refine z_cV (as := [_]) hok dX10_addSide_13 kX10_269 (tX10_add hok (d - 1) N (2 * p0)  q12) rfl (at_Model s8) rfl rfl (by omega) (Nat.le_of_ble_eq_true rfl) (Nat.zero_le _) (Nat.zero_le _) rfl ?_
    refine z_iload_n dX10_addSide_16 rfl ?_
    refine z_if_eq 25 dX10_addSide_17 (by decide) (fun c17 => ?_) (fun c17 => ?_)
    · have hf := zifp hf c17
      cases hf
      exact z_vret rfl dX10_addSide_25 (Nat.zero_le _) (Nat.zero_le _) ⟨rfl, rfl⟩
    · have hf := zifn hf c17
      refine z_aload_n dX10_addSide_20 rfl ?_
      refine z_iconst 1 dX10_addSide_21 (by decide +kernel) ?_
      obtain ⟨x13, s14, q15, hf⟩ := zbn_of hf
      refine z_cV (as := [_]) hok dX10_addSide_22 kX10_269 (tX10_add hok (d - 1) N 1  q15) rfl (at_Model s11) rfl rfl (by omega) (Nat.le_of_ble_eq_true rfl) (Nat.zero_le _) (Nat.zero_le _) rfl ?_
      cases hf
      exact z_vret rfl dX10_addSide_25 (Nat.zero_le _) (Nat.zero_le _) ⟨rfl, rfl⟩

noncomputable def fX10_sayItems_J269 (N : Nat) (p0 : Int32) (p1 : Int32) (rec : zS → Option ((Unit × zS) ⊕ (zS))) (v5 : Int32) (v6 : Int32) (v7 : Int32) (v8 : Int32) (k0 : Int32) (s : zS) : Option ((Unit × zS) ⊕ (zS)) := zbn (fX10_addSide N v6 k0 s) (fun x20 s21 => zbn (fX10_add N 5 s21) (fun x23 s24 => zbn (fX10_add N ((2 * v5) + 101) s24) (fun x26 s27 => zbn (fX10_add N 5 s27) (fun x29 s30 => zbn (fX10_addSide N v7 v8 s30) (fun x32 s33 => rec  s33)))))
set_option maxHeartbeats 400000 in
set_option maxRecDepth 100000 in
theorem tX10_sayItems_J269 {g : zGl} (hok : zGok g) (d : Nat) (hd : 2 ≤ d) (N : Nat) (p0 : Int32) (p1 : Int32)  {mc ms n0 : Nat} {Q : zO → List zE → Prop} (rec : zS → Option ((Unit × zS) ⊕ (zS))) (r : (Unit × zS) ⊕ (zS)) (k1 : ∀ w s', r = .inl (w, s') → Q (.inl none) (zHp s')) (k2 : ∀  (s' : zS), r = .inr (s') → zW g mX10_sayItems d mc ms n0 Q 0 0 (zHp s') [some (.ref 33), some (.int p0), some (.int p1), none, none, none, none, none, none, none] [] 311) (hrec : ∀  (s : zS), rec  s = some r → zW g mX10_sayItems d mc ms n0 Q 0 0 (zHp s) [some (.ref 33), some (.int p0), some (.int p1), none, none, none, none, none, none, none] [] 22) (v5 : Int32) (v6 : Int32) (v7 : Int32) (v8 : Int32) (k0 : Int32) (s : zS) (hf : fX10_sayItems_J269 N p0 p1 rec v5 v6 v7 v8 k0 s = some r) : zW g mX10_sayItems d mc ms n0 Q 0 0 (zHp s) [some (.ref 33), some (.int p0), some (.int p1), none, none, some (.int v5), some (.int v6), some (.int v7), some (.int v8), none] [.int k0] 269 := by
  unfold fX10_sayItems_J269 at hf
  refine z_istore (ls' := [_, _, _, _, _, _, _, _, _, _]) dX10_sayItems_269 (by decide) rfl ?_
  refine z_aload_n dX10_sayItems_271 rfl ?_
  refine z_iload dX10_sayItems_272 rfl ?_
  refine z_iload dX10_sayItems_274 rfl ?_
  obtain ⟨x20, s21, q22, hf⟩ := zbn_of hf
  refine z_cV (as := [_, _]) hok dX10_sayItems_276 kX10_286 (tX10_addSide hok (d - 1) (by omega) N v6 k0  q22) rfl (at_Model s) rfl rfl (by omega) (Nat.le_of_ble_eq_true rfl) (Nat.zero_le _) (Nat.zero_le _) rfl ?_
  refine z_aload_n dX10_sayItems_279 rfl ?_
  refine z_iconst 5 dX10_sayItems_280 (by decide +kernel) ?_
  obtain ⟨x23, s24, q25, hf⟩ := zbn_of hf
  refine z_cV (as := [_]) hok dX10_sayItems_281 kX10_269 (tX10_add hok (d - 1) N 5  q25) rfl (at_Model s21) rfl rfl (by omega) (Nat.le_of_ble_eq_true rfl) (Nat.zero_le _) (Nat.zero_le _) rfl ?_
  refine z_aload_n dX10_sayItems_284 rfl ?_
  refine z_iconst 2 dX10_sayItems_285 (by decide +kernel) ?_
  refine z_iload dX10_sayItems_286 rfl ?_
  refine z_imul dX10_sayItems_288 ?_
  refine z_bipush 101 dX10_sayItems_289 (by decide +kernel) ?_
  refine z_iadd dX10_sayItems_291 ?_
  obtain ⟨x26, s27, q28, hf⟩ := zbn_of hf
  refine z_cV (as := [_]) hok dX10_sayItems_292 kX10_269 (tX10_add hok (d - 1) N ((2 * v5) + 101)  q28) rfl (at_Model s24) rfl rfl (by omega) (Nat.le_of_ble_eq_true rfl) (Nat.zero_le _) (Nat.zero_le _) rfl ?_
  refine z_aload_n dX10_sayItems_295 rfl ?_
  refine z_iconst 5 dX10_sayItems_296 (by decide +kernel) ?_
  obtain ⟨x29, s30, q31, hf⟩ := zbn_of hf
  refine z_cV (as := [_]) hok dX10_sayItems_297 kX10_269 (tX10_add hok (d - 1) N 5  q31) rfl (at_Model s27) rfl rfl (by omega) (Nat.le_of_ble_eq_true rfl) (Nat.zero_le _) (Nat.zero_le _) rfl ?_
  refine z_aload_n dX10_sayItems_300 rfl ?_
  refine z_iload dX10_sayItems_301 rfl ?_
  refine z_iload dX10_sayItems_303 rfl ?_
  obtain ⟨x32, s33, q34, hf⟩ := zbn_of hf
  refine z_cV (as := [_, _]) hok dX10_sayItems_305 kX10_286 (tX10_addSide hok (d - 1) (by omega) N v7 v8  q34) rfl (at_Model s30) rfl rfl (by omega) (Nat.le_of_ble_eq_true rfl) (Nat.zero_le _) (Nat.zero_le _) rfl ?_
  refine z_goto 22 dX10_sayItems_308 (by decide) ?_
  refine z_mask (ls' := [_, _, _, _, _, _, _, _, _, _]) [true, true, true, false, false, false, false, false, false, false] rfl ?_
  exact hrec  s33 hf
noncomputable def fX10_sayItems_J268 (N : Nat) (p0 : Int32) (p1 : Int32) (rec : zS → Option ((Unit × zS) ⊕ (zS))) (v5 : Int32) (v6 : Int32) (v7 : Int32) (v8 : Int32) (s : zS) : Option ((Unit × zS) ⊕ (zS)) := fX10_sayItems_J269 N p0 p1 rec v5 v6 v7 v8 0 s
set_option maxHeartbeats 400000 in
set_option maxRecDepth 100000 in
theorem tX10_sayItems_J268 {g : zGl} (hok : zGok g) (d : Nat) (hd : 2 ≤ d) (N : Nat) (p0 : Int32) (p1 : Int32)  {mc ms n0 : Nat} {Q : zO → List zE → Prop} (rec : zS → Option ((Unit × zS) ⊕ (zS))) (r : (Unit × zS) ⊕ (zS)) (k1 : ∀ w s', r = .inl (w, s') → Q (.inl none) (zHp s')) (k2 : ∀  (s' : zS), r = .inr (s') → zW g mX10_sayItems d mc ms n0 Q 0 0 (zHp s') [some (.ref 33), some (.int p0), some (.int p1), none, none, none, none, none, none, none] [] 311) (hrec : ∀  (s : zS), rec  s = some r → zW g mX10_sayItems d mc ms n0 Q 0 0 (zHp s) [some (.ref 33), some (.int p0), some (.int p1), none, none, none, none, none, none, none] [] 22) (v5 : Int32) (v6 : Int32) (v7 : Int32) (v8 : Int32) (s : zS) (hf : fX10_sayItems_J268 N p0 p1 rec v5 v6 v7 v8 s = some r) : zW g mX10_sayItems d mc ms n0 Q 0 0 (zHp s) [some (.ref 33), some (.int p0), some (.int p1), none, none, some (.int v5), some (.int v6), some (.int v7), some (.int v8), none] [] 268 := by
  unfold fX10_sayItems_J268 at hf
  refine z_iconst 0 dX10_sayItems_268 (by decide +kernel) ?_
  refine z_mask (ls' := [_, _, _, _, _, _, _, _, _, _]) [true, true, true, false, false, true, true, true, true, false] rfl ?_
  exact tX10_sayItems_J269 hok d (by omega) N p0 p1  _ r k1 k2 hrec v5 v6 v7 v8 0 s hf
noncomputable def fX10_sayItems_J234 (N : Nat) (p0 : Int32) (p1 : Int32) (rec : zS → Option ((Unit × zS) ⊕ (zS))) (v5 : Int32) (v6 : Int32) (v7 : Int32) (k0 : Int32) (s : zS) : Option ((Unit × zS) ⊕ (zS)) := zbn (fX10_whatOf N v6 s) (fun x17 s18 => if x17 ≤ 11 then fX10_sayItems_J268 N p0 p1 rec v5 v6 v7 k0 s18 else zbn (fX10_whatOf N v6 s18) (fun x35 s36 => zbn (fX10_binds N x35 s36) (fun x38 s39 => zbn (fX10_binds N v5 s39) (fun x41 s42 => if x41 < x38 then fX10_sayItems_J268 N p0 p1 rec v5 v6 v7 k0 s42 else fX10_sayItems_J269 N p0 p1 rec v5 v6 v7 k0 1 s42))))
set_option maxHeartbeats 400000 in
set_option maxRecDepth 100000 in
theorem tX10_sayItems_J234 {g : zGl} (hok : zGok g) (d : Nat) (hd : 2 ≤ d) (N : Nat) (p0 : Int32) (p1 : Int32)  {mc ms n0 : Nat} {Q : zO → List zE → Prop} (rec : zS → Option ((Unit × zS) ⊕ (zS))) (r : (Unit × zS) ⊕ (zS)) (k1 : ∀ w s', r = .inl (w, s') → Q (.inl none) (zHp s')) (k2 : ∀  (s' : zS), r = .inr (s') → zW g mX10_sayItems d mc ms n0 Q 0 0 (zHp s') [some (.ref 33), some (.int p0), some (.int p1), none, none, none, none, none, none, none] [] 311) (hrec : ∀  (s : zS), rec  s = some r → zW g mX10_sayItems d mc ms n0 Q 0 0 (zHp s) [some (.ref 33), some (.int p0), some (.int p1), none, none, none, none, none, none, none] [] 22) (v5 : Int32) (v6 : Int32) (v7 : Int32) (k0 : Int32) (s : zS) (hf : fX10_sayItems_J234 N p0 p1 rec v5 v6 v7 k0 s = some r) : zW g mX10_sayItems d mc ms n0 Q 0 0 (zHp s) [some (.ref 33), some (.int p0), some (.int p1), none, none, some (.int v5), some (.int v6), some (.int v7), none, none] [.int k0] 234 := by
  unfold fX10_sayItems_J234 at hf
  refine z_istore (ls' := [_, _, _, _, _, _, _, _, _, _]) dX10_sayItems_234 (by decide) rfl ?_
  refine z_aload_n dX10_sayItems_236 rfl ?_
  refine z_iload dX10_sayItems_237 rfl ?_
  obtain ⟨x17, s18, q19, hf⟩ := zbn_of hf
  refine z_cV (as := [_]) hok dX10_sayItems_239 kX10_263 (tX10_whatOf hok (d - 1) N v6  q19) rfl (at_Model s) rfl rfl (by omega) (Nat.le_of_ble_eq_true rfl) (Nat.zero_le _) (Nat.zero_le _) rfl ?_
  refine z_bipush 11 dX10_sayItems_242 (by decide +kernel) ?_
  refine z_icmp_le 268 dX10_sayItems_244 (by decide) (fun c244 => ?_) (fun c244 => ?_)
  · have hf := zifp hf c244
    refine z_mask (ls' := [_, _, _, _, _, _, _, _, _, _]) [true, true, true, false, false, true, true, true, true, false] rfl ?_
    exact tX10_sayItems_J268 hok d (by omega) N p0 p1  _ r k1 k2 hrec v5 v6 v7 k0 s18 hf
  · have hf := zifn hf c244
    refine z_aload_n dX10_sayItems_247 rfl ?_
    refine z_iload dX10_sayItems_248 rfl ?_
    obtain ⟨x35, s36, q37, hf⟩ := zbn_of hf
    refine z_cV (as := [_]) hok dX10_sayItems_250 kX10_263 (tX10_whatOf hok (d - 1) N v6  q37) rfl (at_Model s18) rfl rfl (by omega) (Nat.le_of_ble_eq_true rfl) (Nat.zero_le _) (Nat.zero_le _) rfl ?_
    obtain ⟨x38, s39, q40, hf⟩ := zbn_of hf
    refine z_cS (as := [_]) hok dX10_sayItems_253 kX10_164 (tX10_binds hok (d - 1) N x35  q40) rfl rfl (by omega) (Nat.le_of_ble_eq_true rfl) (Nat.zero_le _) (Nat.zero_le _) rfl ?_
    refine z_iload dX10_sayItems_256 rfl ?_
    obtain ⟨x41, s42, q43, hf⟩ := zbn_of hf
    refine z_cS (as := [_]) hok dX10_sayItems_258 kX10_164 (tX10_binds hok (d - 1) N v5  q43) rfl rfl (by omega) (Nat.le_of_ble_eq_true rfl) (Nat.zero_le _) (Nat.zero_le _) rfl ?_
    refine z_icmp_gt 268 dX10_sayItems_261 (by decide) (fun c261 => ?_) (fun c261 => ?_)
    · have hf := zifp hf c261
      refine z_mask (ls' := [_, _, _, _, _, _, _, _, _, _]) [true, true, true, false, false, true, true, true, true, false] rfl ?_
      exact tX10_sayItems_J268 hok d (by omega) N p0 p1  _ r k1 k2 hrec v5 v6 v7 k0 s42 hf
    · have hf := zifn hf c261
      refine z_iconst 1 dX10_sayItems_264 (by decide +kernel) ?_
      refine z_goto 269 dX10_sayItems_265 (by decide) ?_
      refine z_mask (ls' := [_, _, _, _, _, _, _, _, _, _]) [true, true, true, false, false, true, true, true, true, false] rfl ?_
      exact tX10_sayItems_J269 hok d (by omega) N p0 p1  _ r k1 k2 hrec v5 v6 v7 k0 1 s42 hf
noncomputable def fX10_sayItems_J233 (N : Nat) (p0 : Int32) (p1 : Int32) (rec : zS → Option ((Unit × zS) ⊕ (zS))) (v5 : Int32) (v6 : Int32) (v7 : Int32) (s : zS) : Option ((Unit × zS) ⊕ (zS)) := fX10_sayItems_J234 N p0 p1 rec v5 v6 v7 0 s
set_option maxHeartbeats 400000 in
set_option maxRecDepth 100000 in
theorem tX10_sayItems_J233 {g : zGl} (hok : zGok g) (d : Nat) (hd : 2 ≤ d) (N : Nat) (p0 : Int32) (p1 : Int32)  {mc ms n0 : Nat} {Q : zO → List zE → Prop} (rec : zS → Option ((Unit × zS) ⊕ (zS))) (r : (Unit × zS) ⊕ (zS)) (k1 : ∀ w s', r = .inl (w, s') → Q (.inl none) (zHp s')) (k2 : ∀  (s' : zS), r = .inr (s') → zW g mX10_sayItems d mc ms n0 Q 0 0 (zHp s') [some (.ref 33), some (.int p0), some (.int p1), none, none, none, none, none, none, none] [] 311) (hrec : ∀  (s : zS), rec  s = some r → zW g mX10_sayItems d mc ms n0 Q 0 0 (zHp s) [some (.ref 33), some (.int p0), some (.int p1), none, none, none, none, none, none, none] [] 22) (v5 : Int32) (v6 : Int32) (v7 : Int32) (s : zS) (hf : fX10_sayItems_J233 N p0 p1 rec v5 v6 v7 s = some r) : zW g mX10_sayItems d mc ms n0 Q 0 0 (zHp s) [some (.ref 33), some (.int p0), some (.int p1), none, none, some (.int v5), some (.int v6), some (.int v7), none, none] [] 233 := by
  unfold fX10_sayItems_J233 at hf
  refine z_iconst 0 dX10_sayItems_233 (by decide +kernel) ?_
  refine z_mask (ls' := [_, _, _, _, _, _, _, _, _, _]) [true, true, true, false, false, true, true, true, false, false] rfl ?_
  exact tX10_sayItems_J234 hok d (by omega) N p0 p1  _ r k1 k2 hrec v5 v6 v7 0 s hf
noncomputable def fX10_sayItems_L22S (N : Nat) (p0 : Int32) (p1 : Int32) (rec : zS → Option ((Unit × zS) ⊕ (zS)))  (s : zS) : Option ((Unit × zS) ⊕ (zS)) := if (s.1 3335) ≤ 0 then some (.inr (s)) else if zga ((s.1 3335) - 1) (zlen 46) = true then if ((s.2.1 46 ((s.1 3335) - 1).toNatClampNeg) - (s.2.1 46 ((s.1 3335) - 1).toNatClampNeg) / 2 * 2) = 1 then if (s.2.1 46 ((s.1 3335) - 1).toNatClampNeg) = 1 then zbn (fX10_say N 40 (zsc s 3335 ((s.1 3335) - 1))) (fun x78 s79 => rec  s79) else if (s.2.1 46 ((s.1 3335) - 1).toNatClampNeg) = 3 then zbn (fX10_say N 41 (zsc s 3335 ((s.1 3335) - 1))) (fun x75 s76 => rec  s76) else if (s.2.1 46 ((s.1 3335) - 1).toNatClampNeg) = 5 then zbn (fX10_say N 32 (zsc s 3335 ((s.1 3335) - 1))) (fun x72 s73 => rec  s73) else zbn (fX10_saySign N (((s.2.1 46 ((s.1 3335) - 1).toNatClampNeg) - 101) / 2) (zsc s 3335 ((s.1 3335) - 1))) (fun x69 s70 => rec  s70) else zbn (fX10_whatOf N ((s.2.1 46 ((s.1 3335) - 1).toNatClampNeg) / 2) (zsc s 3335 ((s.1 3335) - 1))) (fun x10 s11 => if 10 ≤ x10 then if 12 ≤ x10 then if zga ((((s.2.1 46 ((s.1 3335) - 1).toNatClampNeg) / 2) - 1) - p0) (zlen 45) = true then zbn (fX10_whatOf N ((s11.2.1 45 ((((s.2.1 46 ((s.1 3335) - 1).toNatClampNeg) / 2) - 1) - p0).toNatClampNeg) - 1) s11) (fun x14 s15 => if x14 ≤ 11 then fX10_sayItems_J233 N p0 p1 rec x10 (((s.2.1 46 ((s.1 3335) - 1).toNatClampNeg) / 2) - 1) ((s11.2.1 45 ((((s.2.1 46 ((s.1 3335) - 1).toNatClampNeg) / 2) - 1) - p0).toNatClampNeg) - 1) s15 else zbn (fX10_whatOf N ((s11.2.1 45 ((((s.2.1 46 ((s.1 3335) - 1).toNatClampNeg) / 2) - 1) - p0).toNatClampNeg) - 1) s15) (fun x44 s45 => zbn (fX10_binds N x44 s45) (fun x47 s48 => zbn (fX10_binds N x10 s48) (fun x50 s51 => if x50 ≤ x47 then fX10_sayItems_J233 N p0 p1 rec x10 (((s.2.1 46 ((s.1 3335) - 1).toNatClampNeg) / 2) - 1) ((s11.2.1 45 ((((s.2.1 46 ((s.1 3335) - 1).toNatClampNeg) / 2) - 1) - p0).toNatClampNeg) - 1) s51 else fX10_sayItems_J234 N p0 p1 rec x10 (((s.2.1 46 ((s.1 3335) - 1).toNatClampNeg) / 2) - 1) ((s11.2.1 45 ((((s.2.1 46 ((s.1 3335) - 1).toNatClampNeg) / 2) - 1) - p0).toNatClampNeg) - 1) 1 s51)))) else none else zbn (fX10_saySign N x10 s11) (fun x53 s54 => zbn (fX10_whatOf N (((s.2.1 46 ((s.1 3335) - 1).toNatClampNeg) / 2) - 1) s54) (fun x56 s57 => if x56 ≤ 11 then zbn (fX10_addSide N (((s.2.1 46 ((s.1 3335) - 1).toNatClampNeg) / 2) - 1) 0 s57) (fun x59 s60 => rec  s60) else zbn (fX10_addSide N (((s.2.1 46 ((s.1 3335) - 1).toNatClampNeg) / 2) - 1) 1 s57) (fun x62 s63 => rec  s63))) else zbn (fX10_sayLeaf N ((s.2.1 46 ((s.1 3335) - 1).toNatClampNeg) / 2) s11) (fun x65 s66 => rec  s66)) else none
noncomputable def fX10_sayItems_L22 (N : Nat) (p0 : Int32) (p1 : Int32) (n : Nat) : zS → Option ((Unit × zS) ⊕ (zS)) := Nat.rec (motive := fun _ => zS → Option ((Unit × zS) ⊕ (zS))) (fun  _ => none) (fun _ rec => fX10_sayItems_L22S N p0 p1 rec) n
set_option maxHeartbeats 400000 in
set_option maxRecDepth 100000 in
theorem tX10_sayItems_L22 {g : zGl} (hok : zGok g) (d : Nat) (hd : 3 ≤ d) (N : Nat) (p0 : Int32) (p1 : Int32)  {mc ms n0 : Nat} {Q : zO → List zE → Prop} (n : Nat) : ∀  (s : zS) (r : (Unit × zS) ⊕ (zS)) (hf : fX10_sayItems_L22 N p0 p1 n  s = some r) (k1 : ∀ w s', r = .inl (w, s') → Q (.inl none) (zHp s')) (k2 : ∀  (s' : zS), r = .inr (s') → zW g mX10_sayItems d mc ms n0 Q 0 0 (zHp s') [some (.ref 33), some (.int p0), some (.int p1), none, none, none, none, none, none, none] [] 311), zW g mX10_sayItems d mc ms n0 Q 0 0 (zHp s) [some (.ref 33), some (.int p0), some (.int p1), none, none, none, none, none, none, none] [] 22 := by
  induction n with
  | zero => intro  s r hf; cases hf
  | succ n ih =>
    intro  s r hf k1 k2
    have hrec : ∀  (s : zS) (r1 : (Unit × zS) ⊕ (zS)), fX10_sayItems_L22 N p0 p1 n  s = some r1 → r1 = r → zW g mX10_sayItems d mc ms n0 Q 0 0 (zHp s) [some (.ref 33), some (.int p0), some (.int p1), none, none, none, none, none, none, none] [] 22 := fun  s r1 h e => ih  s r1 h (by subst e; exact k1) (by subst e; exact k2)
    have hrec : ∀  (s : zS), fX10_sayItems_L22 N p0 p1 n  s = some r → zW g mX10_sayItems d mc ms n0 Q 0 0 (zHp s) [some (.ref 33), some (.int p0), some (.int p1), none, none, none, none, none, none, none] [] 22 := fun  s h => hrec  s r h rfl
    have hf : fX10_sayItems_L22S N p0 p1 (fX10_sayItems_L22 N p0 p1 n)  s = some r := hf
    unfold fX10_sayItems_L22S at hf
    refine z_aload_n dX10_sayItems_22 rfl ?_
    refine z_getf dX10_sayItems_23 fX10_266 (at_Model s) rfl ?_
    refine z_if_le 311 dX10_sayItems_26 (by decide) (fun c26 => ?_) (fun c26 => ?_)
    · have hf := zifp hf c26
      cases hf
      refine z_mask (ls' := [_, _, _, _, _, _, _, _, _, _]) [true, true, true, false, false, false, false, false, false, false] rfl ?_
      exact k2  _ rfl
    · have hf := zifn hf c26
      refine z_aload_n dX10_sayItems_29 rfl ?_
      refine z_dup dX10_sayItems_30 rfl ?_
      refine z_getf dX10_sayItems_31 fX10_266 (at_Model s) rfl ?_
      refine z_iconst 1 dX10_sayItems_34 (by decide +kernel) ?_
      refine z_isub dX10_sayItems_35 ?_
      refine z_putf dX10_sayItems_36 fX10_266 wX10_35 (at_Model s) (Nat.le_of_ble_eq_true rfl) (fun _ => rfl) (fun _ => rfl) (st_Model_35 s ((s.1 3335) - 1)) ?_
      refine z_aload_n dX10_sayItems_39 rfl ?_
      refine z_getf dX10_sayItems_40 fX10_50 (at_Model (zsc s 3335 ((s.1 3335) - 1))) rfl ?_
      refine z_aload_n dX10_sayItems_43 rfl ?_
      refine z_getf dX10_sayItems_44 fX10_266 (at_Model (zsc s 3335 ((s.1 3335) - 1))) rfl ?_
      obtain ⟨hi7, hf⟩ := zifs hf
      refine z_iald dX10_sayItems_47 (at_arr (zsc s 3335 ((s.1 3335) - 1)) 46 (by decide)) (zga_in hi7) ?_
      refine z_istore_n (ls' := [_, _, _, _, _, _, _, _, _, _]) dX10_sayItems_48 (by decide) rfl ?_
      refine z_iload_n dX10_sayItems_49 rfl ?_
      refine z_iconst 2 dX10_sayItems_50 (by decide +kernel) ?_
      refine z_irem dX10_sayItems_51 (by decide) ?_
      refine z_iconst 1 dX10_sayItems_52 (by decide +kernel) ?_
      refine z_icmp_ne 111 dX10_sayItems_53 (by decide) (fun c53 => ?_) (fun c53 => ?_)
      · have hf := zifn hf c53
        refine z_iload_n dX10_sayItems_111 rfl ?_
        refine z_iconst 2 dX10_sayItems_112 (by decide +kernel) ?_
        refine z_idiv dX10_sayItems_113 (by decide) ?_
        refine z_istore (ls' := [_, _, _, _, _, _, _, _, _, _]) dX10_sayItems_114 (by decide) rfl ?_
        refine z_aload_n dX10_sayItems_116 rfl ?_
        refine z_iload dX10_sayItems_117 rfl ?_
        obtain ⟨x10, s11, q12, hf⟩ := zbn_of hf
        refine z_cV (as := [_]) hok dX10_sayItems_119 kX10_263 (tX10_whatOf hok (d - 1) N ((s.2.1 46 ((s.1 3335) - 1).toNatClampNeg) / 2)  q12) rfl (at_Model (zsc s 3335 ((s.1 3335) - 1))) rfl rfl (by omega) (Nat.le_of_ble_eq_true rfl) (Nat.zero_le _) (Nat.zero_le _) rfl ?_
        refine z_istore (ls' := [_, _, _, _, _, _, _, _, _, _]) dX10_sayItems_122 (by decide) rfl ?_
        refine z_iload dX10_sayItems_124 rfl ?_
        refine z_bipush 10 dX10_sayItems_126 (by decide +kernel) ?_
        refine z_icmp_ge 140 dX10_sayItems_128 (by decide) (fun c128 => ?_) (fun c128 => ?_)
        · have hf := zifp hf c128
          refine z_iload dX10_sayItems_140 rfl ?_
          refine z_bipush 12 dX10_sayItems_142 (by decide +kernel) ?_
          refine z_icmp_ge 182 dX10_sayItems_144 (by decide) (fun c144 => ?_) (fun c144 => ?_)
          · have hf := zifp hf c144
            refine z_iload dX10_sayItems_182 rfl ?_
            refine z_iconst 1 dX10_sayItems_184 (by decide +kernel) ?_
            refine z_isub dX10_sayItems_185 ?_
            refine z_istore (ls' := [_, _, _, _, _, _, _, _, _, _]) dX10_sayItems_186 (by decide) rfl ?_
            refine z_aload_n dX10_sayItems_188 rfl ?_
            refine z_getf dX10_sayItems_189 fX10_47 (at_Model s11) rfl ?_
            refine z_iload dX10_sayItems_192 rfl ?_
            refine z_iload_n dX10_sayItems_194 rfl ?_
            refine z_isub dX10_sayItems_195 ?_
            obtain ⟨hi13, hf⟩ := zifs hf
            refine z_iald dX10_sayItems_196 (at_arr s11 45 (by decide)) (zga_in hi13) ?_
            refine z_iconst 1 dX10_sayItems_197 (by decide +kernel) ?_
            refine z_isub dX10_sayItems_198 ?_
            refine z_istore (ls' := [_, _, _, _, _, _, _, _, _, _]) dX10_sayItems_199 (by decide) rfl ?_
            refine z_aload_n dX10_sayItems_201 rfl ?_
            refine z_iload dX10_sayItems_202 rfl ?_
            obtain ⟨x14, s15, q16, hf⟩ := zbn_of hf
            refine z_cV (as := [_]) hok dX10_sayItems_204 kX10_263 (tX10_whatOf hok (d - 1) N ((s11.2.1 45 ((((s.2.1 46 ((s.1 3335) - 1).toNatClampNeg) / 2) - 1) - p0).toNatClampNeg) - 1)  q16) rfl (at_Model s11) rfl rfl (by omega) (Nat.le_of_ble_eq_true rfl) (Nat.zero_le _) (Nat.zero_le _) rfl ?_
            refine z_bipush 11 dX10_sayItems_207 (by decide +kernel) ?_
            refine z_icmp_le 233 dX10_sayItems_209 (by decide) (fun c209 => ?_) (fun c209 => ?_)
            · have hf := zifp hf c209
              refine z_mask (ls' := [_, _, _, _, _, _, _, _, _, _]) [true, true, true, false, false, true, true, true, false, false] rfl ?_
              exact tX10_sayItems_J233 hok d (by omega) N p0 p1  _ r k1 k2 hrec x10 (((s.2.1 46 ((s.1 3335) - 1).toNatClampNeg) / 2) - 1) ((s11.2.1 45 ((((s.2.1 46 ((s.1 3335) - 1).toNatClampNeg) / 2) - 1) - p0).toNatClampNeg) - 1) s15 hf
            · have hf := zifn hf c209
              refine z_aload_n dX10_sayItems_212 rfl ?_
              refine z_iload dX10_sayItems_213 rfl ?_
              obtain ⟨x44, s45, q46, hf⟩ := zbn_of hf
              refine z_cV (as := [_]) hok dX10_sayItems_215 kX10_263 (tX10_whatOf hok (d - 1) N ((s11.2.1 45 ((((s.2.1 46 ((s.1 3335) - 1).toNatClampNeg) / 2) - 1) - p0).toNatClampNeg) - 1)  q46) rfl (at_Model s15) rfl rfl (by omega) (Nat.le_of_ble_eq_true rfl) (Nat.zero_le _) (Nat.zero_le _) rfl ?_
              obtain ⟨x47, s48, q49, hf⟩ := zbn_of hf
              refine z_cS (as := [_]) hok dX10_sayItems_218 kX10_164 (tX10_binds hok (d - 1) N x44  q49) rfl rfl (by omega) (Nat.le_of_ble_eq_true rfl) (Nat.zero_le _) (Nat.zero_le _) rfl ?_
              refine z_iload dX10_sayItems_221 rfl ?_
              obtain ⟨x50, s51, q52, hf⟩ := zbn_of hf
              refine z_cS (as := [_]) hok dX10_sayItems_223 kX10_164 (tX10_binds hok (d - 1) N x10  q52) rfl rfl (by omega) (Nat.le_of_ble_eq_true rfl) (Nat.zero_le _) (Nat.zero_le _) rfl ?_
              refine z_icmp_ge 233 dX10_sayItems_226 (by decide) (fun c226 => ?_) (fun c226 => ?_)
              · have hf := zifp hf c226
                refine z_mask (ls' := [_, _, _, _, _, _, _, _, _, _]) [true, true, true, false, false, true, true, true, false, false] rfl ?_
                exact tX10_sayItems_J233 hok d (by omega) N p0 p1  _ r k1 k2 hrec x10 (((s.2.1 46 ((s.1 3335) - 1).toNatClampNeg) / 2) - 1) ((s11.2.1 45 ((((s.2.1 46 ((s.1 3335) - 1).toNatClampNeg) / 2) - 1) - p0).toNatClampNeg) - 1) s51 hf
              · have hf := zifn hf c226
                refine z_iconst 1 dX10_sayItems_229 (by decide +kernel) ?_
                refine z_goto 234 dX10_sayItems_230 (by decide) ?_
                refine z_mask (ls' := [_, _, _, _, _, _, _, _, _, _]) [true, true, true, false, false, true, true, true, false, false] rfl ?_
                exact tX10_sayItems_J234 hok d (by omega) N p0 p1  _ r k1 k2 hrec x10 (((s.2.1 46 ((s.1 3335) - 1).toNatClampNeg) / 2) - 1) ((s11.2.1 45 ((((s.2.1 46 ((s.1 3335) - 1).toNatClampNeg) / 2) - 1) - p0).toNatClampNeg) - 1) 1 s51 hf
          · have hf := zifn hf c144
            refine z_aload_n dX10_sayItems_147 rfl ?_
            refine z_iload dX10_sayItems_148 rfl ?_
            obtain ⟨x53, s54, q55, hf⟩ := zbn_of hf
            refine z_cV (as := [_]) hok dX10_sayItems_150 kX10_280 (tX10_saySign hok (d - 1) (by omega) N x10  q55) rfl (at_Model s11) rfl rfl (by omega) (Nat.le_of_ble_eq_true rfl) (Nat.zero_le _) (Nat.zero_le _) rfl ?_
            refine z_aload_n dX10_sayItems_153 rfl ?_
            refine z_iload dX10_sayItems_154 rfl ?_
            refine z_iconst 1 dX10_sayItems_156 (by decide +kernel) ?_
            refine z_isub dX10_sayItems_157 ?_
            refine z_aload_n dX10_sayItems_158 rfl ?_
            refine z_iload dX10_sayItems_159 rfl ?_
            refine z_iconst 1 dX10_sayItems_161 (by decide +kernel) ?_
            refine z_isub dX10_sayItems_162 ?_
            obtain ⟨x56, s57, q58, hf⟩ := zbn_of hf
            refine z_cV (as := [_]) hok dX10_sayItems_163 kX10_263 (tX10_whatOf hok (d - 1) N (((s.2.1 46 ((s.1 3335) - 1).toNatClampNeg) / 2) - 1)  q58) rfl (at_Model s54) rfl rfl (by omega) (Nat.le_of_ble_eq_true rfl) (Nat.zero_le _) (Nat.zero_le _) rfl ?_
            refine z_bipush 11 dX10_sayItems_166 (by decide +kernel) ?_
            refine z_icmp_le 175 dX10_sayItems_168 (by decide) (fun c168 => ?_) (fun c168 => ?_)
            · have hf := zifp hf c168
              refine z_iconst 0 dX10_sayItems_175 (by decide +kernel) ?_
              obtain ⟨x59, s60, q61, hf⟩ := zbn_of hf
              refine z_cV (as := [_, _]) hok dX10_sayItems_176 kX10_286 (tX10_addSide hok (d - 1) (by omega) N (((s.2.1 46 ((s.1 3335) - 1).toNatClampNeg) / 2) - 1) 0  q61) rfl (at_Model s57) rfl rfl (by omega) (Nat.le_of_ble_eq_true rfl) (Nat.zero_le _) (Nat.zero_le _) rfl ?_
              refine z_goto 308 dX10_sayItems_179 (by decide) ?_
              refine z_goto 22 dX10_sayItems_308 (by decide) ?_
              refine z_mask (ls' := [_, _, _, _, _, _, _, _, _, _]) [true, true, true, false, false, false, false, false, false, false] rfl ?_
              exact hrec  s60 hf
            · have hf := zifn hf c168
              refine z_iconst 1 dX10_sayItems_171 (by decide +kernel) ?_
              refine z_goto 176 dX10_sayItems_172 (by decide) ?_
              obtain ⟨x62, s63, q64, hf⟩ := zbn_of hf
              refine z_cV (as := [_, _]) hok dX10_sayItems_176 kX10_286 (tX10_addSide hok (d - 1) (by omega) N (((s.2.1 46 ((s.1 3335) - 1).toNatClampNeg) / 2) - 1) 1  q64) rfl (at_Model s57) rfl rfl (by omega) (Nat.le_of_ble_eq_true rfl) (Nat.zero_le _) (Nat.zero_le _) rfl ?_
              refine z_goto 308 dX10_sayItems_179 (by decide) ?_
              refine z_goto 22 dX10_sayItems_308 (by decide) ?_
              refine z_mask (ls' := [_, _, _, _, _, _, _, _, _, _]) [true, true, true, false, false, false, false, false, false, false] rfl ?_
              exact hrec  s63 hf
        · have hf := zifn hf c128
          refine z_aload_n dX10_sayItems_131 rfl ?_
          refine z_iload dX10_sayItems_132 rfl ?_
          obtain ⟨x65, s66, q67, hf⟩ := zbn_of hf
          refine z_cV (as := [_]) hok dX10_sayItems_134 kX10_283 (tX10_sayLeaf hok (d - 1) (by omega) N ((s.2.1 46 ((s.1 3335) - 1).toNatClampNeg) / 2)  q67) rfl (at_Model s11) rfl rfl (by omega) (Nat.le_of_ble_eq_true rfl) (Nat.zero_le _) (Nat.zero_le _) rfl ?_
          refine z_goto 308 dX10_sayItems_137 (by decide) ?_
          refine z_goto 22 dX10_sayItems_308 (by decide) ?_
          refine z_mask (ls' := [_, _, _, _, _, _, _, _, _, _]) [true, true, true, false, false, false, false, false, false, false] rfl ?_
          exact hrec  s66 hf
      · have hf := zifp hf c53
        refine z_iload_n dX10_sayItems_56 rfl ?_
        refine z_iconst 1 dX10_sayItems_57 (by decide +kernel) ?_
        refine z_icmp_ne 70 dX10_sayItems_58 (by decide) (fun c58 => ?_) (fun c58 => ?_)
        · have hf := zifn hf c58
          refine z_iload_n dX10_sayItems_70 rfl ?_
          refine z_iconst 3 dX10_sayItems_71 (by decide +kernel) ?_
          refine z_icmp_ne 84 dX10_sayItems_72 (by decide) (fun c72 => ?_) (fun c72 => ?_)
          · have hf := zifn hf c72
            refine z_iload_n dX10_sayItems_84 rfl ?_
            refine z_iconst 5 dX10_sayItems_85 (by decide +kernel) ?_
            refine z_icmp_ne 98 dX10_sayItems_86 (by decide) (fun c86 => ?_) (fun c86 => ?_)
            · have hf := zifn hf c86
              refine z_aload_n dX10_sayItems_98 rfl ?_
              refine z_iload_n dX10_sayItems_99 rfl ?_
              refine z_bipush 101 dX10_sayItems_100 (by decide +kernel) ?_
              refine z_isub dX10_sayItems_102 ?_
              refine z_iconst 2 dX10_sayItems_103 (by decide +kernel) ?_
              refine z_idiv dX10_sayItems_104 (by decide) ?_
              obtain ⟨x69, s70, q71, hf⟩ := zbn_of hf
              refine z_cV (as := [_]) hok dX10_sayItems_105 kX10_280 (tX10_saySign hok (d - 1) (by omega) N (((s.2.1 46 ((s.1 3335) - 1).toNatClampNeg) - 101) / 2)  q71) rfl (at_Model (zsc s 3335 ((s.1 3335) - 1))) rfl rfl (by omega) (Nat.le_of_ble_eq_true rfl) (Nat.zero_le _) (Nat.zero_le _) rfl ?_
              refine z_goto 22 dX10_sayItems_108 (by decide) ?_
              refine z_mask (ls' := [_, _, _, _, _, _, _, _, _, _]) [true, true, true, false, false, false, false, false, false, false] rfl ?_
              exact hrec  s70 hf
            · have hf := zifp hf c86
              refine z_aload_n dX10_sayItems_89 rfl ?_
              refine z_bipush 32 dX10_sayItems_90 (by decide +kernel) ?_
              obtain ⟨x72, s73, q74, hf⟩ := zbn_of hf
              refine z_cV (as := [_]) hok dX10_sayItems_92 kX10_256 (tX10_say hok (d - 1) N 32  q74) rfl (at_Model (zsc s 3335 ((s.1 3335) - 1))) rfl rfl (by omega) (Nat.le_of_ble_eq_true rfl) (Nat.zero_le _) (Nat.zero_le _) rfl ?_
              refine z_goto 22 dX10_sayItems_95 (by decide) ?_
              refine z_mask (ls' := [_, _, _, _, _, _, _, _, _, _]) [true, true, true, false, false, false, false, false, false, false] rfl ?_
              exact hrec  s73 hf
          · have hf := zifp hf c72
            refine z_aload_n dX10_sayItems_75 rfl ?_
            refine z_bipush 41 dX10_sayItems_76 (by decide +kernel) ?_
            obtain ⟨x75, s76, q77, hf⟩ := zbn_of hf
            refine z_cV (as := [_]) hok dX10_sayItems_78 kX10_256 (tX10_say hok (d - 1) N 41  q77) rfl (at_Model (zsc s 3335 ((s.1 3335) - 1))) rfl rfl (by omega) (Nat.le_of_ble_eq_true rfl) (Nat.zero_le _) (Nat.zero_le _) rfl ?_
            refine z_goto 22 dX10_sayItems_81 (by decide) ?_
            refine z_mask (ls' := [_, _, _, _, _, _, _, _, _, _]) [true, true, true, false, false, false, false, false, false, false] rfl ?_
            exact hrec  s76 hf
        · have hf := zifp hf c58
          refine z_aload_n dX10_sayItems_61 rfl ?_
          refine z_bipush 40 dX10_sayItems_62 (by decide +kernel) ?_
          obtain ⟨x78, s79, q80, hf⟩ := zbn_of hf
          refine z_cV (as := [_]) hok dX10_sayItems_64 kX10_256 (tX10_say hok (d - 1) N 40  q80) rfl (at_Model (zsc s 3335 ((s.1 3335) - 1))) rfl rfl (by omega) (Nat.le_of_ble_eq_true rfl) (Nat.zero_le _) (Nat.zero_le _) rfl ?_
          refine z_goto 22 dX10_sayItems_67 (by decide) ?_
          refine z_mask (ls' := [_, _, _, _, _, _, _, _, _, _]) [true, true, true, false, false, false, false, false, false, false] rfl ?_
          exact hrec  s79 hf
noncomputable def fX10_sayItems (N : Nat) (p0 : Int32) (p1 : Int32) (s : zS) : Option (Unit × zS) := zbn (fX10_findBegins N p0 p1 s) (fun x1 s2 => zbn (fX10_add N (2 * ((p0 + p1) - 1)) (zsc s2 3335 0)) (fun x4 s5 => zbl (fX10_sayItems_L22 N p0 p1 N  s5) (fun x => some x) (fun s84 => some ((), s84))))
set_option maxHeartbeats 400000 in
set_option maxRecDepth 100000 in
theorem tX10_sayItems {g : zGl} (hok : zGok g) (d : Nat) (hd : 3 ≤ d) (N : Nat) (p0 : Int32) (p1 : Int32)  {s s' : zS} {w : Unit} (hf : fX10_sayItems N p0 p1 s = some (w, s')) : zMet g mX10_sayItems d 0 0 [.ref 33, .int p0, .int p1] (zHp s) (zret none (zHp s')) := by
  refine zMet.ofW (by decide +kernel) (Nat.le_of_ble_eq_true rfl) ?_
  show zW g mX10_sayItems d 0 0 51 _ 0 0 (zHp s) [some (.ref 33), some (.int p0), some (.int p1), none, none, none, none, none, none, none] [] 0
  unfold fX10_sayItems at hf
  refine z_aload_n dX10_sayItems_0 rfl ?_
  refine z_iload_n dX10_sayItems_1 rfl ?_
  refine z_iload_n dX10_sayItems_2 rfl ?_
  obtain ⟨x1, s2, q3, hf⟩ := zbn_of hf
  refine z_cV (as := [_, _]) hok dX10_sayItems_3 kX10_277 (tX10_findBegins hok (d - 1) (by omega) N p0 p1  q3) rfl (at_Model s) rfl rfl (by omega) (Nat.le_of_ble_eq_true rfl) (Nat.zero_le _) (Nat.zero_le _) rfl ?_
  refine z_aload_n dX10_sayItems_6 rfl ?_
  refine z_iconst 0 dX10_sayItems_7 (by decide +kernel) ?_
  refine z_putf dX10_sayItems_8 fX10_266 wX10_35 (at_Model s2) (Nat.le_of_ble_eq_true rfl) (fun _ => rfl) (fun _ => rfl) (st_Model_35 s2 0) ?_
  refine z_aload_n dX10_sayItems_11 rfl ?_
  refine z_iconst 2 dX10_sayItems_12 (by decide +kernel) ?_
  refine z_iload_n dX10_sayItems_13 rfl ?_
  refine z_iload_n dX10_sayItems_14 rfl ?_
  refine z_iadd dX10_sayItems_15 ?_
  refine z_iconst 1 dX10_sayItems_16 (by decide +kernel) ?_
  refine z_isub dX10_sayItems_17 ?_
  refine z_imul dX10_sayItems_18 ?_
  obtain ⟨x4, s5, q6, hf⟩ := zbn_of hf
  refine z_cV (as := [_]) hok dX10_sayItems_19 kX10_269 (tX10_add hok (d - 1) N (2 * ((p0 + p1) - 1))  q6) rfl (at_Model (zsc s2 3335 0)) rfl rfl (by omega) (Nat.le_of_ble_eq_true rfl) (Nat.zero_le _) (Nat.zero_le _) rfl ?_
  refine z_mask (ls' := [_, _, _, _, _, _, _, _, _, _]) [true, true, true, false, false, false, false, false, false, false] rfl ?_
  rcases zbl_of hf with ⟨lr82, le83, hf⟩ | ⟨lr82, le83, hf⟩
  · cases hf
    exact tX10_sayItems_L22 hok d (by omega) N p0 p1  N  s5 _ le83 (fun w1 s1 hh => by cases hh; exact ⟨rfl, rfl⟩) (fun  _ hh => by cases hh)
  · obtain ⟨s84, rfl⟩ : ∃ z, z = lr82 := ⟨_, rfl⟩
    refine tX10_sayItems_L22 hok d (by omega) N p0 p1  N  s5 _ le83 (fun w1 s1 hh => by cases hh) (fun  _ hh => ?_)
    cases hh
    cases hf
    exact z_vret rfl dX10_sayItems_311 (Nat.zero_le _) (Nat.zero_le _) ⟨rfl, rfl⟩

