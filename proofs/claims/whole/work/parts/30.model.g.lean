noncomputable def fX10_read_L2S (N : Nat)  (rec : Int32 → zS → Option ((Int32 × zS) ⊕ (zS))) (v1 : Int32) (s : zS) : Option ((Int32 × zS) ⊕ (zS)) := if 4 ≤ v1 then some (.inr (s)) else if zga v1 (zlen 36) = true then rec (v1 + 1) (zsr s 36 v1 0) else none
noncomputable def fX10_read_L2 (N : Nat)  (n : Nat) : Int32 → zS → Option ((Int32 × zS) ⊕ (zS)) := Nat.rec (motive := fun _ => Int32 → zS → Option ((Int32 × zS) ⊕ (zS))) (fun _ _ => none) (fun _ rec => fX10_read_L2S N  rec) n
set_option maxHeartbeats 400000 in
set_option maxRecDepth 100000 in
theorem tX10_read_L2 {g : zGl} (hok : zGok g) (d : Nat)  (N : Nat)   {mc ms n0 : Nat} {Q : zO → List zE → Prop} (n : Nat) : ∀ (v1 : Int32) (s : zS) (r : (Int32 × zS) ⊕ (zS)) (hf : fX10_read_L2 N  n v1 s = some r) (k1 : ∀ w s', r = .inl (w, s') → Q (.inl (some (.int w))) (zHp s')) (k2 : ∀  (s' : zS), r = .inr (s') → zW g mX10_read d mc ms n0 Q 0 0 (zHp s') [some (.ref 33), none] [] 20), zW g mX10_read d mc ms n0 Q 0 0 (zHp s) [some (.ref 33), some (.int v1)] [] 2 := by
  induction n with
  | zero => intro v1 s r hf; cases hf
  | succ n ih =>
    intro v1 s r hf k1 k2
    have hrec : ∀ (v1 : Int32) (s : zS) (r1 : (Int32 × zS) ⊕ (zS)), fX10_read_L2 N  n v1 s = some r1 → r1 = r → zW g mX10_read d mc ms n0 Q 0 0 (zHp s) [some (.ref 33), some (.int v1)] [] 2 := fun v1 s r1 h e => ih v1 s r1 h (by subst e; exact k1) (by subst e; exact k2)
    have hrec : ∀ (v1 : Int32) (s : zS), fX10_read_L2 N  n v1 s = some r → zW g mX10_read d mc ms n0 Q 0 0 (zHp s) [some (.ref 33), some (.int v1)] [] 2 := fun v1 s h => hrec v1 s r h rfl
    have hf : fX10_read_L2S N  (fX10_read_L2 N  n) v1 s = some r := hf
    unfold fX10_read_L2S at hf
    refine z_iload_n dX10_read_2 rfl ?_
    refine z_iconst 4 dX10_read_3 (by decide +kernel) ?_
    refine z_icmp_ge 20 dX10_read_4 (by decide) (fun c4 => ?_) (fun c4 => ?_)
    · have hf := zifp hf c4
      cases hf
      refine z_mask (ls' := [_, _]) [true, false] rfl ?_
      exact k2  _ rfl
    · have hf := zifn hf c4
      refine z_aload_n dX10_read_7 rfl ?_
      refine z_getf dX10_read_8 fX10_16 (at_Model s) rfl ?_
      refine z_iload_n dX10_read_11 rfl ?_
      refine z_iconst 0 dX10_read_12 (by decide +kernel) ?_
      obtain ⟨hi1, hf⟩ := zifs hf
      refine z_iastore dX10_read_13 (at_arr s 36 (by decide)) (zga_in hi1) (st_arr s 36 (by decide) v1 0) ?_
      refine z_iinc (ls' := [_, _]) (v1 + 1) dX10_read_14 rfl rfl (by decide) rfl ?_
      refine z_goto 2 dX10_read_17 (by decide) ?_
      refine z_mask (ls' := [_, _]) [true, true] rfl ?_
      exact hrec (v1 + 1) (zsr s 36 v1 0) hf
noncomputable def fX10_read_J82 (N : Nat)  (rec : Int32 → zS → Option ((Int32 × zS) ⊕ (zS)))  (s : zS) : Option ((Int32 × zS) ⊕ (zS)) := rec 0 (zsc (zsc s 3318 ((s.1 3318) + 1)) 3319 ((s.1 3319) + 1))
set_option maxHeartbeats 400000 in
set_option maxRecDepth 100000 in
theorem tX10_read_J82 {g : zGl} (hok : zGok g) (d : Nat) (hd : 10 ≤ d) (N : Nat)   {mc ms n0 : Nat} {Q : zO → List zE → Prop} (rec : Int32 → zS → Option ((Int32 × zS) ⊕ (zS))) (r : (Int32 × zS) ⊕ (zS)) (k1 : ∀ w s', r = .inl (w, s') → Q (.inl (some (.int w))) (zHp s')) (k2 : ∀  (s' : zS), r = .inr (s') → zW g mX10_read d mc ms n0 Q 0 0 (zHp s') [some (.ref 33), none] [] 107) (hrec : ∀ (v1 : Int32) (s : zS), rec v1 s = some r → zW g mX10_read d mc ms n0 Q 0 0 (zHp s) [some (.ref 33), some (.int v1)] [] 52)  (s : zS) (hf : fX10_read_J82 N  rec  s = some r) : zW g mX10_read d mc ms n0 Q 0 0 (zHp s) [some (.ref 33), none] [] 82 := by
  unfold fX10_read_J82 at hf
  refine z_iconst 0 dX10_read_82 (by decide +kernel) ?_
  refine z_istore_n (ls' := [_, _]) dX10_read_83 (by decide) rfl ?_
  refine z_aload_n dX10_read_84 rfl ?_
  refine z_dup dX10_read_85 rfl ?_
  refine z_getf dX10_read_86 fX10_88 (at_Model s) rfl ?_
  refine z_iconst 1 dX10_read_89 (by decide +kernel) ?_
  refine z_iadd dX10_read_90 ?_
  refine z_putf dX10_read_91 fX10_88 wX10_18 (at_Model s) (Nat.le_of_ble_eq_true rfl) (fun _ => rfl) (fun _ => rfl) (st_Model_18 s ((s.1 3318) + 1)) ?_
  refine z_aload_n dX10_read_94 rfl ?_
  refine z_dup dX10_read_95 rfl ?_
  refine z_getf dX10_read_96 fX10_220 (at_Model (zsc s 3318 ((s.1 3318) + 1))) rfl ?_
  refine z_iconst 1 dX10_read_99 (by decide +kernel) ?_
  refine z_iadd dX10_read_100 ?_
  refine z_putf dX10_read_101 fX10_220 wX10_19 (at_Model (zsc s 3318 ((s.1 3318) + 1))) (Nat.le_of_ble_eq_true rfl) (fun _ => rfl) (fun _ => rfl) (st_Model_19 (zsc s 3318 ((s.1 3318) + 1)) ((s.1 3319) + 1)) ?_
  refine z_goto 52 dX10_read_104 (by decide) ?_
  refine z_mask (ls' := [_, _]) [true, true] rfl ?_
  exact hrec 0 (zsc (zsc s 3318 ((s.1 3318) + 1)) 3319 ((s.1 3319) + 1)) hf
noncomputable def fX10_read_L52S (N : Nat)  (rec : Int32 → zS → Option ((Int32 × zS) ⊕ (zS))) (v1 : Int32) (s : zS) : Option ((Int32 × zS) ⊕ (zS)) := if v1 = 0 then some (.inr (s)) else zbn (fX10_next N  s) (fun x6 s7 => zbn (fX10_readLine N  s7) (fun x9 s10 => if x9 = 0 then fX10_read_J82 N  rec  s10 else if (s10.1 3303) ≤ (s10.1 3318) then fX10_read_J82 N  rec  s10 else rec 1 (zsc (zsc s10 3318 ((s10.1 3318) + 1)) 3319 ((s10.1 3319) + 1))))
noncomputable def fX10_read_L52 (N : Nat)  (n : Nat) : Int32 → zS → Option ((Int32 × zS) ⊕ (zS)) := Nat.rec (motive := fun _ => Int32 → zS → Option ((Int32 × zS) ⊕ (zS))) (fun _ _ => none) (fun _ rec => fX10_read_L52S N  rec) n
set_option maxHeartbeats 400000 in
set_option maxRecDepth 100000 in
theorem tX10_read_L52 {g : zGl} (hok : zGok g) (d : Nat) (hd : 10 ≤ d) (N : Nat)   {mc ms n0 : Nat} {Q : zO → List zE → Prop} (n : Nat) : ∀ (v1 : Int32) (s : zS) (r : (Int32 × zS) ⊕ (zS)) (hf : fX10_read_L52 N  n v1 s = some r) (k1 : ∀ w s', r = .inl (w, s') → Q (.inl (some (.int w))) (zHp s')) (k2 : ∀  (s' : zS), r = .inr (s') → zW g mX10_read d mc ms n0 Q 0 0 (zHp s') [some (.ref 33), none] [] 107), zW g mX10_read d mc ms n0 Q 0 0 (zHp s) [some (.ref 33), some (.int v1)] [] 52 := by
  induction n with
  | zero => intro v1 s r hf; cases hf
  | succ n ih =>
    intro v1 s r hf k1 k2
    have hrec : ∀ (v1 : Int32) (s : zS) (r1 : (Int32 × zS) ⊕ (zS)), fX10_read_L52 N  n v1 s = some r1 → r1 = r → zW g mX10_read d mc ms n0 Q 0 0 (zHp s) [some (.ref 33), some (.int v1)] [] 52 := fun v1 s r1 h e => ih v1 s r1 h (by subst e; exact k1) (by subst e; exact k2)
    have hrec : ∀ (v1 : Int32) (s : zS), fX10_read_L52 N  n v1 s = some r → zW g mX10_read d mc ms n0 Q 0 0 (zHp s) [some (.ref 33), some (.int v1)] [] 52 := fun v1 s h => hrec v1 s r h rfl
    have hf : fX10_read_L52S N  (fX10_read_L52 N  n) v1 s = some r := hf
    unfold fX10_read_L52S at hf
    refine z_iload_n dX10_read_52 rfl ?_
    refine z_if_eq 107 dX10_read_53 (by decide) (fun c53 => ?_) (fun c53 => ?_)
    · have hf := zifp hf c53
      cases hf
      refine z_mask (ls' := [_, _]) [true, false] rfl ?_
      exact k2  _ rfl
    · have hf := zifn hf c53
      refine z_aload_n dX10_read_56 rfl ?_
      obtain ⟨x6, s7, q8, hf⟩ := zbn_of hf
      refine z_cV (as := []) hok dX10_read_57 kX10_177 (tX10_next hok (d - 1) (by omega) N   q8) rfl (at_Model s) rfl rfl (by omega) (Nat.le_of_ble_eq_true rfl) (Nat.zero_le _) (Nat.zero_le _) rfl ?_
      refine z_aload_n dX10_read_60 rfl ?_
      obtain ⟨x9, s10, q11, hf⟩ := zbn_of hf
      refine z_cV (as := []) hok dX10_read_61 kX10_232 (tX10_readLine hok (d - 1) (by omega) N   q11) rfl (at_Model s7) rfl rfl (by omega) (Nat.le_of_ble_eq_true rfl) (Nat.zero_le _) (Nat.zero_le _) rfl ?_
      refine z_if_eq 82 dX10_read_64 (by decide) (fun c64 => ?_) (fun c64 => ?_)
      · have hf := zifp hf c64
        refine z_mask (ls' := [_, _]) [true, false] rfl ?_
        exact tX10_read_J82 hok d (by omega) N   _ r k1 k2 hrec  s10 hf
      · have hf := zifn hf c64
        refine z_aload_n dX10_read_67 rfl ?_
        refine z_getf dX10_read_68 fX10_88 (at_Model s10) rfl ?_
        refine z_aload_n dX10_read_71 rfl ?_
        refine z_getf dX10_read_72 fX10_69 (at_Model s10) rfl ?_
        refine z_icmp_ge 82 dX10_read_75 (by decide) (fun c75 => ?_) (fun c75 => ?_)
        · have hf := zifp hf c75
          refine z_mask (ls' := [_, _]) [true, false] rfl ?_
          exact tX10_read_J82 hok d (by omega) N   _ r k1 k2 hrec  s10 hf
        · have hf := zifn hf c75
          refine z_iconst 1 dX10_read_78 (by decide +kernel) ?_
          refine z_goto 83 dX10_read_79 (by decide) ?_
          refine z_istore_n (ls' := [_, _]) dX10_read_83 (by decide) rfl ?_
          refine z_aload_n dX10_read_84 rfl ?_
          refine z_dup dX10_read_85 rfl ?_
          refine z_getf dX10_read_86 fX10_88 (at_Model s10) rfl ?_
          refine z_iconst 1 dX10_read_89 (by decide +kernel) ?_
          refine z_iadd dX10_read_90 ?_
          refine z_putf dX10_read_91 fX10_88 wX10_18 (at_Model s10) (Nat.le_of_ble_eq_true rfl) (fun _ => rfl) (fun _ => rfl) (st_Model_18 s10 ((s10.1 3318) + 1)) ?_
          refine z_aload_n dX10_read_94 rfl ?_
          refine z_dup dX10_read_95 rfl ?_
          refine z_getf dX10_read_96 fX10_220 (at_Model (zsc s10 3318 ((s10.1 3318) + 1))) rfl ?_
          refine z_iconst 1 dX10_read_99 (by decide +kernel) ?_
          refine z_iadd dX10_read_100 ?_
          refine z_putf dX10_read_101 fX10_220 wX10_19 (at_Model (zsc s10 3318 ((s10.1 3318) + 1))) (Nat.le_of_ble_eq_true rfl) (fun _ => rfl) (fun _ => rfl) (st_Model_19 (zsc s10 3318 ((s10.1 3318) + 1)) ((s10.1 3319) + 1)) ?_
          refine z_goto 52 dX10_read_104 (by decide) ?_
          refine z_mask (ls' := [_, _]) [true, true] rfl ?_
          exact hrec 1 (zsc (zsc s10 3318 ((s10.1 3318) + 1)) 3319 ((s10.1 3319) + 1)) hf
noncomputable def fX10_read_J136 (N : Nat)  (k0 : Int32) (s : zS) : Option (Int32 × zS) := if (s.1 3320) = 0 then if (s.1 3320) = 0 then zbn (fX10_keep N  (zsc (zsc s 3314 k0) 3300 0)) (fun x20 s21 => if zga 0 (zlen 36) = true then some (s21.2.1 36 (0 : Int32).toNatClampNeg, s21) else none) else some (0, (zsc (zsc s 3314 k0) 3300 0)) else if (s.1 3320) = 0 then zbn (fX10_keep N  (zsc (zsc s 3314 k0) 3300 1)) (fun x16 s17 => if zga 0 (zlen 36) = true then some (s17.2.1 36 (0 : Int32).toNatClampNeg, s17) else none) else some (0, (zsc (zsc s 3314 k0) 3300 1))
set_option maxHeartbeats 400000 in
set_option maxRecDepth 100000 in
theorem tX10_read_J136 {g : zGl} (hok : zGok g) (d : Nat) (hd : 10 ≤ d) (N : Nat)   {mc ms n0 : Nat} (k0 : Int32) {s s' : zS} {w : Int32} (hf : fX10_read_J136 N  k0 s = some (w, s')) : zW g mX10_read d mc ms n0 (zret (some (.int w)) (zHp s')) 0 0 (zHp s) [some (.ref 33), none] [.int k0, .ref 33] 136 := by
  unfold fX10_read_J136 at hf
  refine z_putf dX10_read_136 fX10_37 wX10_14 (at_Model s) (Nat.le_of_ble_eq_true rfl) (fun _ => rfl) (fun _ => rfl) (st_Model_14 s k0) ?_
  refine z_aload_n dX10_read_139 rfl ?_
  refine z_aload_n dX10_read_140 rfl ?_
  refine z_getf dX10_read_141 fX10_136 (at_Model (zsc s 3314 k0)) rfl ?_
  refine z_if_ne 151 dX10_read_144 (by decide) (fun c144 => ?_) (fun c144 => ?_)
  · have hf := zifn hf c144
    refine z_iconst 1 dX10_read_151 (by decide +kernel) ?_
    refine z_putf dX10_read_152 fX10_62 wX10_0 (at_Model (zsc s 3314 k0)) (Nat.le_of_ble_eq_true rfl) (fun _ => rfl) (fun _ => rfl) (st_Model_0 (zsc s 3314 k0) 1) ?_
    refine z_aload_n dX10_read_155 rfl ?_
    refine z_getf dX10_read_156 fX10_136 (at_Model (zsc (zsc s 3314 k0) 3300 1)) rfl ?_
    refine z_if_eq 164 dX10_read_159 (by decide) (fun c159 => ?_) (fun c159 => ?_)
    · have hf := zifp hf c159
      refine z_aload_n dX10_read_164 rfl ?_
      obtain ⟨x16, s17, q18, hf⟩ := zbn_of hf
      refine z_cV (as := []) hok dX10_read_165 kX10_238 (tX10_keep hok (d - 1) N   q18) rfl (at_Model (zsc (zsc s 3314 k0) 3300 1)) rfl rfl (by omega) (Nat.le_of_ble_eq_true rfl) (Nat.zero_le _) (Nat.zero_le _) rfl ?_
      refine z_aload_n dX10_read_168 rfl ?_
      refine z_getf dX10_read_169 fX10_16 (at_Model s17) rfl ?_
      refine z_iconst 0 dX10_read_172 (by decide +kernel) ?_
      obtain ⟨hi19, hf⟩ := zifs hf
      refine z_iald dX10_read_173 (at_arr s17 36 (by decide)) (zga_in hi19) ?_
      cases hf
      exact z_iret rfl dX10_read_174 (Nat.zero_le _) (Nat.zero_le _) ⟨rfl, rfl⟩
    · have hf := zifn hf c159
      refine z_iconst 0 dX10_read_162 (by decide +kernel) ?_
      cases hf
      exact z_iret rfl dX10_read_163 (Nat.zero_le _) (Nat.zero_le _) ⟨rfl, rfl⟩
  · have hf := zifp hf c144
    refine z_iconst 0 dX10_read_147 (by decide +kernel) ?_
    refine z_goto 152 dX10_read_148 (by decide) ?_
    refine z_putf dX10_read_152 fX10_62 wX10_0 (at_Model (zsc s 3314 k0)) (Nat.le_of_ble_eq_true rfl) (fun _ => rfl) (fun _ => rfl) (st_Model_0 (zsc s 3314 k0) 0) ?_
    refine z_aload_n dX10_read_155 rfl ?_
    refine z_getf dX10_read_156 fX10_136 (at_Model (zsc (zsc s 3314 k0) 3300 0)) rfl ?_
    refine z_if_eq 164 dX10_read_159 (by decide) (fun c159 => ?_) (fun c159 => ?_)
    · have hf := zifp hf c159
      refine z_aload_n dX10_read_164 rfl ?_
      obtain ⟨x20, s21, q22, hf⟩ := zbn_of hf
      refine z_cV (as := []) hok dX10_read_165 kX10_238 (tX10_keep hok (d - 1) N   q22) rfl (at_Model (zsc (zsc s 3314 k0) 3300 0)) rfl rfl (by omega) (Nat.le_of_ble_eq_true rfl) (Nat.zero_le _) (Nat.zero_le _) rfl ?_
      refine z_aload_n dX10_read_168 rfl ?_
      refine z_getf dX10_read_169 fX10_16 (at_Model s21) rfl ?_
      refine z_iconst 0 dX10_read_172 (by decide +kernel) ?_
      obtain ⟨hi23, hf⟩ := zifs hf
      refine z_iald dX10_read_173 (at_arr s21 36 (by decide)) (zga_in hi23) ?_
      cases hf
      exact z_iret rfl dX10_read_174 (Nat.zero_le _) (Nat.zero_le _) ⟨rfl, rfl⟩
    · have hf := zifn hf c159
      refine z_iconst 0 dX10_read_162 (by decide +kernel) ?_
      cases hf
      exact z_iret rfl dX10_read_163 (Nat.zero_le _) (Nat.zero_le _) ⟨rfl, rfl⟩
noncomputable def fX10_read (N : Nat)  (s : zS) : Option (Int32 × zS) := zbl (fX10_read_L2 N  N 0 s) (fun x => some x) (fun s5 => zbl (fX10_read_L52 N  N 1 (zsc (zsc (zsc (zsc (zsc (zsc s5 3312 0) 3324 0) 3320 0) 3321 (-1)) 3319 0) 3318 0)) (fun x => some x) (fun s15 => if (s15.1 3320) = 0 then fX10_read_J136 N  (-1) (zsc (zsc s15 3303 0) 3313 (s15.1 3320)) else fX10_read_J136 N  (s15.1 3321) (zsc (zsc s15 3303 0) 3313 (s15.1 3320))))
set_option maxHeartbeats 400000 in
set_option maxRecDepth 100000 in
theorem tX10_read {g : zGl} (hok : zGok g) (d : Nat) (hd : 10 ≤ d) (N : Nat)   {s s' : zS} {w : Int32} (hf : fX10_read N  s = some (w, s')) : zMet g mX10_read d 0 0 [.ref 33] (zHp s) (zret (some (.int w)) (zHp s')) := by
  refine zMet.ofW (by decide +kernel) (Nat.le_of_ble_eq_true rfl) ?_
  show zW g mX10_read d 0 0 51 _ 0 0 (zHp s) [some (.ref 33), none] [] 0
  unfold fX10_read at hf
  refine z_iconst 0 dX10_read_0 (by decide +kernel) ?_
  refine z_istore_n (ls' := [_, _]) dX10_read_1 (by decide) rfl ?_
  refine z_mask (ls' := [_, _]) [true, true] rfl ?_
  rcases zbl_of hf with ⟨lr3, le4, hf⟩ | ⟨lr3, le4, hf⟩
  · cases hf
    exact tX10_read_L2 hok d N   N 0 s _ le4 (fun w1 s1 hh => by cases hh; exact ⟨rfl, rfl⟩) (fun  _ hh => by cases hh)
  · obtain ⟨s5, rfl⟩ : ∃ z, z = lr3 := ⟨_, rfl⟩
    refine tX10_read_L2 hok d N   N 0 s _ le4 (fun w1 s1 hh => by cases hh) (fun  _ hh => ?_)
    cases hh
    refine z_aload_n dX10_read_20 rfl ?_
    refine z_iconst 0 dX10_read_21 (by decide +kernel) ?_
    refine z_putf dX10_read_22 fX10_208 wX10_12 (at_Model s5) (Nat.le_of_ble_eq_true rfl) (fun _ => rfl) (fun _ => rfl) (st_Model_12 s5 0) ?_
    refine z_aload_n dX10_read_25 rfl ?_
    refine z_iconst 0 dX10_read_26 (by decide +kernel) ?_
    refine z_putf dX10_read_27 fX10_146 wX10_24 (at_Model (zsc s5 3312 0)) (Nat.le_of_ble_eq_true rfl) (fun _ => rfl) (fun _ => rfl) (st_Model_24 (zsc s5 3312 0) 0) ?_
    refine z_aload_n dX10_read_30 rfl ?_
    refine z_iconst 0 dX10_read_31 (by decide +kernel) ?_
    refine z_putf dX10_read_32 fX10_136 wX10_20 (at_Model (zsc (zsc s5 3312 0) 3324 0)) (Nat.le_of_ble_eq_true rfl) (fun _ => rfl) (fun _ => rfl) (st_Model_20 (zsc (zsc s5 3312 0) 3324 0) 0) ?_
    refine z_aload_n dX10_read_35 rfl ?_
    refine z_iconst (-1) dX10_read_36 (by decide +kernel) ?_
    refine z_putf dX10_read_37 fX10_139 wX10_21 (at_Model (zsc (zsc (zsc s5 3312 0) 3324 0) 3320 0)) (Nat.le_of_ble_eq_true rfl) (fun _ => rfl) (fun _ => rfl) (st_Model_21 (zsc (zsc (zsc s5 3312 0) 3324 0) 3320 0) (-1)) ?_
    refine z_aload_n dX10_read_40 rfl ?_
    refine z_iconst 0 dX10_read_41 (by decide +kernel) ?_
    refine z_putf dX10_read_42 fX10_220 wX10_19 (at_Model (zsc (zsc (zsc (zsc s5 3312 0) 3324 0) 3320 0) 3321 (-1))) (Nat.le_of_ble_eq_true rfl) (fun _ => rfl) (fun _ => rfl) (st_Model_19 (zsc (zsc (zsc (zsc s5 3312 0) 3324 0) 3320 0) 3321 (-1)) 0) ?_
    refine z_aload_n dX10_read_45 rfl ?_
    refine z_iconst 0 dX10_read_46 (by decide +kernel) ?_
    refine z_putf dX10_read_47 fX10_88 wX10_18 (at_Model (zsc (zsc (zsc (zsc (zsc s5 3312 0) 3324 0) 3320 0) 3321 (-1)) 3319 0)) (Nat.le_of_ble_eq_true rfl) (fun _ => rfl) (fun _ => rfl) (st_Model_18 (zsc (zsc (zsc (zsc (zsc s5 3312 0) 3324 0) 3320 0) 3321 (-1)) 3319 0) 0) ?_
    refine z_iconst 1 dX10_read_50 (by decide +kernel) ?_
    refine z_istore_n (ls' := [_, _]) dX10_read_51 (by decide) rfl ?_
    refine z_mask (ls' := [_, _]) [true, true] rfl ?_
    rcases zbl_of hf with ⟨lr13, le14, hf⟩ | ⟨lr13, le14, hf⟩
    · cases hf
      exact tX10_read_L52 hok d (by omega) N   N 1 (zsc (zsc (zsc (zsc (zsc (zsc s5 3312 0) 3324 0) 3320 0) 3321 (-1)) 3319 0) 3318 0) _ le14 (fun w1 s1 hh => by cases hh; exact ⟨rfl, rfl⟩) (fun  _ hh => by cases hh)
    · obtain ⟨s15, rfl⟩ : ∃ z, z = lr13 := ⟨_, rfl⟩
      refine tX10_read_L52 hok d (by omega) N   N 1 (zsc (zsc (zsc (zsc (zsc (zsc s5 3312 0) 3324 0) 3320 0) 3321 (-1)) 3319 0) 3318 0) _ le14 (fun w1 s1 hh => by cases hh) (fun  _ hh => ?_)
      cases hh
      refine z_aload_n dX10_read_107 rfl ?_
      refine z_iconst 0 dX10_read_108 (by decide +kernel) ?_
      refine z_putf dX10_read_109 fX10_69 wX10_3 (at_Model s15) (Nat.le_of_ble_eq_true rfl) (fun _ => rfl) (fun _ => rfl) (st_Model_3 s15 0) ?_
      refine z_aload_n dX10_read_112 rfl ?_
      refine z_aload_n dX10_read_113 rfl ?_
      refine z_getf dX10_read_114 fX10_136 (at_Model (zsc s15 3303 0)) rfl ?_
      refine z_putf dX10_read_117 fX10_235 wX10_13 (at_Model (zsc s15 3303 0)) (Nat.le_of_ble_eq_true rfl) (fun _ => rfl) (fun _ => rfl) (st_Model_13 (zsc s15 3303 0) (s15.1 3320)) ?_
      refine z_aload_n dX10_read_120 rfl ?_
      refine z_aload_n dX10_read_121 rfl ?_
      refine z_getf dX10_read_122 fX10_136 (at_Model (zsc (zsc s15 3303 0) 3313 (s15.1 3320))) rfl ?_
      refine z_if_ne 132 dX10_read_125 (by decide) (fun c125 => ?_) (fun c125 => ?_)
      · have hf := zifn hf c125
        refine z_aload_n dX10_read_132 rfl ?_
        refine z_getf dX10_read_133 fX10_139 (at_Model (zsc (zsc s15 3303 0) 3313 (s15.1 3320))) rfl ?_
        refine z_mask (ls' := [_, _]) [true, false] rfl ?_
        exact tX10_read_J136 hok d (by omega) N   (s15.1 3321) hf
      · have hf := zifp hf c125
        refine z_iconst (-1) dX10_read_128 (by decide +kernel) ?_
        refine z_goto 136 dX10_read_129 (by decide) ?_
        refine z_mask (ls' := [_, _]) [true, false] rfl ?_
        exact tX10_read_J136 hok d (by omega) N   (-1) hf

noncomputable def fX10_fault (N : Nat) (p0 : Int32) (s : zS) : Option (Int32 × zS) := if p0 = 0 then some (s.1 3313, (zsc s 3300 0)) else if p0 = 1 then some (s.1 3314, (zsc s 3300 0)) else some ((-1), (zsc s 3300 0))
set_option maxHeartbeats 400000 in
set_option maxRecDepth 100000 in
theorem tX10_fault {g : zGl} (hok : zGok g) (d : Nat)  (N : Nat) (p0 : Int32)  {s s' : zS} {w : Int32} (hf : fX10_fault N p0 s = some (w, s')) : zMet g mX10_fault d 0 0 [.ref 33, .int p0] (zHp s) (zret (some (.int w)) (zHp s')) := by
  refine zMet.ofW (by decide +kernel) (Nat.le_of_ble_eq_true rfl) ?_
  show zW g mX10_fault d 0 0 51 _ 0 0 (zHp s) [some (.ref 33), some (.int p0)] [] 0
  unfold fX10_fault at hf
  refine z_aload_n dX10_fault_0 rfl ?_
  refine z_iconst 0 dX10_fault_1 (by decide +kernel) ?_
  refine z_putf dX10_fault_2 fX10_62 wX10_0 (at_Model s) (Nat.le_of_ble_eq_true rfl) (fun _ => rfl) (fun _ => rfl) (st_Model_0 s 0) ?_
  refine z_iload_n dX10_fault_5 rfl ?_
  refine z_if_ne 16 dX10_fault_6 (by decide) (fun c6 => ?_) (fun c6 => ?_)
  · have hf := zifn hf c6
    refine z_iload_n dX10_fault_16 rfl ?_
    refine z_iconst 1 dX10_fault_17 (by decide +kernel) ?_
    refine z_icmp_ne 28 dX10_fault_18 (by decide) (fun c18 => ?_) (fun c18 => ?_)
    · have hf := zifn hf c18
      refine z_iconst (-1) dX10_fault_28 (by decide +kernel) ?_
      cases hf
      exact z_iret rfl dX10_fault_29 (Nat.zero_le _) (Nat.zero_le _) ⟨rfl, rfl⟩
    · have hf := zifp hf c18
      refine z_aload_n dX10_fault_21 rfl ?_
      refine z_getf dX10_fault_22 fX10_37 (at_Model (zsc s 3300 0)) rfl ?_
      refine z_goto 29 dX10_fault_25 (by decide) ?_
      cases hf
      exact z_iret rfl dX10_fault_29 (Nat.zero_le _) (Nat.zero_le _) ⟨rfl, rfl⟩
  · have hf := zifp hf c6
    refine z_aload_n dX10_fault_9 rfl ?_
    refine z_getf dX10_fault_10 fX10_235 (at_Model (zsc s 3300 0)) rfl ?_
    refine z_goto 29 dX10_fault_13 (by decide) ?_
    cases hf
    exact z_iret rfl dX10_fault_29 (Nat.zero_le _) (Nat.zero_le _) ⟨rfl, rfl⟩

noncomputable def fX10_count (N : Nat) (p0 : Int32) (s : zS) : Option (Int32 × zS) := if p0 < 0 then some ((-1), (zsc s 3300 0)) else if 4 ≤ p0 then some ((-1), (zsc s 3300 0)) else if zga (4 + p0) (zlen 36) = true then some (s.2.1 36 (4 + p0).toNatClampNeg, (zsc s 3300 0)) else none
set_option maxHeartbeats 400000 in
set_option maxRecDepth 100000 in
theorem tX10_count {g : zGl} (hok : zGok g) (d : Nat)  (N : Nat) (p0 : Int32)  {s s' : zS} {w : Int32} (hf : fX10_count N p0 s = some (w, s')) : zMet g mX10_count d 0 0 [.ref 33, .int p0] (zHp s) (zret (some (.int w)) (zHp s')) := by
  refine zMet.ofW (by decide +kernel) (Nat.le_of_ble_eq_true rfl) ?_
  show zW g mX10_count d 0 0 51 _ 0 0 (zHp s) [some (.ref 33), some (.int p0)] [] 0
  unfold fX10_count at hf
  refine z_aload_n dX10_count_0 rfl ?_
  refine z_iconst 0 dX10_count_1 (by decide +kernel) ?_
  refine z_putf dX10_count_2 fX10_62 wX10_0 (at_Model s) (Nat.le_of_ble_eq_true rfl) (fun _ => rfl) (fun _ => rfl) (st_Model_0 s 0) ?_
  refine z_iload_n dX10_count_5 rfl ?_
  refine z_if_lt 25 dX10_count_6 (by decide) (fun c6 => ?_) (fun c6 => ?_)
  · have hf := zifp hf c6
    refine z_iconst (-1) dX10_count_25 (by decide +kernel) ?_
    cases hf
    exact z_iret rfl dX10_count_26 (Nat.zero_le _) (Nat.zero_le _) ⟨rfl, rfl⟩
  · have hf := zifn hf c6
    refine z_iload_n dX10_count_9 rfl ?_
    refine z_iconst 4 dX10_count_10 (by decide +kernel) ?_
    refine z_icmp_ge 25 dX10_count_11 (by decide) (fun c11 => ?_) (fun c11 => ?_)
    · have hf := zifp hf c11
      refine z_iconst (-1) dX10_count_25 (by decide +kernel) ?_
      cases hf
      exact z_iret rfl dX10_count_26 (Nat.zero_le _) (Nat.zero_le _) ⟨rfl, rfl⟩
    · have hf := zifn hf c11
      refine z_aload_n dX10_count_14 rfl ?_
      refine z_getf dX10_count_15 fX10_16 (at_Model (zsc s 3300 0)) rfl ?_
      refine z_iconst 4 dX10_count_18 (by decide +kernel) ?_
      refine z_iload_n dX10_count_19 rfl ?_
      refine z_iadd dX10_count_20 ?_
      obtain ⟨hi1, hf⟩ := zifs hf
      refine z_iald dX10_count_21 (at_arr (zsc s 3300 0) 36 (by decide)) (zga_in hi1) ?_
      refine z_goto 26 dX10_count_22 (by decide) ?_
      cases hf
      exact z_iret rfl dX10_count_26 (Nat.zero_le _) (Nat.zero_le _) ⟨rfl, rfl⟩

noncomputable def fX10_statement (N : Nat) (p0 : Int32) (p1 : Int32) (s : zS) : Option (Int32 × zS) := if p0 < 0 then some ((-1), (zsc s 3300 0)) else if zga 4 (zlen 36) = true then if (s.2.1 36 (4 : Int32).toNatClampNeg) ≤ p0 then some ((-1), (zsc s 3300 0)) else if p1 < 0 then some ((-1), (zsc s 3300 0)) else if 6 ≤ p1 then some ((-1), (zsc s 3300 0)) else if zga ((2400 + (6 * p0)) + p1) (zlen 37) = true then some (s.2.1 37 ((2400 + (6 * p0)) + p1).toNatClampNeg, (zsc s 3300 0)) else none else none
set_option maxHeartbeats 400000 in
set_option maxRecDepth 100000 in
theorem tX10_statement {g : zGl} (hok : zGok g) (d : Nat)  (N : Nat) (p0 : Int32) (p1 : Int32)  {s s' : zS} {w : Int32} (hf : fX10_statement N p0 p1 s = some (w, s')) : zMet g mX10_statement d 0 0 [.ref 33, .int p0, .int p1] (zHp s) (zret (some (.int w)) (zHp s')) := by
  refine zMet.ofW (by decide +kernel) (Nat.le_of_ble_eq_true rfl) ?_
  show zW g mX10_statement d 0 0 51 _ 0 0 (zHp s) [some (.ref 33), some (.int p0), some (.int p1)] [] 0
  unfold fX10_statement at hf
  refine z_aload_n dX10_statement_0 rfl ?_
  refine z_iconst 0 dX10_statement_1 (by decide +kernel) ?_
  refine z_putf dX10_statement_2 fX10_62 wX10_0 (at_Model s) (Nat.le_of_ble_eq_true rfl) (fun _ => rfl) (fun _ => rfl) (st_Model_0 s 0) ?_
  refine z_iload_n dX10_statement_5 rfl ?_
  refine z_if_lt 47 dX10_statement_6 (by decide) (fun c6 => ?_) (fun c6 => ?_)
  · have hf := zifp hf c6
    refine z_iconst (-1) dX10_statement_47 (by decide +kernel) ?_
    cases hf
    exact z_iret rfl dX10_statement_48 (Nat.zero_le _) (Nat.zero_le _) ⟨rfl, rfl⟩
  · have hf := zifn hf c6
    refine z_iload_n dX10_statement_9 rfl ?_
    refine z_aload_n dX10_statement_10 rfl ?_
    refine z_getf dX10_statement_11 fX10_16 (at_Model (zsc s 3300 0)) rfl ?_
    refine z_iconst 4 dX10_statement_14 (by decide +kernel) ?_
    obtain ⟨hi1, hf⟩ := zifs hf
    refine z_iald dX10_statement_15 (at_arr (zsc s 3300 0) 36 (by decide)) (zga_in hi1) ?_
    refine z_icmp_ge 47 dX10_statement_16 (by decide) (fun c16 => ?_) (fun c16 => ?_)
    · have hf := zifp hf c16
      refine z_iconst (-1) dX10_statement_47 (by decide +kernel) ?_
      cases hf
      exact z_iret rfl dX10_statement_48 (Nat.zero_le _) (Nat.zero_le _) ⟨rfl, rfl⟩
    · have hf := zifn hf c16
      refine z_iload_n dX10_statement_19 rfl ?_
      refine z_if_lt 47 dX10_statement_20 (by decide) (fun c20 => ?_) (fun c20 => ?_)
      · have hf := zifp hf c20
        refine z_iconst (-1) dX10_statement_47 (by decide +kernel) ?_
        cases hf
        exact z_iret rfl dX10_statement_48 (Nat.zero_le _) (Nat.zero_le _) ⟨rfl, rfl⟩
      · have hf := zifn hf c20
        refine z_iload_n dX10_statement_23 rfl ?_
        refine z_bipush 6 dX10_statement_24 (by decide +kernel) ?_
        refine z_icmp_ge 47 dX10_statement_26 (by decide) (fun c26 => ?_) (fun c26 => ?_)
        · have hf := zifp hf c26
          refine z_iconst (-1) dX10_statement_47 (by decide +kernel) ?_
          cases hf
          exact z_iret rfl dX10_statement_48 (Nat.zero_le _) (Nat.zero_le _) ⟨rfl, rfl⟩
        · have hf := zifn hf c26
          refine z_aload_n dX10_statement_29 rfl ?_
          refine z_getf dX10_statement_30 fX10_19 (at_Model (zsc s 3300 0)) rfl ?_
          refine z_sipush 2400 dX10_statement_33 (by decide +kernel) ?_
          refine z_bipush 6 dX10_statement_36 (by decide +kernel) ?_
          refine z_iload_n dX10_statement_38 rfl ?_
          refine z_imul dX10_statement_39 ?_
          refine z_iadd dX10_statement_40 ?_
          refine z_iload_n dX10_statement_41 rfl ?_
          refine z_iadd dX10_statement_42 ?_
          obtain ⟨hi2, hf⟩ := zifs hf
          refine z_iald dX10_statement_43 (at_arr (zsc s 3300 0) 37 (by decide)) (zga_in hi2) ?_
          refine z_goto 48 dX10_statement_44 (by decide) ?_
          cases hf
          exact z_iret rfl dX10_statement_48 (Nat.zero_le _) (Nat.zero_le _) ⟨rfl, rfl⟩

noncomputable def fX10_operand (N : Nat) (p0 : Int32) (p1 : Int32) (s : zS) : Option (Int32 × zS) := if p0 < 0 then some ((-1), (zsc s 3300 0)) else if zga 5 (zlen 36) = true then if (s.2.1 36 (5 : Int32).toNatClampNeg) ≤ p0 then some ((-1), (zsc s 3300 0)) else if p1 < 0 then some ((-1), (zsc s 3300 0)) else if 7 ≤ p1 then some ((-1), (zsc s 3300 0)) else if zga ((5600 + (7 * p0)) + p1) (zlen 38) = true then some (s.2.1 38 ((5600 + (7 * p0)) + p1).toNatClampNeg, (zsc s 3300 0)) else none else none
set_option maxHeartbeats 400000 in
set_option maxRecDepth 100000 in
theorem tX10_operand {g : zGl} (hok : zGok g) (d : Nat)  (N : Nat) (p0 : Int32) (p1 : Int32)  {s s' : zS} {w : Int32} (hf : fX10_operand N p0 p1 s = some (w, s')) : zMet g mX10_operand d 0 0 [.ref 33, .int p0, .int p1] (zHp s) (zret (some (.int w)) (zHp s')) := by
  refine zMet.ofW (by decide +kernel) (Nat.le_of_ble_eq_true rfl) ?_
  show zW g mX10_operand d 0 0 51 _ 0 0 (zHp s) [some (.ref 33), some (.int p0), some (.int p1)] [] 0
  unfold fX10_operand at hf
  refine z_aload_n dX10_operand_0 rfl ?_
  refine z_iconst 0 dX10_operand_1 (by decide +kernel) ?_
  refine z_putf dX10_operand_2 fX10_62 wX10_0 (at_Model s) (Nat.le_of_ble_eq_true rfl) (fun _ => rfl) (fun _ => rfl) (st_Model_0 s 0) ?_
  refine z_iload_n dX10_operand_5 rfl ?_
  refine z_if_lt 47 dX10_operand_6 (by decide) (fun c6 => ?_) (fun c6 => ?_)
  · have hf := zifp hf c6
    refine z_iconst (-1) dX10_operand_47 (by decide +kernel) ?_
    cases hf
    exact z_iret rfl dX10_operand_48 (Nat.zero_le _) (Nat.zero_le _) ⟨rfl, rfl⟩
  · have hf := zifn hf c6
    refine z_iload_n dX10_operand_9 rfl ?_
    refine z_aload_n dX10_operand_10 rfl ?_
    refine z_getf dX10_operand_11 fX10_16 (at_Model (zsc s 3300 0)) rfl ?_
    refine z_iconst 5 dX10_operand_14 (by decide +kernel) ?_
    obtain ⟨hi1, hf⟩ := zifs hf
    refine z_iald dX10_operand_15 (at_arr (zsc s 3300 0) 36 (by decide)) (zga_in hi1) ?_
    refine z_icmp_ge 47 dX10_operand_16 (by decide) (fun c16 => ?_) (fun c16 => ?_)
    · have hf := zifp hf c16
      refine z_iconst (-1) dX10_operand_47 (by decide +kernel) ?_
      cases hf
      exact z_iret rfl dX10_operand_48 (Nat.zero_le _) (Nat.zero_le _) ⟨rfl, rfl⟩
    · have hf := zifn hf c16
      refine z_iload_n dX10_operand_19 rfl ?_
      refine z_if_lt 47 dX10_operand_20 (by decide) (fun c20 => ?_) (fun c20 => ?_)
      · have hf := zifp hf c20
        refine z_iconst (-1) dX10_operand_47 (by decide +kernel) ?_
        cases hf
        exact z_iret rfl dX10_operand_48 (Nat.zero_le _) (Nat.zero_le _) ⟨rfl, rfl⟩
      · have hf := zifn hf c20
        refine z_iload_n dX10_operand_23 rfl ?_
        refine z_bipush 7 dX10_operand_24 (by decide +kernel) ?_
        refine z_icmp_ge 47 dX10_operand_26 (by decide) (fun c26 => ?_) (fun c26 => ?_)
        · have hf := zifp hf c26
          refine z_iconst (-1) dX10_operand_47 (by decide +kernel) ?_
          cases hf
          exact z_iret rfl dX10_operand_48 (Nat.zero_le _) (Nat.zero_le _) ⟨rfl, rfl⟩
        · have hf := zifn hf c26
          refine z_aload_n dX10_operand_29 rfl ?_
          refine z_getf dX10_operand_30 fX10_22 (at_Model (zsc s 3300 0)) rfl ?_
          refine z_sipush 5600 dX10_operand_33 (by decide +kernel) ?_
          refine z_bipush 7 dX10_operand_36 (by decide +kernel) ?_
          refine z_iload_n dX10_operand_38 rfl ?_
          refine z_imul dX10_operand_39 ?_
          refine z_iadd dX10_operand_40 ?_
          refine z_iload_n dX10_operand_41 rfl ?_
          refine z_iadd dX10_operand_42 ?_
          obtain ⟨hi2, hf⟩ := zifs hf
          refine z_iald dX10_operand_43 (at_arr (zsc s 3300 0) 38 (by decide)) (zga_in hi2) ?_
          refine z_goto 48 dX10_operand_44 (by decide) ?_
          cases hf
          exact z_iret rfl dX10_operand_48 (Nat.zero_le _) (Nat.zero_le _) ⟨rfl, rfl⟩

noncomputable def fX10_item (N : Nat) (p0 : Int32) (p1 : Int32) (s : zS) : Option (Int32 × zS) := if p0 < 0 then some (0, (zsc s 3300 0)) else if zga 6 (zlen 36) = true then if (s.2.1 36 (6 : Int32).toNatClampNeg) ≤ p0 then some (0, (zsc s 3300 0)) else if p1 < 0 then some (0, (zsc s 3300 0)) else if 2 ≤ p1 then some (0, (zsc s 3300 0)) else if zga ((4000 + (2 * p0)) + p1) (zlen 39) = true then some (s.2.1 39 ((4000 + (2 * p0)) + p1).toNatClampNeg, (zsc s 3300 0)) else none else none
set_option maxHeartbeats 400000 in
set_option maxRecDepth 100000 in
theorem tX10_item {g : zGl} (hok : zGok g) (d : Nat)  (N : Nat) (p0 : Int32) (p1 : Int32)  {s s' : zS} {w : Int32} (hf : fX10_item N p0 p1 s = some (w, s')) : zMet g mX10_item d 0 0 [.ref 33, .int p0, .int p1] (zHp s) (zret (some (.int w)) (zHp s')) := by
  refine zMet.ofW (by decide +kernel) (Nat.le_of_ble_eq_true rfl) ?_
  show zW g mX10_item d 0 0 51 _ 0 0 (zHp s) [some (.ref 33), some (.int p0), some (.int p1)] [] 0
  unfold fX10_item at hf
  refine z_aload_n dX10_item_0 rfl ?_
  refine z_iconst 0 dX10_item_1 (by decide +kernel) ?_
  refine z_putf dX10_item_2 fX10_62 wX10_0 (at_Model s) (Nat.le_of_ble_eq_true rfl) (fun _ => rfl) (fun _ => rfl) (st_Model_0 s 0) ?_
  refine z_iload_n dX10_item_5 rfl ?_
  refine z_if_lt 46 dX10_item_6 (by decide) (fun c6 => ?_) (fun c6 => ?_)
  · have hf := zifp hf c6
    refine z_iconst 0 dX10_item_46 (by decide +kernel) ?_
    cases hf
    exact z_iret rfl dX10_item_47 (Nat.zero_le _) (Nat.zero_le _) ⟨rfl, rfl⟩
  · have hf := zifn hf c6
    refine z_iload_n dX10_item_9 rfl ?_
    refine z_aload_n dX10_item_10 rfl ?_
    refine z_getf dX10_item_11 fX10_16 (at_Model (zsc s 3300 0)) rfl ?_
    refine z_bipush 6 dX10_item_14 (by decide +kernel) ?_
    obtain ⟨hi1, hf⟩ := zifs hf
    refine z_iald dX10_item_16 (at_arr (zsc s 3300 0) 36 (by decide)) (zga_in hi1) ?_
    refine z_icmp_ge 46 dX10_item_17 (by decide) (fun c17 => ?_) (fun c17 => ?_)
    · have hf := zifp hf c17
      refine z_iconst 0 dX10_item_46 (by decide +kernel) ?_
      cases hf
      exact z_iret rfl dX10_item_47 (Nat.zero_le _) (Nat.zero_le _) ⟨rfl, rfl⟩
    · have hf := zifn hf c17
      refine z_iload_n dX10_item_20 rfl ?_
      refine z_if_lt 46 dX10_item_21 (by decide) (fun c21 => ?_) (fun c21 => ?_)
      · have hf := zifp hf c21
        refine z_iconst 0 dX10_item_46 (by decide +kernel) ?_
        cases hf
        exact z_iret rfl dX10_item_47 (Nat.zero_le _) (Nat.zero_le _) ⟨rfl, rfl⟩
      · have hf := zifn hf c21
        refine z_iload_n dX10_item_24 rfl ?_
        refine z_iconst 2 dX10_item_25 (by decide +kernel) ?_
        refine z_icmp_ge 46 dX10_item_26 (by decide) (fun c26 => ?_) (fun c26 => ?_)
        · have hf := zifp hf c26
          refine z_iconst 0 dX10_item_46 (by decide +kernel) ?_
          cases hf
          exact z_iret rfl dX10_item_47 (Nat.zero_le _) (Nat.zero_le _) ⟨rfl, rfl⟩
        · have hf := zifn hf c26
          refine z_aload_n dX10_item_29 rfl ?_
          refine z_getf dX10_item_30 fX10_25 (at_Model (zsc s 3300 0)) rfl ?_
          refine z_sipush 4000 dX10_item_33 (by decide +kernel) ?_
          refine z_iconst 2 dX10_item_36 (by decide +kernel) ?_
          refine z_iload_n dX10_item_37 rfl ?_
          refine z_imul dX10_item_38 ?_
          refine z_iadd dX10_item_39 ?_
          refine z_iload_n dX10_item_40 rfl ?_
          refine z_iadd dX10_item_41 ?_
          obtain ⟨hi2, hf⟩ := zifs hf
          refine z_iald dX10_item_42 (at_arr (zsc s 3300 0) 39 (by decide)) (zga_in hi2) ?_
          refine z_goto 47 dX10_item_43 (by decide) ?_
          cases hf
          exact z_iret rfl dX10_item_47 (Nat.zero_le _) (Nat.zero_le _) ⟨rfl, rfl⟩

noncomputable def fX10_worked (N : Nat) (p0 : Int32) (p1 : Int32) (p2 : Int32) (s : zS) : Option (Int32 × zS) := if p0 = 12 then some (p1 + p2, s) else if p0 = 13 then some (p1 - p2, s) else if p0 = 14 then some (p1 * p2, s) else if p0 = 15 then if p2 = (-1) then some (-p1, s) else if ¬ p2 = 0 then some (p1 / p2, s) else none else if p0 = 16 then if p2 = (-1) then some (0, s) else if ¬ p2 = 0 then some (p1 - p1 / p2 * p2, s) else none else if p0 = 17 then some (p1 <<< ((p2 &&& 31) &&& 31), s) else if p0 = 18 then some ((p1.toUInt32 >>> ((p2 &&& 31).toUInt32 &&& Int32.toUInt32 31)).toInt32, s) else if p0 = 19 then some (p1 &&& p2, s) else if p0 = 20 then some (p1 ^^^ p2, s) else some (p1 ||| p2, s)
set_option maxHeartbeats 400000 in
set_option maxRecDepth 100000 in
theorem tX10_worked {g : zGl} (hok : zGok g) (d : Nat)  (N : Nat) (p0 : Int32) (p1 : Int32) (p2 : Int32)  {s s' : zS} {w : Int32} (hf : fX10_worked N p0 p1 p2 s = some (w, s')) : zMet g mX10_worked d 0 0 [.int p0, .int p1, .int p2] (zHp s) (zret (some (.int w)) (zHp s')) := by
  refine zMet.ofW (by decide +kernel) (Nat.le_of_ble_eq_true rfl) ?_
  show zW g mX10_worked d 0 0 51 _ 0 0 (zHp s) [some (.int p0), some (.int p1), some (.int p2)] [] 0
  unfold fX10_worked at hf
  refine z_iload_n dX10_worked_0 rfl ?_
  refine z_tab [(12, 52), (13, 56), (14, 60), (15, 64), (16, 78), (17, 91), (18, 98), (19, 105), (20, 109)] 113 dX10_worked_1 (by decide +kernel) (by decide +kernel) (by decide +kernel) (by decide +kernel) ?_
  refine z_selc (fun c1_0 => ?_) (fun c1_0 => ?_)
  · have hf := zifp hf c1_0
    refine z_iload_n dX10_worked_52 rfl ?_
    refine z_iload_n dX10_worked_53 rfl ?_
    refine z_iadd dX10_worked_54 ?_
    cases hf
    exact z_iret rfl dX10_worked_55 (Nat.zero_le _) (Nat.zero_le _) ⟨rfl, rfl⟩
  · have hf := zifn hf c1_0
    refine z_selc (fun c1_1 => ?_) (fun c1_1 => ?_)
    · have hf := zifp hf c1_1
      refine z_iload_n dX10_worked_56 rfl ?_
      refine z_iload_n dX10_worked_57 rfl ?_
      refine z_isub dX10_worked_58 ?_
      cases hf
      exact z_iret rfl dX10_worked_59 (Nat.zero_le _) (Nat.zero_le _) ⟨rfl, rfl⟩
    · have hf := zifn hf c1_1
      refine z_selc (fun c1_2 => ?_) (fun c1_2 => ?_)
      · have hf := zifp hf c1_2
        refine z_iload_n dX10_worked_60 rfl ?_
        refine z_iload_n dX10_worked_61 rfl ?_
        refine z_imul dX10_worked_62 ?_
        cases hf
        exact z_iret rfl dX10_worked_63 (Nat.zero_le _) (Nat.zero_le _) ⟨rfl, rfl⟩
      · have hf := zifn hf c1_2
        refine z_selc (fun c1_3 => ?_) (fun c1_3 => ?_)
        · have hf := zifp hf c1_3
          refine z_iload_n dX10_worked_64 rfl ?_
          refine z_iconst (-1) dX10_worked_65 (by decide +kernel) ?_
          refine z_icmp_ne 74 dX10_worked_66 (by decide) (fun c66 => ?_) (fun c66 => ?_)
          · have hf := zifn hf c66
            refine z_iload_n dX10_worked_74 rfl ?_
            refine z_iload_n dX10_worked_75 rfl ?_
            obtain ⟨nz1, hf⟩ := zifs hf
            refine z_idiv dX10_worked_76 nz1 ?_
            cases hf
            exact z_iret rfl dX10_worked_77 (Nat.zero_le _) (Nat.zero_le _) ⟨rfl, rfl⟩
          · have hf := zifp hf c66
            refine z_iload_n dX10_worked_69 rfl ?_
            refine z_ineg dX10_worked_70 ?_
            refine z_goto 77 dX10_worked_71 (by decide) ?_
            cases hf
            exact z_iret rfl dX10_worked_77 (Nat.zero_le _) (Nat.zero_le _) ⟨rfl, rfl⟩
        · have hf := zifn hf c1_3
          refine z_selc (fun c1_4 => ?_) (fun c1_4 => ?_)
          · have hf := zifp hf c1_4
            refine z_iload_n dX10_worked_78 rfl ?_
            refine z_iconst (-1) dX10_worked_79 (by decide +kernel) ?_
            refine z_icmp_ne 87 dX10_worked_80 (by decide) (fun c80 => ?_) (fun c80 => ?_)
            · have hf := zifn hf c80
              refine z_iload_n dX10_worked_87 rfl ?_
              refine z_iload_n dX10_worked_88 rfl ?_
              obtain ⟨nz2, hf⟩ := zifs hf
              refine z_irem dX10_worked_89 nz2 ?_
              cases hf
              exact z_iret rfl dX10_worked_90 (Nat.zero_le _) (Nat.zero_le _) ⟨rfl, rfl⟩
            · have hf := zifp hf c80
              refine z_iconst 0 dX10_worked_83 (by decide +kernel) ?_
              refine z_goto 90 dX10_worked_84 (by decide) ?_
              cases hf
              exact z_iret rfl dX10_worked_90 (Nat.zero_le _) (Nat.zero_le _) ⟨rfl, rfl⟩
          · have hf := zifn hf c1_4
            refine z_selc (fun c1_5 => ?_) (fun c1_5 => ?_)
            · have hf := zifp hf c1_5
              refine z_iload_n dX10_worked_91 rfl ?_
              refine z_iload_n dX10_worked_92 rfl ?_
              refine z_bipush 31 dX10_worked_93 (by decide +kernel) ?_
              refine z_iand dX10_worked_95 ?_
              refine z_ishl dX10_worked_96 ?_
              cases hf
              exact z_iret rfl dX10_worked_97 (Nat.zero_le _) (Nat.zero_le _) ⟨rfl, rfl⟩
            · have hf := zifn hf c1_5
              refine z_selc (fun c1_6 => ?_) (fun c1_6 => ?_)
              · have hf := zifp hf c1_6
                refine z_iload_n dX10_worked_98 rfl ?_
                refine z_iload_n dX10_worked_99 rfl ?_
                refine z_bipush 31 dX10_worked_100 (by decide +kernel) ?_
                refine z_iand dX10_worked_102 ?_
                refine z_iushr dX10_worked_103 ?_
                cases hf
                exact z_iret rfl dX10_worked_104 (Nat.zero_le _) (Nat.zero_le _) ⟨rfl, rfl⟩
              · have hf := zifn hf c1_6
                refine z_selc (fun c1_7 => ?_) (fun c1_7 => ?_)
                · have hf := zifp hf c1_7
                  refine z_iload_n dX10_worked_105 rfl ?_
                  refine z_iload_n dX10_worked_106 rfl ?_
                  refine z_iand dX10_worked_107 ?_
                  cases hf
                  exact z_iret rfl dX10_worked_108 (Nat.zero_le _) (Nat.zero_le _) ⟨rfl, rfl⟩
                · have hf := zifn hf c1_7
                  refine z_selc (fun c1_8 => ?_) (fun c1_8 => ?_)
                  · have hf := zifp hf c1_8
                    refine z_iload_n dX10_worked_109 rfl ?_
                    refine z_iload_n dX10_worked_110 rfl ?_
                    refine z_ixor dX10_worked_111 ?_
                    cases hf
                    exact z_iret rfl dX10_worked_112 (Nat.zero_le _) (Nat.zero_le _) ⟨rfl, rfl⟩
                  · have hf := zifn hf c1_8
                    refine z_seln ?_
                    refine z_iload_n dX10_worked_113 rfl ?_
                    refine z_iload_n dX10_worked_114 rfl ?_
                    refine z_ior dX10_worked_115 ?_
                    cases hf
                    exact z_iret rfl dX10_worked_116 (Nat.zero_le _) (Nat.zero_le _) ⟨rfl, rfl⟩

noncomputable def fX10_constant_J215 (N : Nat) (p0 : Int32) (rec : Int32 → Int32 → Int32 → Int32 → zS → Option ((Int64 × zS) ⊕ (Int32 × zS))) (v2 : Int32) (v3 : Int32) (v4 : Int32) (v5 : Int32) (v6 : Int32) (s : zS) : Option ((Int64 × zS) ⊕ (Int32 × zS)) := if zga (v4 - 1) (zlen 47) = true then if zga v4 (zlen 47) = true then zbn (fX10_worked N v6 (s.2.1 47 (v4 - 1).toNatClampNeg) (s.2.1 47 v4.toNatClampNeg) s) (fun x9 s10 => if zga (v4 - 1) (zlen 47) = true then rec v2 v3 v4 (v5 + 1) (zsr s10 47 (v4 - 1) x9) else none) else none else none
set_option maxHeartbeats 400000 in
set_option maxRecDepth 100000 in
theorem tX10_constant_J215 {g : zGl} (hok : zGok g) (d : Nat) (hd : 1 ≤ d) (N : Nat) (p0 : Int32)  {mc ms n0 : Nat} {Q : zO → List zE → Prop} (rec : Int32 → Int32 → Int32 → Int32 → zS → Option ((Int64 × zS) ⊕ (Int32 × zS))) (r : (Int64 × zS) ⊕ (Int32 × zS)) (k1 : ∀ w s', r = .inl (w, s') → Q (.inl (some (.long w))) (zHp s')) (k2 : ∀ (y3 : Int32) (s' : zS), r = .inr (y3, s') → zW g mX10_constant d mc ms n0 Q 0 0 (zHp s') [some (.ref 33), some (.int p0), none, some (.int y3), none, none, none, none] [] 251) (hrec : ∀ (v2 : Int32) (v3 : Int32) (v4 : Int32) (v5 : Int32) (s : zS), rec v2 v3 v4 v5 s = some r → zW g mX10_constant d mc ms n0 Q 0 0 (zHp s) [some (.ref 33), some (.int p0), some (.int v2), some (.int v3), some (.int v4), some (.int v5), none, none] [] 61) (v2 : Int32) (v3 : Int32) (v4 : Int32) (v5 : Int32) (v6 : Int32) (s : zS) (hf : fX10_constant_J215 N p0 rec v2 v3 v4 v5 v6 s = some r) : zW g mX10_constant d mc ms n0 Q 0 0 (zHp s) [some (.ref 33), some (.int p0), some (.int v2), some (.int v3), some (.int v4), some (.int v5), some (.int v6), none] [] 215 := by
  unfold fX10_constant_J215 at hf
  refine z_aload_n dX10_constant_215 rfl ?_
  refine z_getf dX10_constant_216 fX10_53 (at_Model s) rfl ?_
  refine z_iload dX10_constant_219 rfl ?_
  refine z_iconst 1 dX10_constant_221 (by decide +kernel) ?_
  refine z_isub dX10_constant_222 ?_
  refine z_iload dX10_constant_223 rfl ?_
  refine z_aload_n dX10_constant_225 rfl ?_
  refine z_getf dX10_constant_226 fX10_53 (at_Model s) rfl ?_
  refine z_iload dX10_constant_229 rfl ?_
  refine z_iconst 1 dX10_constant_231 (by decide +kernel) ?_
  refine z_isub dX10_constant_232 ?_
  obtain ⟨hi7, hf⟩ := zifs hf
  refine z_iald dX10_constant_233 (at_arr s 47 (by decide)) (zga_in hi7) ?_
  refine z_aload_n dX10_constant_234 rfl ?_
  refine z_getf dX10_constant_235 fX10_53 (at_Model s) rfl ?_
  refine z_iload dX10_constant_238 rfl ?_
  obtain ⟨hi8, hf⟩ := zifs hf
  refine z_iald dX10_constant_240 (at_arr s 47 (by decide)) (zga_in hi8) ?_
  obtain ⟨x9, s10, q11, hf⟩ := zbn_of hf
  refine z_cS (as := [_, _, _]) hok dX10_constant_241 kX10_243 (tX10_worked hok (d - 1) N v6 (s.2.1 47 (v4 - 1).toNatClampNeg) (s.2.1 47 v4.toNatClampNeg)  q11) rfl rfl (by omega) (Nat.le_of_ble_eq_true rfl) (Nat.zero_le _) (Nat.zero_le _) rfl ?_
  obtain ⟨hi12, hf⟩ := zifs hf
  refine z_iastore dX10_constant_244 (at_arr s10 47 (by decide)) (zga_in hi12) (st_arr s10 47 (by decide) (v4 - 1) x9) ?_
  refine z_iinc (ls' := [_, _, _, _, _, _, _, _]) (v5 + 1) dX10_constant_245 rfl rfl (by decide) rfl ?_
  refine z_goto 61 dX10_constant_248 (by decide) ?_
  refine z_mask (ls' := [_, _, _, _, _, _, _, _]) [true, true, true, true, true, true, false, false] rfl ?_
  exact hrec v2 v3 v4 (v5 + 1) (zsr s10 47 (v4 - 1) x9) hf
noncomputable def fX10_constant_J114 (N : Nat) (p0 : Int32) (rec : Int32 → Int32 → Int32 → Int32 → zS → Option ((Int64 × zS) ⊕ (Int32 × zS))) (v2 : Int32) (v3 : Int32) (v4 : Int32) (v5 : Int32) (v6 : Int32) (v7 : Int32) (s : zS) : Option ((Int64 × zS) ⊕ (Int32 × zS)) := if v6 = 0 then if zga v4 (zlen 47) = true then rec v2 v3 (v4 + 1) (v5 + 1) (zsr s 47 v4 v7) else none else if 12 ≤ v6 then if zga (v4 + (-1)) (zlen 47) = true then if (s.2.1 47 (v4 + (-1)).toNatClampNeg) = 0 then if v6 = 15 then some (.inl (1099511627776, s)) else if v6 = 16 then some (.inl (1099511627776, s)) else fX10_constant_J215 N p0 rec v2 v3 (v4 + (-1)) v5 v6 s else fX10_constant_J215 N p0 rec v2 v3 (v4 + (-1)) v5 v6 s else none else if v6 = 10 then if zga (v4 - 1) (zlen 47) = true then if zga (v4 - 1) (zlen 47) = true then rec v2 v3 v4 (v5 + 1) (zsr s 47 (v4 - 1) (-(s.2.1 47 (v4 - 1).toNatClampNeg))) else none else none else if zga (v4 - 1) (zlen 47) = true then if zga (v4 - 1) (zlen 47) = true then rec v2 v3 v4 (v5 + 1) (zsr s 47 (v4 - 1) ((s.2.1 47 (v4 - 1).toNatClampNeg) ^^^ (-1))) else none else none
set_option maxHeartbeats 400000 in
set_option maxRecDepth 100000 in
theorem tX10_constant_J114 {g : zGl} (hok : zGok g) (d : Nat) (hd : 1 ≤ d) (N : Nat) (p0 : Int32)  {mc ms n0 : Nat} {Q : zO → List zE → Prop} (rec : Int32 → Int32 → Int32 → Int32 → zS → Option ((Int64 × zS) ⊕ (Int32 × zS))) (r : (Int64 × zS) ⊕ (Int32 × zS)) (k1 : ∀ w s', r = .inl (w, s') → Q (.inl (some (.long w))) (zHp s')) (k2 : ∀ (y3 : Int32) (s' : zS), r = .inr (y3, s') → zW g mX10_constant d mc ms n0 Q 0 0 (zHp s') [some (.ref 33), some (.int p0), none, some (.int y3), none, none, none, none] [] 251) (hrec : ∀ (v2 : Int32) (v3 : Int32) (v4 : Int32) (v5 : Int32) (s : zS), rec v2 v3 v4 v5 s = some r → zW g mX10_constant d mc ms n0 Q 0 0 (zHp s) [some (.ref 33), some (.int p0), some (.int v2), some (.int v3), some (.int v4), some (.int v5), none, none] [] 61) (v2 : Int32) (v3 : Int32) (v4 : Int32) (v5 : Int32) (v6 : Int32) (v7 : Int32) (s : zS) (hf : fX10_constant_J114 N p0 rec v2 v3 v4 v5 v6 v7 s = some r) : zW g mX10_constant d mc ms n0 Q 0 0 (zHp s) [some (.ref 33), some (.int p0), some (.int v2), some (.int v3), some (.int v4), some (.int v5), some (.int v6), some (.int v7)] [] 114 := by
  unfold fX10_constant_J114 at hf
  refine z_iload dX10_constant_114 rfl ?_
  refine z_if_ne 134 dX10_constant_116 (by decide) (fun c116 => ?_) (fun c116 => ?_)
  · have hf := zifn hf c116
    refine z_iload dX10_constant_134 rfl ?_
    refine z_bipush 12 dX10_constant_136 (by decide +kernel) ?_
    refine z_icmp_ge 184 dX10_constant_138 (by decide) (fun c138 => ?_) (fun c138 => ?_)
    · have hf := zifp hf c138
      refine z_iinc (ls' := [_, _, _, _, _, _, _, _]) (v4 + (-1)) dX10_constant_184 rfl rfl (by decide) rfl ?_
      refine z_aload_n dX10_constant_187 rfl ?_
      refine z_getf dX10_constant_188 fX10_53 (at_Model s) rfl ?_
      refine z_iload dX10_constant_191 rfl ?_
      obtain ⟨hi6, hf⟩ := zifs hf
      refine z_iald dX10_constant_193 (at_arr s 47 (by decide)) (zga_in hi6) ?_
      refine z_if_ne 215 dX10_constant_194 (by decide) (fun c194 => ?_) (fun c194 => ?_)
      · have hf := zifn hf c194
        refine z_mask (ls' := [_, _, _, _, _, _, _, _]) [true, true, true, true, true, true, true, false] rfl ?_
        exact tX10_constant_J215 hok d (by omega) N p0  _ r k1 k2 hrec v2 v3 (v4 + (-1)) v5 v6 s hf
      · have hf := zifp hf c194
        refine z_iload dX10_constant_197 rfl ?_
        refine z_bipush 15 dX10_constant_199 (by decide +kernel) ?_
        refine z_icmp_eq 211 dX10_constant_201 (by decide) (fun c201 => ?_) (fun c201 => ?_)
        · have hf := zifp hf c201
          refine z_ldc2 dX10_constant_211 lX10_241 ?_
          cases hf
          exact z_lret rfl dX10_constant_214 (Nat.zero_le _) (Nat.zero_le _) (k1 _ _ rfl)
        · have hf := zifn hf c201
          refine z_iload dX10_constant_204 rfl ?_
          refine z_bipush 16 dX10_constant_206 (by decide +kernel) ?_
          refine z_icmp_ne 215 dX10_constant_208 (by decide) (fun c208 => ?_) (fun c208 => ?_)
          · have hf := zifn hf c208
            refine z_mask (ls' := [_, _, _, _, _, _, _, _]) [true, true, true, true, true, true, true, false] rfl ?_
            exact tX10_constant_J215 hok d (by omega) N p0  _ r k1 k2 hrec v2 v3 (v4 + (-1)) v5 v6 s hf
          · have hf := zifp hf c208
            refine z_ldc2 dX10_constant_211 lX10_241 ?_
            cases hf
            exact z_lret rfl dX10_constant_214 (Nat.zero_le _) (Nat.zero_le _) (k1 _ _ rfl)
    · have hf := zifn hf c138
      refine z_aload_n dX10_constant_141 rfl ?_
      refine z_getf dX10_constant_142 fX10_53 (at_Model s) rfl ?_
      refine z_iload dX10_constant_145 rfl ?_
      refine z_iconst 1 dX10_constant_147 (by decide +kernel) ?_
      refine z_isub dX10_constant_148 ?_
      refine z_iload dX10_constant_149 rfl ?_
      refine z_bipush 10 dX10_constant_151 (by decide +kernel) ?_
      refine z_icmp_ne 169 dX10_constant_153 (by decide) (fun c153 => ?_) (fun c153 => ?_)
      · have hf := zifn hf c153
        refine z_aload_n dX10_constant_169 rfl ?_
        refine z_getf dX10_constant_170 fX10_53 (at_Model s) rfl ?_
        refine z_iload dX10_constant_173 rfl ?_
        refine z_iconst 1 dX10_constant_175 (by decide +kernel) ?_
        refine z_isub dX10_constant_176 ?_
        obtain ⟨hi13, hf⟩ := zifs hf
        refine z_iald dX10_constant_177 (at_arr s 47 (by decide)) (zga_in hi13) ?_
        refine z_iconst (-1) dX10_constant_178 (by decide +kernel) ?_
        refine z_ixor dX10_constant_179 ?_
        obtain ⟨hi14, hf⟩ := zifs hf
        refine z_iastore dX10_constant_180 (at_arr s 47 (by decide)) (zga_in hi14) (st_arr s 47 (by decide) (v4 - 1) ((s.2.1 47 (v4 - 1).toNatClampNeg) ^^^ (-1))) ?_
        refine z_goto 245 dX10_constant_181 (by decide) ?_
        refine z_iinc (ls' := [_, _, _, _, _, _, _, _]) (v5 + 1) dX10_constant_245 rfl rfl (by decide) rfl ?_
        refine z_goto 61 dX10_constant_248 (by decide) ?_
        refine z_mask (ls' := [_, _, _, _, _, _, _, _]) [true, true, true, true, true, true, false, false] rfl ?_
        exact hrec v2 v3 v4 (v5 + 1) (zsr s 47 (v4 - 1) ((s.2.1 47 (v4 - 1).toNatClampNeg) ^^^ (-1))) hf
      · have hf := zifp hf c153
        refine z_aload_n dX10_constant_156 rfl ?_
        refine z_getf dX10_constant_157 fX10_53 (at_Model s) rfl ?_
        refine z_iload dX10_constant_160 rfl ?_
        refine z_iconst 1 dX10_constant_162 (by decide +kernel) ?_
        refine z_isub dX10_constant_163 ?_
        obtain ⟨hi15, hf⟩ := zifs hf
        refine z_iald dX10_constant_164 (at_arr s 47 (by decide)) (zga_in hi15) ?_
        refine z_ineg dX10_constant_165 ?_
        refine z_goto 180 dX10_constant_166 (by decide) ?_
        obtain ⟨hi16, hf⟩ := zifs hf
        refine z_iastore dX10_constant_180 (at_arr s 47 (by decide)) (zga_in hi16) (st_arr s 47 (by decide) (v4 - 1) (-(s.2.1 47 (v4 - 1).toNatClampNeg))) ?_
        refine z_goto 245 dX10_constant_181 (by decide) ?_
        refine z_iinc (ls' := [_, _, _, _, _, _, _, _]) (v5 + 1) dX10_constant_245 rfl rfl (by decide) rfl ?_
        refine z_goto 61 dX10_constant_248 (by decide) ?_
        refine z_mask (ls' := [_, _, _, _, _, _, _, _]) [true, true, true, true, true, true, false, false] rfl ?_
        exact hrec v2 v3 v4 (v5 + 1) (zsr s 47 (v4 - 1) (-(s.2.1 47 (v4 - 1).toNatClampNeg))) hf
  · have hf := zifp hf c116
    refine z_aload_n dX10_constant_119 rfl ?_
    refine z_getf dX10_constant_120 fX10_53 (at_Model s) rfl ?_
    refine z_iload dX10_constant_123 rfl ?_
    refine z_iload dX10_constant_125 rfl ?_
    obtain ⟨hi17, hf⟩ := zifs hf
    refine z_iastore dX10_constant_127 (at_arr s 47 (by decide)) (zga_in hi17) (st_arr s 47 (by decide) v4 v7) ?_
    refine z_iinc (ls' := [_, _, _, _, _, _, _, _]) (v4 + 1) dX10_constant_128 rfl rfl (by decide) rfl ?_
    refine z_goto 245 dX10_constant_131 (by decide) ?_
    refine z_iinc (ls' := [_, _, _, _, _, _, _, _]) (v5 + 1) dX10_constant_245 rfl rfl (by decide) rfl ?_
    refine z_goto 61 dX10_constant_248 (by decide) ?_
    refine z_mask (ls' := [_, _, _, _, _, _, _, _]) [true, true, true, true, true, true, false, false] rfl ?_
    exact hrec v2 v3 (v4 + 1) (v5 + 1) (zsr s 47 v4 v7) hf
noncomputable def fX10_constant_L61S (N : Nat) (p0 : Int32) (rec : Int32 → Int32 → Int32 → Int32 → zS → Option ((Int64 × zS) ⊕ (Int32 × zS))) (v2 : Int32) (v3 : Int32) (v4 : Int32) (v5 : Int32) (s : zS) : Option ((Int64 × zS) ⊕ (Int32 × zS)) := if (v2 + v3) ≤ v5 then some (.inr (v3, s)) else if zga (4000 + (2 * v5)) (zlen 39) = true then if zga (4001 + (2 * v5)) (zlen 39) = true then if (s.2.1 39 (4000 + (2 * v5)).toNatClampNeg) ≤ 0 then fX10_constant_J114 N p0 rec v2 v3 v4 v5 (s.2.1 39 (4000 + (2 * v5)).toNatClampNeg) (s.2.1 39 (4001 + (2 * v5)).toNatClampNeg) s else if 4 ≤ (s.2.1 39 (4000 + (2 * v5)).toNatClampNeg) then fX10_constant_J114 N p0 rec v2 v3 v4 v5 (s.2.1 39 (4000 + (2 * v5)).toNatClampNeg) (s.2.1 39 (4001 + (2 * v5)).toNatClampNeg) s else some (.inl (1099511627776, s)) else none else none
noncomputable def fX10_constant_L61 (N : Nat) (p0 : Int32) (n : Nat) : Int32 → Int32 → Int32 → Int32 → zS → Option ((Int64 × zS) ⊕ (Int32 × zS)) := Nat.rec (motive := fun _ => Int32 → Int32 → Int32 → Int32 → zS → Option ((Int64 × zS) ⊕ (Int32 × zS))) (fun _ _ _ _ _ => none) (fun _ rec => fX10_constant_L61S N p0 rec) n
set_option maxHeartbeats 400000 in
set_option maxRecDepth 100000 in
theorem tX10_constant_L61 {g : zGl} (hok : zGok g) (d : Nat) (hd : 1 ≤ d) (N : Nat) (p0 : Int32)  {mc ms n0 : Nat} {Q : zO → List zE → Prop} (n : Nat) : ∀ (v2 : Int32) (v3 : Int32) (v4 : Int32) (v5 : Int32) (s : zS) (r : (Int64 × zS) ⊕ (Int32 × zS)) (hf : fX10_constant_L61 N p0 n v2 v3 v4 v5 s = some r) (k1 : ∀ w s', r = .inl (w, s') → Q (.inl (some (.long w))) (zHp s')) (k2 : ∀ (y3 : Int32) (s' : zS), r = .inr (y3, s') → zW g mX10_constant d mc ms n0 Q 0 0 (zHp s') [some (.ref 33), some (.int p0), none, some (.int y3), none, none, none, none] [] 251), zW g mX10_constant d mc ms n0 Q 0 0 (zHp s) [some (.ref 33), some (.int p0), some (.int v2), some (.int v3), some (.int v4), some (.int v5), none, none] [] 61 := by
  induction n with
  | zero => intro v2 v3 v4 v5 s r hf; cases hf
  | succ n ih =>
    intro v2 v3 v4 v5 s r hf k1 k2
    have hrec : ∀ (v2 : Int32) (v3 : Int32) (v4 : Int32) (v5 : Int32) (s : zS) (r1 : (Int64 × zS) ⊕ (Int32 × zS)), fX10_constant_L61 N p0 n v2 v3 v4 v5 s = some r1 → r1 = r → zW g mX10_constant d mc ms n0 Q 0 0 (zHp s) [some (.ref 33), some (.int p0), some (.int v2), some (.int v3), some (.int v4), some (.int v5), none, none] [] 61 := fun v2 v3 v4 v5 s r1 h e => ih v2 v3 v4 v5 s r1 h (by subst e; exact k1) (by subst e; exact k2)
    have hrec : ∀ (v2 : Int32) (v3 : Int32) (v4 : Int32) (v5 : Int32) (s : zS), fX10_constant_L61 N p0 n v2 v3 v4 v5 s = some r → zW g mX10_constant d mc ms n0 Q 0 0 (zHp s) [some (.ref 33), some (.int p0), some (.int v2), some (.int v3), some (.int v4), some (.int v5), none, none] [] 61 := fun v2 v3 v4 v5 s h => hrec v2 v3 v4 v5 s r h rfl
    have hf : fX10_constant_L61S N p0 (fX10_constant_L61 N p0 n) v2 v3 v4 v5 s = some r := hf
    unfold fX10_constant_L61S at hf
    refine z_iload dX10_constant_61 rfl ?_
    refine z_iload_n dX10_constant_63 rfl ?_
    refine z_iload_n dX10_constant_64 rfl ?_
    refine z_iadd dX10_constant_65 ?_
    refine z_icmp_ge 251 dX10_constant_66 (by decide) (fun c66 => ?_) (fun c66 => ?_)
    · have hf := zifp hf c66
      cases hf
      refine z_mask (ls' := [_, _, _, _, _, _, _, _]) [true, true, false, true, false, false, false, false] rfl ?_
      exact k2 _ _ rfl
    · have hf := zifn hf c66
      refine z_aload_n dX10_constant_69 rfl ?_
      refine z_getf dX10_constant_70 fX10_25 (at_Model s) rfl ?_
      refine z_sipush 4000 dX10_constant_73 (by decide +kernel) ?_
      refine z_iconst 2 dX10_constant_76 (by decide +kernel) ?_
      refine z_iload dX10_constant_77 rfl ?_
      refine z_imul dX10_constant_79 ?_
      refine z_iadd dX10_constant_80 ?_
      obtain ⟨hi4, hf⟩ := zifs hf
      refine z_iald dX10_constant_81 (at_arr s 39 (by decide)) (zga_in hi4) ?_
      refine z_istore (ls' := [_, _, _, _, _, _, _, _]) dX10_constant_82 (by decide) rfl ?_
      refine z_aload_n dX10_constant_84 rfl ?_
      refine z_getf dX10_constant_85 fX10_25 (at_Model s) rfl ?_
      refine z_sipush 4001 dX10_constant_88 (by decide +kernel) ?_
      refine z_iconst 2 dX10_constant_91 (by decide +kernel) ?_
      refine z_iload dX10_constant_92 rfl ?_
      refine z_imul dX10_constant_94 ?_
      refine z_iadd dX10_constant_95 ?_
      obtain ⟨hi5, hf⟩ := zifs hf
      refine z_iald dX10_constant_96 (at_arr s 39 (by decide)) (zga_in hi5) ?_
      refine z_istore (ls' := [_, _, _, _, _, _, _, _]) dX10_constant_97 (by decide) rfl ?_
      refine z_iload dX10_constant_99 rfl ?_
      refine z_if_le 114 dX10_constant_101 (by decide) (fun c101 => ?_) (fun c101 => ?_)
      · have hf := zifp hf c101
        refine z_mask (ls' := [_, _, _, _, _, _, _, _]) [true, true, true, true, true, true, true, true] rfl ?_
        exact tX10_constant_J114 hok d (by omega) N p0  _ r k1 k2 hrec v2 v3 v4 v5 (s.2.1 39 (4000 + (2 * v5)).toNatClampNeg) (s.2.1 39 (4001 + (2 * v5)).toNatClampNeg) s hf
      · have hf := zifn hf c101
        refine z_iload dX10_constant_104 rfl ?_
        refine z_iconst 4 dX10_constant_106 (by decide +kernel) ?_
        refine z_icmp_ge 114 dX10_constant_107 (by decide) (fun c107 => ?_) (fun c107 => ?_)
        · have hf := zifp hf c107
          refine z_mask (ls' := [_, _, _, _, _, _, _, _]) [true, true, true, true, true, true, true, true] rfl ?_
          exact tX10_constant_J114 hok d (by omega) N p0  _ r k1 k2 hrec v2 v3 v4 v5 (s.2.1 39 (4000 + (2 * v5)).toNatClampNeg) (s.2.1 39 (4001 + (2 * v5)).toNatClampNeg) s hf
        · have hf := zifn hf c107
          refine z_ldc2 dX10_constant_110 lX10_241 ?_
          cases hf
          exact z_lret rfl dX10_constant_113 (Nat.zero_le _) (Nat.zero_le _) (k1 _ _ rfl)
noncomputable def fX10_constant (N : Nat) (p0 : Int32) (s : zS) : Option (Int64 × zS) := if p0 < 0 then some (1099511627776, (zsc s 3300 0)) else if zga 5 (zlen 36) = true then if p0 < (s.2.1 36 (5 : Int32).toNatClampNeg) then if zga ((5600 + (7 * p0)) + 3) (zlen 38) = true then if zga ((5600 + (7 * p0)) + 4) (zlen 38) = true then zbl (fX10_constant_L61 N p0 N (s.2.1 38 ((5600 + (7 * p0)) + 3).toNatClampNeg) (s.2.1 38 ((5600 + (7 * p0)) + 4).toNatClampNeg) 0 (s.2.1 38 ((5600 + (7 * p0)) + 3).toNatClampNeg) (zsc s 3300 0)) (fun x => some x) (fun lq18 => match lq18 with | (y21, s22) => if y21 = 0 then some (1099511627776, s22) else if zga 0 (zlen 47) = true then some ((s22.2.1 47 (0 : Int32).toNatClampNeg).toInt64, s22) else none) else none else none else some (1099511627776, (zsc s 3300 0)) else none
set_option maxHeartbeats 400000 in
set_option maxRecDepth 100000 in
theorem tX10_constant {g : zGl} (hok : zGok g) (d : Nat) (hd : 1 ≤ d) (N : Nat) (p0 : Int32)  {s s' : zS} {w : Int64} (hf : fX10_constant N p0 s = some (w, s')) : zMet g mX10_constant d 0 0 [.ref 33, .int p0] (zHp s) (zret (some (.long w)) (zHp s')) := by
  refine zMet.ofW (by decide +kernel) (Nat.le_of_ble_eq_true rfl) ?_
  show zW g mX10_constant d 0 0 51 _ 0 0 (zHp s) [some (.ref 33), some (.int p0), none, none, none, none, none, none] [] 0
  unfold fX10_constant at hf
  refine z_aload_n dX10_constant_0 rfl ?_
  refine z_iconst 0 dX10_constant_1 (by decide +kernel) ?_
  refine z_putf dX10_constant_2 fX10_62 wX10_0 (at_Model s) (Nat.le_of_ble_eq_true rfl) (fun _ => rfl) (fun _ => rfl) (st_Model_0 s 0) ?_
  refine z_iload_n dX10_constant_5 rfl ?_
  refine z_if_lt 19 dX10_constant_6 (by decide) (fun c6 => ?_) (fun c6 => ?_)
  · have hf := zifp hf c6
    refine z_ldc2 dX10_constant_19 lX10_241 ?_
    cases hf
    exact z_lret rfl dX10_constant_22 (Nat.zero_le _) (Nat.zero_le _) ⟨rfl, rfl⟩
  · have hf := zifn hf c6
    refine z_iload_n dX10_constant_9 rfl ?_
    refine z_aload_n dX10_constant_10 rfl ?_
    refine z_getf dX10_constant_11 fX10_16 (at_Model (zsc s 3300 0)) rfl ?_
    refine z_iconst 5 dX10_constant_14 (by decide +kernel) ?_
    obtain ⟨hi1, hf⟩ := zifs hf
    refine z_iald dX10_constant_15 (at_arr (zsc s 3300 0) 36 (by decide)) (zga_in hi1) ?_
    refine z_icmp_lt 23 dX10_constant_16 (by decide) (fun c16 => ?_) (fun c16 => ?_)
    · have hf := zifp hf c16
      refine z_aload_n dX10_constant_23 rfl ?_
      refine z_getf dX10_constant_24 fX10_22 (at_Model (zsc s 3300 0)) rfl ?_
      refine z_sipush 5600 dX10_constant_27 (by decide +kernel) ?_
      refine z_bipush 7 dX10_constant_30 (by decide +kernel) ?_
      refine z_iload_n dX10_constant_32 rfl ?_
      refine z_imul dX10_constant_33 ?_
      refine z_iadd dX10_constant_34 ?_
      refine z_iconst 3 dX10_constant_35 (by decide +kernel) ?_
      refine z_iadd dX10_constant_36 ?_
      obtain ⟨hi2, hf⟩ := zifs hf
      refine z_iald dX10_constant_37 (at_arr (zsc s 3300 0) 38 (by decide)) (zga_in hi2) ?_
      refine z_istore_n (ls' := [_, _, _, _, _, _, _, _]) dX10_constant_38 (by decide) rfl ?_
      refine z_aload_n dX10_constant_39 rfl ?_
      refine z_getf dX10_constant_40 fX10_22 (at_Model (zsc s 3300 0)) rfl ?_
      refine z_sipush 5600 dX10_constant_43 (by decide +kernel) ?_
      refine z_bipush 7 dX10_constant_46 (by decide +kernel) ?_
      refine z_iload_n dX10_constant_48 rfl ?_
      refine z_imul dX10_constant_49 ?_
      refine z_iadd dX10_constant_50 ?_
      refine z_iconst 4 dX10_constant_51 (by decide +kernel) ?_
      refine z_iadd dX10_constant_52 ?_
      obtain ⟨hi3, hf⟩ := zifs hf
      refine z_iald dX10_constant_53 (at_arr (zsc s 3300 0) 38 (by decide)) (zga_in hi3) ?_
      refine z_istore_n (ls' := [_, _, _, _, _, _, _, _]) dX10_constant_54 (by decide) rfl ?_
      refine z_iconst 0 dX10_constant_55 (by decide +kernel) ?_
      refine z_istore (ls' := [_, _, _, _, _, _, _, _]) dX10_constant_56 (by decide) rfl ?_
      refine z_iload_n dX10_constant_58 rfl ?_
      refine z_istore (ls' := [_, _, _, _, _, _, _, _]) dX10_constant_59 (by decide) rfl ?_
      refine z_mask (ls' := [_, _, _, _, _, _, _, _]) [true, true, true, true, true, true, false, false] rfl ?_
      rcases zbl_of hf with ⟨lr19, le20, hf⟩ | ⟨lr19, le20, hf⟩
      · cases hf
        exact tX10_constant_L61 hok d (by omega) N p0  N (s.2.1 38 ((5600 + (7 * p0)) + 3).toNatClampNeg) (s.2.1 38 ((5600 + (7 * p0)) + 4).toNatClampNeg) 0 (s.2.1 38 ((5600 + (7 * p0)) + 3).toNatClampNeg) (zsc s 3300 0) _ le20 (fun w1 s1 hh => by cases hh; exact ⟨rfl, rfl⟩) (fun _ _ hh => by cases hh)
      · obtain ⟨y21, s22⟩ := lr19
        refine tX10_constant_L61 hok d (by omega) N p0  N (s.2.1 38 ((5600 + (7 * p0)) + 3).toNatClampNeg) (s.2.1 38 ((5600 + (7 * p0)) + 4).toNatClampNeg) 0 (s.2.1 38 ((5600 + (7 * p0)) + 3).toNatClampNeg) (zsc s 3300 0) _ le20 (fun w1 s1 hh => by cases hh) (fun _ _ hh => ?_)
        cases hh
        refine z_iload_n dX10_constant_251 rfl ?_
        refine z_if_ne 261 dX10_constant_252 (by decide) (fun c252 => ?_) (fun c252 => ?_)
        · have hf := zifn hf c252
          refine z_aload_n dX10_constant_261 rfl ?_
          refine z_getf dX10_constant_262 fX10_53 (at_Model s22) rfl ?_
          refine z_iconst 0 dX10_constant_265 (by decide +kernel) ?_
          obtain ⟨hi23, hf⟩ := zifs hf
          refine z_iald dX10_constant_266 (at_arr s22 47 (by decide)) (zga_in hi23) ?_
          refine z_i2l dX10_constant_267 ?_
          cases hf
          exact z_lret rfl dX10_constant_268 (Nat.zero_le _) (Nat.zero_le _) ⟨rfl, rfl⟩
        · have hf := zifp hf c252
          refine z_ldc2 dX10_constant_255 lX10_241 ?_
          refine z_goto 268 dX10_constant_258 (by decide) ?_
          cases hf
          exact z_lret rfl dX10_constant_268 (Nat.zero_le _) (Nat.zero_le _) ⟨rfl, rfl⟩
    · have hf := zifn hf c16
      refine z_ldc2 dX10_constant_19 lX10_241 ?_
      cases hf
      exact z_lret rfl dX10_constant_22 (Nat.zero_le _) (Nat.zero_le _) ⟨rfl, rfl⟩

