noncomputable def fX10_fail (N : Nat) (p0 : Int32) (s : zS) : Option (Int32 × zS) := if (s.1 3320) = 0 then if (s.1 3315) = 6 then some (0, (zsc (zsc s 3320 (s.1 3316)) 3321 (s.1 3317))) else some (0, (zsc (zsc s 3320 p0) 3321 (s.1 3317))) else some (0, s)
set_option maxHeartbeats 400000 in
set_option maxRecDepth 100000 in
theorem tX10_fail {g : zGl} (hok : zGok g) (d : Nat)  (N : Nat) (p0 : Int32)  {s s' : zS} {w : Int32} (hf : fX10_fail N p0 s = some (w, s')) : zMet g mX10_fail d 0 0 [.ref 33, .int p0] (zHp s) (zret (some (.int w)) (zHp s')) := by
  refine zMet.ofW (by decide +kernel) (Nat.le_of_ble_eq_true rfl) ?_
  show zW g mX10_fail d 0 0 51 _ 0 0 (zHp s) [some (.ref 33), some (.int p0)] [] 0
  unfold fX10_fail at hf
  refine z_aload_n dX10_fail_0 rfl ?_
  refine z_getf dX10_fail_1 fX10_136 (at_Model s) rfl ?_
  refine z_if_eq 9 dX10_fail_4 (by decide) (fun c4 => ?_) (fun c4 => ?_)
  · have hf := zifp hf c4
    refine z_aload_n dX10_fail_9 rfl ?_
    refine z_aload_n dX10_fail_10 rfl ?_
    refine z_getf dX10_fail_11 fX10_79 (at_Model s) rfl ?_
    refine z_bipush 6 dX10_fail_14 (by decide +kernel) ?_
    refine z_icmp_ne 26 dX10_fail_16 (by decide) (fun c16 => ?_) (fun c16 => ?_)
    · have hf := zifn hf c16
      refine z_iload_n dX10_fail_26 rfl ?_
      refine z_putf dX10_fail_27 fX10_136 wX10_20 (at_Model s) (Nat.le_of_ble_eq_true rfl) (fun _ => rfl) (fun _ => rfl) (st_Model_20 s p0) ?_
      refine z_aload_n dX10_fail_30 rfl ?_
      refine z_aload_n dX10_fail_31 rfl ?_
      refine z_getf dX10_fail_32 fX10_85 (at_Model (zsc s 3320 p0)) rfl ?_
      refine z_putf dX10_fail_35 fX10_139 wX10_21 (at_Model (zsc s 3320 p0)) (Nat.le_of_ble_eq_true rfl) (fun _ => rfl) (fun _ => rfl) (st_Model_21 (zsc s 3320 p0) (s.1 3317)) ?_
      refine z_iconst 0 dX10_fail_38 (by decide +kernel) ?_
      cases hf
      exact z_zret rfl (by decide) dX10_fail_39 (Nat.zero_le _) (Nat.zero_le _) ⟨rfl, rfl⟩
    · have hf := zifp hf c16
      refine z_aload_n dX10_fail_19 rfl ?_
      refine z_getf dX10_fail_20 fX10_82 (at_Model s) rfl ?_
      refine z_goto 27 dX10_fail_23 (by decide) ?_
      refine z_putf dX10_fail_27 fX10_136 wX10_20 (at_Model s) (Nat.le_of_ble_eq_true rfl) (fun _ => rfl) (fun _ => rfl) (st_Model_20 s (s.1 3316)) ?_
      refine z_aload_n dX10_fail_30 rfl ?_
      refine z_aload_n dX10_fail_31 rfl ?_
      refine z_getf dX10_fail_32 fX10_85 (at_Model (zsc s 3320 (s.1 3316))) rfl ?_
      refine z_putf dX10_fail_35 fX10_139 wX10_21 (at_Model (zsc s 3320 (s.1 3316))) (Nat.le_of_ble_eq_true rfl) (fun _ => rfl) (fun _ => rfl) (st_Model_21 (zsc s 3320 (s.1 3316)) (s.1 3317)) ?_
      refine z_iconst 0 dX10_fail_38 (by decide +kernel) ?_
      cases hf
      exact z_zret rfl (by decide) dX10_fail_39 (Nat.zero_le _) (Nat.zero_le _) ⟨rfl, rfl⟩
  · have hf := zifn hf c4
    refine z_iconst 0 dX10_fail_7 (by decide +kernel) ?_
    cases hf
    exact z_zret rfl (by decide) dX10_fail_8 (Nat.zero_le _) (Nat.zero_le _) ⟨rfl, rfl⟩

noncomputable def fX10_byteOf (N : Nat) (p0 : Int32) (s : zS) : Option (Int32 × zS) := if (s.1 3318) ≤ ((s.1 3317) + p0) then some (0, s) else if zga ((s.1 3317) + p0) (zlen 35) = true then some (s.2.1 35 ((s.1 3317) + p0).toNatClampNeg, s) else none
set_option maxHeartbeats 400000 in
set_option maxRecDepth 100000 in
theorem tX10_byteOf {g : zGl} (hok : zGok g) (d : Nat)  (N : Nat) (p0 : Int32)  {s s' : zS} {w : Int32} (hf : fX10_byteOf N p0 s = some (w, s')) : zMet g mX10_byteOf d 0 0 [.ref 33, .int p0] (zHp s) (zret (some (.int w)) (zHp s')) := by
  refine zMet.ofW (by decide +kernel) (Nat.le_of_ble_eq_true rfl) ?_
  show zW g mX10_byteOf d 0 0 51 _ 0 0 (zHp s) [some (.ref 33), some (.int p0)] [] 0
  unfold fX10_byteOf at hf
  refine z_aload_n dX10_byteOf_0 rfl ?_
  refine z_getf dX10_byteOf_1 fX10_85 (at_Model s) rfl ?_
  refine z_iload_n dX10_byteOf_4 rfl ?_
  refine z_iadd dX10_byteOf_5 ?_
  refine z_aload_n dX10_byteOf_6 rfl ?_
  refine z_getf dX10_byteOf_7 fX10_88 (at_Model s) rfl ?_
  refine z_icmp_ge 27 dX10_byteOf_10 (by decide) (fun c10 => ?_) (fun c10 => ?_)
  · have hf := zifp hf c10
    refine z_iconst 0 dX10_byteOf_27 (by decide +kernel) ?_
    cases hf
    exact z_iret rfl dX10_byteOf_28 (Nat.zero_le _) (Nat.zero_le _) ⟨rfl, rfl⟩
  · have hf := zifn hf c10
    refine z_aload_n dX10_byteOf_13 rfl ?_
    refine z_getf dX10_byteOf_14 fX10_13 (at_Model s) rfl ?_
    refine z_aload_n dX10_byteOf_17 rfl ?_
    refine z_getf dX10_byteOf_18 fX10_85 (at_Model s) rfl ?_
    refine z_iload_n dX10_byteOf_21 rfl ?_
    refine z_iadd dX10_byteOf_22 ?_
    obtain ⟨hi1, hf⟩ := zifs hf
    refine z_iald dX10_byteOf_23 (at_arr s 35 (by decide)) (zga_in hi1) ?_
    refine z_goto 28 dX10_byteOf_24 (by decide) ?_
    cases hf
    exact z_iret rfl dX10_byteOf_28 (Nat.zero_le _) (Nat.zero_le _) ⟨rfl, rfl⟩

noncomputable def fX10_is (N : Nat) (p0 : Int32) (p1 : Int32) (p2 : Int32) (p3 : Int32) (s : zS) : Option (Int32 × zS) := zbn (fX10_byteOf N 0 s) (fun x1 s2 => if x1 = p0 then zbn (fX10_byteOf N 1 s2) (fun x4 s5 => if x4 = p1 then zbn (fX10_byteOf N 2 s5) (fun x7 s8 => if x7 = p2 then zbn (fX10_byteOf N 3 s8) (fun x10 s11 => if x10 = p3 then if p3 = 0 then some (1, s11) else zbn (fX10_byteOf N 4 s11) (fun x13 s14 => if x13 = 0 then some (1, s14) else some (0, s14)) else some (0, s11)) else some (0, s8)) else some (0, s5)) else some (0, s2))
set_option maxHeartbeats 400000 in
set_option maxRecDepth 100000 in
theorem tX10_is {g : zGl} (hok : zGok g) (d : Nat) (hd : 1 ≤ d) (N : Nat) (p0 : Int32) (p1 : Int32) (p2 : Int32) (p3 : Int32)  {s s' : zS} {w : Int32} (hf : fX10_is N p0 p1 p2 p3 s = some (w, s')) : zMet g mX10_is d 0 0 [.ref 33, .int p0, .int p1, .int p2, .int p3] (zHp s) (zret (some (.int w)) (zHp s')) := by
  refine zMet.ofW (by decide +kernel) (Nat.le_of_ble_eq_true rfl) ?_
  show zW g mX10_is d 0 0 51 _ 0 0 (zHp s) [some (.ref 33), some (.int p0), some (.int p1), some (.int p2), some (.int p3)] [] 0
  unfold fX10_is at hf
  refine z_aload_n dX10_is_0 rfl ?_
  refine z_iconst 0 dX10_is_1 (by decide +kernel) ?_
  obtain ⟨x1, s2, q3, hf⟩ := zbn_of hf
  refine z_cV (as := [_]) hok dX10_is_2 kX10_129 (tX10_byteOf hok (d - 1) N 0  q3) rfl (at_Model s) rfl rfl (by omega) (Nat.le_of_ble_eq_true rfl) (Nat.zero_le _) (Nat.zero_le _) rfl ?_
  refine z_iload_n dX10_is_5 rfl ?_
  refine z_icmp_ne 54 dX10_is_6 (by decide) (fun c6 => ?_) (fun c6 => ?_)
  · have hf := zifn hf c6
    refine z_iconst 0 dX10_is_54 (by decide +kernel) ?_
    cases hf
    exact z_zret rfl (by decide) dX10_is_55 (Nat.zero_le _) (Nat.zero_le _) ⟨rfl, rfl⟩
  · have hf := zifp hf c6
    refine z_aload_n dX10_is_9 rfl ?_
    refine z_iconst 1 dX10_is_10 (by decide +kernel) ?_
    obtain ⟨x4, s5, q6, hf⟩ := zbn_of hf
    refine z_cV (as := [_]) hok dX10_is_11 kX10_129 (tX10_byteOf hok (d - 1) N 1  q6) rfl (at_Model s2) rfl rfl (by omega) (Nat.le_of_ble_eq_true rfl) (Nat.zero_le _) (Nat.zero_le _) rfl ?_
    refine z_iload_n dX10_is_14 rfl ?_
    refine z_icmp_ne 54 dX10_is_15 (by decide) (fun c15 => ?_) (fun c15 => ?_)
    · have hf := zifn hf c15
      refine z_iconst 0 dX10_is_54 (by decide +kernel) ?_
      cases hf
      exact z_zret rfl (by decide) dX10_is_55 (Nat.zero_le _) (Nat.zero_le _) ⟨rfl, rfl⟩
    · have hf := zifp hf c15
      refine z_aload_n dX10_is_18 rfl ?_
      refine z_iconst 2 dX10_is_19 (by decide +kernel) ?_
      obtain ⟨x7, s8, q9, hf⟩ := zbn_of hf
      refine z_cV (as := [_]) hok dX10_is_20 kX10_129 (tX10_byteOf hok (d - 1) N 2  q9) rfl (at_Model s5) rfl rfl (by omega) (Nat.le_of_ble_eq_true rfl) (Nat.zero_le _) (Nat.zero_le _) rfl ?_
      refine z_iload_n dX10_is_23 rfl ?_
      refine z_icmp_ne 54 dX10_is_24 (by decide) (fun c24 => ?_) (fun c24 => ?_)
      · have hf := zifn hf c24
        refine z_iconst 0 dX10_is_54 (by decide +kernel) ?_
        cases hf
        exact z_zret rfl (by decide) dX10_is_55 (Nat.zero_le _) (Nat.zero_le _) ⟨rfl, rfl⟩
      · have hf := zifp hf c24
        refine z_aload_n dX10_is_27 rfl ?_
        refine z_iconst 3 dX10_is_28 (by decide +kernel) ?_
        obtain ⟨x10, s11, q12, hf⟩ := zbn_of hf
        refine z_cV (as := [_]) hok dX10_is_29 kX10_129 (tX10_byteOf hok (d - 1) N 3  q12) rfl (at_Model s8) rfl rfl (by omega) (Nat.le_of_ble_eq_true rfl) (Nat.zero_le _) (Nat.zero_le _) rfl ?_
        refine z_iload dX10_is_32 rfl ?_
        refine z_icmp_ne 54 dX10_is_34 (by decide) (fun c34 => ?_) (fun c34 => ?_)
        · have hf := zifn hf c34
          refine z_iconst 0 dX10_is_54 (by decide +kernel) ?_
          cases hf
          exact z_zret rfl (by decide) dX10_is_55 (Nat.zero_le _) (Nat.zero_le _) ⟨rfl, rfl⟩
        · have hf := zifp hf c34
          refine z_iload dX10_is_37 rfl ?_
          refine z_if_eq 50 dX10_is_39 (by decide) (fun c39 => ?_) (fun c39 => ?_)
          · have hf := zifp hf c39
            refine z_iconst 1 dX10_is_50 (by decide +kernel) ?_
            refine z_goto 55 dX10_is_51 (by decide) ?_
            cases hf
            exact z_zret rfl (by decide) dX10_is_55 (Nat.zero_le _) (Nat.zero_le _) ⟨rfl, rfl⟩
          · have hf := zifn hf c39
            refine z_aload_n dX10_is_42 rfl ?_
            refine z_iconst 4 dX10_is_43 (by decide +kernel) ?_
            obtain ⟨x13, s14, q15, hf⟩ := zbn_of hf
            refine z_cV (as := [_]) hok dX10_is_44 kX10_129 (tX10_byteOf hok (d - 1) N 4  q15) rfl (at_Model s11) rfl rfl (by omega) (Nat.le_of_ble_eq_true rfl) (Nat.zero_le _) (Nat.zero_le _) rfl ?_
            refine z_if_ne 54 dX10_is_47 (by decide) (fun c47 => ?_) (fun c47 => ?_)
            · have hf := zifn hf c47
              refine z_iconst 0 dX10_is_54 (by decide +kernel) ?_
              cases hf
              exact z_zret rfl (by decide) dX10_is_55 (Nat.zero_le _) (Nat.zero_le _) ⟨rfl, rfl⟩
            · have hf := zifp hf c47
              refine z_iconst 1 dX10_is_50 (by decide +kernel) ?_
              refine z_goto 55 dX10_is_51 (by decide) ?_
              cases hf
              exact z_zret rfl (by decide) dX10_is_55 (Nat.zero_le _) (Nat.zero_le _) ⟨rfl, rfl⟩

noncomputable def fX10_register_J200 (N : Nat)  (k0 : Int32) (s : zS) : Option (Int32 × zS) := zbn (fX10_byteOf N 0 s) (fun x31 s32 => if x31 = 97 then if 8 ≤ k0 then some ((-1), s32) else some (10 + k0, s32) else if x31 = 115 then if 2 ≤ k0 then if 12 ≤ k0 then some ((-1), s32) else some (16 + k0, s32) else some (8 + k0, s32) else if x31 = 116 then if 3 ≤ k0 then if 7 ≤ k0 then some ((-1), s32) else some (25 + k0, s32) else some (5 + k0, s32) else if x31 = 120 then if 32 ≤ k0 then some ((-1), s32) else some (k0, s32) else some ((-1), s32))
set_option maxHeartbeats 400000 in
set_option maxRecDepth 100000 in
theorem tX10_register_J200 {g : zGl} (hok : zGok g) (d : Nat) (hd : 2 ≤ d) (N : Nat)   {mc ms n0 : Nat} (k0 : Int32) {s s' : zS} {w : Int32} (hf : fX10_register_J200 N  k0 s = some (w, s')) : zW g mX10_register d mc ms n0 (zret (some (.int w)) (zHp s')) 0 0 (zHp s) [some (.ref 33), none, none] [.int k0] 200 := by
  unfold fX10_register_J200 at hf
  refine z_istore_n (ls' := [_, _, _]) dX10_register_200 (by decide) rfl ?_
  refine z_aload_n dX10_register_201 rfl ?_
  refine z_iconst 0 dX10_register_202 (by decide +kernel) ?_
  obtain ⟨x31, s32, q33, hf⟩ := zbn_of hf
  refine z_cV (as := [_]) hok dX10_register_203 kX10_129 (tX10_byteOf hok (d - 1) N 0  q33) rfl (at_Model s) rfl rfl (by omega) (Nat.le_of_ble_eq_true rfl) (Nat.zero_le _) (Nat.zero_le _) rfl ?_
  refine z_look [(97, 313), (115, 286), (116, 260), (120, 248)] 328 dX10_register_206 (by decide +kernel) (by decide +kernel) (by decide +kernel) ?_
  refine z_selc (fun c206_0 => ?_) (fun c206_0 => ?_)
  · have hf := zifp hf c206_0
    refine z_iload_n dX10_register_313 rfl ?_
    refine z_bipush 8 dX10_register_314 (by decide +kernel) ?_
    refine z_icmp_ge 326 dX10_register_316 (by decide) (fun c316 => ?_) (fun c316 => ?_)
    · have hf := zifp hf c316
      refine z_iconst (-1) dX10_register_326 (by decide +kernel) ?_
      cases hf
      exact z_iret rfl dX10_register_327 (Nat.zero_le _) (Nat.zero_le _) ⟨rfl, rfl⟩
    · have hf := zifn hf c316
      refine z_bipush 10 dX10_register_319 (by decide +kernel) ?_
      refine z_iload_n dX10_register_321 rfl ?_
      refine z_iadd dX10_register_322 ?_
      refine z_goto 327 dX10_register_323 (by decide) ?_
      cases hf
      exact z_iret rfl dX10_register_327 (Nat.zero_le _) (Nat.zero_le _) ⟨rfl, rfl⟩
  · have hf := zifn hf c206_0
    refine z_selc (fun c206_1 => ?_) (fun c206_1 => ?_)
    · have hf := zifp hf c206_1
      refine z_iload_n dX10_register_286 rfl ?_
      refine z_iconst 2 dX10_register_287 (by decide +kernel) ?_
      refine z_icmp_ge 298 dX10_register_288 (by decide) (fun c288 => ?_) (fun c288 => ?_)
      · have hf := zifp hf c288
        refine z_iload_n dX10_register_298 rfl ?_
        refine z_bipush 12 dX10_register_299 (by decide +kernel) ?_
        refine z_icmp_ge 311 dX10_register_301 (by decide) (fun c301 => ?_) (fun c301 => ?_)
        · have hf := zifp hf c301
          refine z_iconst (-1) dX10_register_311 (by decide +kernel) ?_
          cases hf
          exact z_iret rfl dX10_register_312 (Nat.zero_le _) (Nat.zero_le _) ⟨rfl, rfl⟩
        · have hf := zifn hf c301
          refine z_bipush 16 dX10_register_304 (by decide +kernel) ?_
          refine z_iload_n dX10_register_306 rfl ?_
          refine z_iadd dX10_register_307 ?_
          refine z_goto 312 dX10_register_308 (by decide) ?_
          cases hf
          exact z_iret rfl dX10_register_312 (Nat.zero_le _) (Nat.zero_le _) ⟨rfl, rfl⟩
      · have hf := zifn hf c288
        refine z_bipush 8 dX10_register_291 (by decide +kernel) ?_
        refine z_iload_n dX10_register_293 rfl ?_
        refine z_iadd dX10_register_294 ?_
        refine z_goto 312 dX10_register_295 (by decide) ?_
        cases hf
        exact z_iret rfl dX10_register_312 (Nat.zero_le _) (Nat.zero_le _) ⟨rfl, rfl⟩
    · have hf := zifn hf c206_1
      refine z_selc (fun c206_2 => ?_) (fun c206_2 => ?_)
      · have hf := zifp hf c206_2
        refine z_iload_n dX10_register_260 rfl ?_
        refine z_iconst 3 dX10_register_261 (by decide +kernel) ?_
        refine z_icmp_ge 271 dX10_register_262 (by decide) (fun c262 => ?_) (fun c262 => ?_)
        · have hf := zifp hf c262
          refine z_iload_n dX10_register_271 rfl ?_
          refine z_bipush 7 dX10_register_272 (by decide +kernel) ?_
          refine z_icmp_ge 284 dX10_register_274 (by decide) (fun c274 => ?_) (fun c274 => ?_)
          · have hf := zifp hf c274
            refine z_iconst (-1) dX10_register_284 (by decide +kernel) ?_
            cases hf
            exact z_iret rfl dX10_register_285 (Nat.zero_le _) (Nat.zero_le _) ⟨rfl, rfl⟩
          · have hf := zifn hf c274
            refine z_bipush 25 dX10_register_277 (by decide +kernel) ?_
            refine z_iload_n dX10_register_279 rfl ?_
            refine z_iadd dX10_register_280 ?_
            refine z_goto 285 dX10_register_281 (by decide) ?_
            cases hf
            exact z_iret rfl dX10_register_285 (Nat.zero_le _) (Nat.zero_le _) ⟨rfl, rfl⟩
        · have hf := zifn hf c262
          refine z_iconst 5 dX10_register_265 (by decide +kernel) ?_
          refine z_iload_n dX10_register_266 rfl ?_
          refine z_iadd dX10_register_267 ?_
          refine z_goto 285 dX10_register_268 (by decide) ?_
          cases hf
          exact z_iret rfl dX10_register_285 (Nat.zero_le _) (Nat.zero_le _) ⟨rfl, rfl⟩
      · have hf := zifn hf c206_2
        refine z_selc (fun c206_3 => ?_) (fun c206_3 => ?_)
        · have hf := zifp hf c206_3
          refine z_iload_n dX10_register_248 rfl ?_
          refine z_bipush 32 dX10_register_249 (by decide +kernel) ?_
          refine z_icmp_ge 258 dX10_register_251 (by decide) (fun c251 => ?_) (fun c251 => ?_)
          · have hf := zifp hf c251
            refine z_iconst (-1) dX10_register_258 (by decide +kernel) ?_
            cases hf
            exact z_iret rfl dX10_register_259 (Nat.zero_le _) (Nat.zero_le _) ⟨rfl, rfl⟩
          · have hf := zifn hf c251
            refine z_iload_n dX10_register_254 rfl ?_
            refine z_goto 259 dX10_register_255 (by decide) ?_
            cases hf
            exact z_iret rfl dX10_register_259 (Nat.zero_le _) (Nat.zero_le _) ⟨rfl, rfl⟩
        · have hf := zifn hf c206_3
          refine z_seln ?_
          refine z_iconst (-1) dX10_register_328 (by decide +kernel) ?_
          cases hf
          exact z_iret rfl dX10_register_329 (Nat.zero_le _) (Nat.zero_le _) ⟨rfl, rfl⟩
noncomputable def fX10_register_J164 (N : Nat)  (v1 : Int32) (s : zS) : Option (Int32 × zS) := if v1 = 1 then zbn (fX10_byteOf N 1 s) (fun x34 s35 => fX10_register_J200 N  (x34 - 48) s35) else zbn (fX10_byteOf N 1 s) (fun x25 s26 => zbn (fX10_byteOf N 2 s26) (fun x28 s29 => fX10_register_J200 N  (((10 * (x25 - 48)) + x28) - 48) s29))
set_option maxHeartbeats 400000 in
set_option maxRecDepth 100000 in
theorem tX10_register_J164 {g : zGl} (hok : zGok g) (d : Nat) (hd : 2 ≤ d) (N : Nat)   {mc ms n0 : Nat} (v1 : Int32) {s s' : zS} {w : Int32} (hf : fX10_register_J164 N  v1 s = some (w, s')) : zW g mX10_register d mc ms n0 (zret (some (.int w)) (zHp s')) 0 0 (zHp s) [some (.ref 33), some (.int v1), none] [] 164 := by
  unfold fX10_register_J164 at hf
  refine z_iload_n dX10_register_164 rfl ?_
  refine z_iconst 1 dX10_register_165 (by decide +kernel) ?_
  refine z_icmp_ne 180 dX10_register_166 (by decide) (fun c166 => ?_) (fun c166 => ?_)
  · have hf := zifn hf c166
    refine z_bipush 10 dX10_register_180 (by decide +kernel) ?_
    refine z_aload_n dX10_register_182 rfl ?_
    refine z_iconst 1 dX10_register_183 (by decide +kernel) ?_
    obtain ⟨x25, s26, q27, hf⟩ := zbn_of hf
    refine z_cV (as := [_]) hok dX10_register_184 kX10_129 (tX10_byteOf hok (d - 1) N 1  q27) rfl (at_Model s) rfl rfl (by omega) (Nat.le_of_ble_eq_true rfl) (Nat.zero_le _) (Nat.zero_le _) rfl ?_
    refine z_bipush 48 dX10_register_187 (by decide +kernel) ?_
    refine z_isub dX10_register_189 ?_
    refine z_imul dX10_register_190 ?_
    refine z_aload_n dX10_register_191 rfl ?_
    refine z_iconst 2 dX10_register_192 (by decide +kernel) ?_
    obtain ⟨x28, s29, q30, hf⟩ := zbn_of hf
    refine z_cV (as := [_]) hok dX10_register_193 kX10_129 (tX10_byteOf hok (d - 1) N 2  q30) rfl (at_Model s26) rfl rfl (by omega) (Nat.le_of_ble_eq_true rfl) (Nat.zero_le _) (Nat.zero_le _) rfl ?_
    refine z_iadd dX10_register_196 ?_
    refine z_bipush 48 dX10_register_197 (by decide +kernel) ?_
    refine z_isub dX10_register_199 ?_
    refine z_mask (ls' := [_, _, _]) [true, false, false] rfl ?_
    exact tX10_register_J200 hok d (by omega) N   (((10 * (x25 - 48)) + x28) - 48) hf
  · have hf := zifp hf c166
    refine z_aload_n dX10_register_169 rfl ?_
    refine z_iconst 1 dX10_register_170 (by decide +kernel) ?_
    obtain ⟨x34, s35, q36, hf⟩ := zbn_of hf
    refine z_cV (as := [_]) hok dX10_register_171 kX10_129 (tX10_byteOf hok (d - 1) N 1  q36) rfl (at_Model s) rfl rfl (by omega) (Nat.le_of_ble_eq_true rfl) (Nat.zero_le _) (Nat.zero_le _) rfl ?_
    refine z_bipush 48 dX10_register_174 (by decide +kernel) ?_
    refine z_isub dX10_register_176 ?_
    refine z_goto 200 dX10_register_177 (by decide) ?_
    refine z_mask (ls' := [_, _, _]) [true, false, false] rfl ?_
    exact tX10_register_J200 hok d (by omega) N   (x34 - 48) hf
noncomputable def fX10_register (N : Nat)  (s : zS) : Option (Int32 × zS) := if (s.1 3315) = 1 then zbn (fX10_is N 122 101 114 111 s) (fun x1 s2 => if x1 = 0 then zbn (fX10_is N 114 97 0 0 s2) (fun x4 s5 => if x4 = 0 then zbn (fX10_is N 115 112 0 0 s5) (fun x7 s8 => if x7 = 0 then zbn (fX10_is N 103 112 0 0 s8) (fun x10 s11 => if x10 = 0 then zbn (fX10_is N 116 112 0 0 s11) (fun x13 s14 => if x13 = 0 then zbn (fX10_is N 102 112 0 0 s14) (fun x16 s17 => if x16 = 0 then if (((s17.1 3318) - (s17.1 3317)) - 1) < 1 then some ((-1), s17) else if 2 < (((s17.1 3318) - (s17.1 3317)) - 1) then some ((-1), s17) else zbn (fX10_byteOf N 1 s17) (fun x19 s20 => zbn (fX10_isDigit N x19 s20) (fun x22 s23 => if x22 = 0 then some ((-1), s23) else if (((s17.1 3318) - (s17.1 3317)) - 1) = 2 then zbn (fX10_byteOf N 2 s23) (fun x37 s38 => zbn (fX10_isDigit N x37 s38) (fun x40 s41 => if x40 = 0 then some ((-1), s41) else zbn (fX10_byteOf N 1 s41) (fun x43 s44 => if x43 = 48 then some ((-1), s44) else fX10_register_J164 N  (((s17.1 3318) - (s17.1 3317)) - 1) s44))) else fX10_register_J164 N  (((s17.1 3318) - (s17.1 3317)) - 1) s23)) else some (8, s17)) else some (4, s14)) else some (3, s11)) else some (2, s8)) else some (1, s5)) else some (0, s2)) else some ((-1), s)
set_option maxHeartbeats 400000 in
set_option maxRecDepth 100000 in
theorem tX10_register {g : zGl} (hok : zGok g) (d : Nat) (hd : 2 ≤ d) (N : Nat)   {s s' : zS} {w : Int32} (hf : fX10_register N  s = some (w, s')) : zMet g mX10_register d 0 0 [.ref 33] (zHp s) (zret (some (.int w)) (zHp s')) := by
  refine zMet.ofW (by decide +kernel) (Nat.le_of_ble_eq_true rfl) ?_
  show zW g mX10_register d 0 0 51 _ 0 0 (zHp s) [some (.ref 33), none, none] [] 0
  unfold fX10_register at hf
  refine z_aload_n dX10_register_0 rfl ?_
  refine z_getf dX10_register_1 fX10_79 (at_Model s) rfl ?_
  refine z_iconst 1 dX10_register_4 (by decide +kernel) ?_
  refine z_icmp_eq 10 dX10_register_5 (by decide) (fun c5 => ?_) (fun c5 => ?_)
  · have hf := zifp hf c5
    refine z_aload_n dX10_register_10 rfl ?_
    refine z_bipush 122 dX10_register_11 (by decide +kernel) ?_
    refine z_bipush 101 dX10_register_13 (by decide +kernel) ?_
    refine z_bipush 114 dX10_register_15 (by decide +kernel) ?_
    refine z_bipush 111 dX10_register_17 (by decide +kernel) ?_
    obtain ⟨x1, s2, q3, hf⟩ := zbn_of hf
    refine z_cV (as := [_, _, _, _]) hok dX10_register_19 kX10_132 (tX10_is hok (d - 1) (by omega) N 122 101 114 111  q3) rfl (at_Model s) rfl rfl (by omega) (Nat.le_of_ble_eq_true rfl) (Nat.zero_le _) (Nat.zero_le _) rfl ?_
    refine z_if_eq 27 dX10_register_22 (by decide) (fun c22 => ?_) (fun c22 => ?_)
    · have hf := zifp hf c22
      refine z_aload_n dX10_register_27 rfl ?_
      refine z_bipush 114 dX10_register_28 (by decide +kernel) ?_
      refine z_bipush 97 dX10_register_30 (by decide +kernel) ?_
      refine z_iconst 0 dX10_register_32 (by decide +kernel) ?_
      refine z_iconst 0 dX10_register_33 (by decide +kernel) ?_
      obtain ⟨x4, s5, q6, hf⟩ := zbn_of hf
      refine z_cV (as := [_, _, _, _]) hok dX10_register_34 kX10_132 (tX10_is hok (d - 1) (by omega) N 114 97 0 0  q6) rfl (at_Model s2) rfl rfl (by omega) (Nat.le_of_ble_eq_true rfl) (Nat.zero_le _) (Nat.zero_le _) rfl ?_
      refine z_if_eq 42 dX10_register_37 (by decide) (fun c37 => ?_) (fun c37 => ?_)
      · have hf := zifp hf c37
        refine z_aload_n dX10_register_42 rfl ?_
        refine z_bipush 115 dX10_register_43 (by decide +kernel) ?_
        refine z_bipush 112 dX10_register_45 (by decide +kernel) ?_
        refine z_iconst 0 dX10_register_47 (by decide +kernel) ?_
        refine z_iconst 0 dX10_register_48 (by decide +kernel) ?_
        obtain ⟨x7, s8, q9, hf⟩ := zbn_of hf
        refine z_cV (as := [_, _, _, _]) hok dX10_register_49 kX10_132 (tX10_is hok (d - 1) (by omega) N 115 112 0 0  q9) rfl (at_Model s5) rfl rfl (by omega) (Nat.le_of_ble_eq_true rfl) (Nat.zero_le _) (Nat.zero_le _) rfl ?_
        refine z_if_eq 57 dX10_register_52 (by decide) (fun c52 => ?_) (fun c52 => ?_)
        · have hf := zifp hf c52
          refine z_aload_n dX10_register_57 rfl ?_
          refine z_bipush 103 dX10_register_58 (by decide +kernel) ?_
          refine z_bipush 112 dX10_register_60 (by decide +kernel) ?_
          refine z_iconst 0 dX10_register_62 (by decide +kernel) ?_
          refine z_iconst 0 dX10_register_63 (by decide +kernel) ?_
          obtain ⟨x10, s11, q12, hf⟩ := zbn_of hf
          refine z_cV (as := [_, _, _, _]) hok dX10_register_64 kX10_132 (tX10_is hok (d - 1) (by omega) N 103 112 0 0  q12) rfl (at_Model s8) rfl rfl (by omega) (Nat.le_of_ble_eq_true rfl) (Nat.zero_le _) (Nat.zero_le _) rfl ?_
          refine z_if_eq 72 dX10_register_67 (by decide) (fun c67 => ?_) (fun c67 => ?_)
          · have hf := zifp hf c67
            refine z_aload_n dX10_register_72 rfl ?_
            refine z_bipush 116 dX10_register_73 (by decide +kernel) ?_
            refine z_bipush 112 dX10_register_75 (by decide +kernel) ?_
            refine z_iconst 0 dX10_register_77 (by decide +kernel) ?_
            refine z_iconst 0 dX10_register_78 (by decide +kernel) ?_
            obtain ⟨x13, s14, q15, hf⟩ := zbn_of hf
            refine z_cV (as := [_, _, _, _]) hok dX10_register_79 kX10_132 (tX10_is hok (d - 1) (by omega) N 116 112 0 0  q15) rfl (at_Model s11) rfl rfl (by omega) (Nat.le_of_ble_eq_true rfl) (Nat.zero_le _) (Nat.zero_le _) rfl ?_
            refine z_if_eq 87 dX10_register_82 (by decide) (fun c82 => ?_) (fun c82 => ?_)
            · have hf := zifp hf c82
              refine z_aload_n dX10_register_87 rfl ?_
              refine z_bipush 102 dX10_register_88 (by decide +kernel) ?_
              refine z_bipush 112 dX10_register_90 (by decide +kernel) ?_
              refine z_iconst 0 dX10_register_92 (by decide +kernel) ?_
              refine z_iconst 0 dX10_register_93 (by decide +kernel) ?_
              obtain ⟨x16, s17, q18, hf⟩ := zbn_of hf
              refine z_cV (as := [_, _, _, _]) hok dX10_register_94 kX10_132 (tX10_is hok (d - 1) (by omega) N 102 112 0 0  q18) rfl (at_Model s14) rfl rfl (by omega) (Nat.le_of_ble_eq_true rfl) (Nat.zero_le _) (Nat.zero_le _) rfl ?_
              refine z_if_eq 103 dX10_register_97 (by decide) (fun c97 => ?_) (fun c97 => ?_)
              · have hf := zifp hf c97
                refine z_aload_n dX10_register_103 rfl ?_
                refine z_getf dX10_register_104 fX10_88 (at_Model s17) rfl ?_
                refine z_aload_n dX10_register_107 rfl ?_
                refine z_getf dX10_register_108 fX10_85 (at_Model s17) rfl ?_
                refine z_isub dX10_register_111 ?_
                refine z_iconst 1 dX10_register_112 (by decide +kernel) ?_
                refine z_isub dX10_register_113 ?_
                refine z_istore_n (ls' := [_, _, _]) dX10_register_114 (by decide) rfl ?_
                refine z_iload_n dX10_register_115 rfl ?_
                refine z_iconst 1 dX10_register_116 (by decide +kernel) ?_
                refine z_icmp_lt 162 dX10_register_117 (by decide) (fun c117 => ?_) (fun c117 => ?_)
                · have hf := zifp hf c117
                  refine z_iconst (-1) dX10_register_162 (by decide +kernel) ?_
                  cases hf
                  exact z_iret rfl dX10_register_163 (Nat.zero_le _) (Nat.zero_le _) ⟨rfl, rfl⟩
                · have hf := zifn hf c117
                  refine z_iload_n dX10_register_120 rfl ?_
                  refine z_iconst 2 dX10_register_121 (by decide +kernel) ?_
                  refine z_icmp_gt 162 dX10_register_122 (by decide) (fun c122 => ?_) (fun c122 => ?_)
                  · have hf := zifp hf c122
                    refine z_iconst (-1) dX10_register_162 (by decide +kernel) ?_
                    cases hf
                    exact z_iret rfl dX10_register_163 (Nat.zero_le _) (Nat.zero_le _) ⟨rfl, rfl⟩
                  · have hf := zifn hf c122
                    refine z_aload_n dX10_register_125 rfl ?_
                    refine z_iconst 1 dX10_register_126 (by decide +kernel) ?_
                    obtain ⟨x19, s20, q21, hf⟩ := zbn_of hf
                    refine z_cV (as := [_]) hok dX10_register_127 kX10_129 (tX10_byteOf hok (d - 1) N 1  q21) rfl (at_Model s17) rfl rfl (by omega) (Nat.le_of_ble_eq_true rfl) (Nat.zero_le _) (Nat.zero_le _) rfl ?_
                    obtain ⟨x22, s23, q24, hf⟩ := zbn_of hf
                    refine z_cS (as := [_]) hok dX10_register_130 kX10_76 (tX10_isDigit hok (d - 1) N x19  q24) rfl rfl (by omega) (Nat.le_of_ble_eq_true rfl) (Nat.zero_le _) (Nat.zero_le _) rfl ?_
                    refine z_if_eq 162 dX10_register_133 (by decide) (fun c133 => ?_) (fun c133 => ?_)
                    · have hf := zifp hf c133
                      refine z_iconst (-1) dX10_register_162 (by decide +kernel) ?_
                      cases hf
                      exact z_iret rfl dX10_register_163 (Nat.zero_le _) (Nat.zero_le _) ⟨rfl, rfl⟩
                    · have hf := zifn hf c133
                      refine z_iload_n dX10_register_136 rfl ?_
                      refine z_iconst 2 dX10_register_137 (by decide +kernel) ?_
                      refine z_icmp_ne 164 dX10_register_138 (by decide) (fun c138 => ?_) (fun c138 => ?_)
                      · have hf := zifn hf c138
                        refine z_mask (ls' := [_, _, _]) [true, true, false] rfl ?_
                        exact tX10_register_J164 hok d (by omega) N   (((s17.1 3318) - (s17.1 3317)) - 1) hf
                      · have hf := zifp hf c138
                        refine z_aload_n dX10_register_141 rfl ?_
                        refine z_iconst 2 dX10_register_142 (by decide +kernel) ?_
                        obtain ⟨x37, s38, q39, hf⟩ := zbn_of hf
                        refine z_cV (as := [_]) hok dX10_register_143 kX10_129 (tX10_byteOf hok (d - 1) N 2  q39) rfl (at_Model s23) rfl rfl (by omega) (Nat.le_of_ble_eq_true rfl) (Nat.zero_le _) (Nat.zero_le _) rfl ?_
                        obtain ⟨x40, s41, q42, hf⟩ := zbn_of hf
                        refine z_cS (as := [_]) hok dX10_register_146 kX10_76 (tX10_isDigit hok (d - 1) N x37  q42) rfl rfl (by omega) (Nat.le_of_ble_eq_true rfl) (Nat.zero_le _) (Nat.zero_le _) rfl ?_
                        refine z_if_eq 162 dX10_register_149 (by decide) (fun c149 => ?_) (fun c149 => ?_)
                        · have hf := zifp hf c149
                          refine z_iconst (-1) dX10_register_162 (by decide +kernel) ?_
                          cases hf
                          exact z_iret rfl dX10_register_163 (Nat.zero_le _) (Nat.zero_le _) ⟨rfl, rfl⟩
                        · have hf := zifn hf c149
                          refine z_aload_n dX10_register_152 rfl ?_
                          refine z_iconst 1 dX10_register_153 (by decide +kernel) ?_
                          obtain ⟨x43, s44, q45, hf⟩ := zbn_of hf
                          refine z_cV (as := [_]) hok dX10_register_154 kX10_129 (tX10_byteOf hok (d - 1) N 1  q45) rfl (at_Model s41) rfl rfl (by omega) (Nat.le_of_ble_eq_true rfl) (Nat.zero_le _) (Nat.zero_le _) rfl ?_
                          refine z_bipush 48 dX10_register_157 (by decide +kernel) ?_
                          refine z_icmp_ne 164 dX10_register_159 (by decide) (fun c159 => ?_) (fun c159 => ?_)
                          · have hf := zifn hf c159
                            refine z_mask (ls' := [_, _, _]) [true, true, false] rfl ?_
                            exact tX10_register_J164 hok d (by omega) N   (((s17.1 3318) - (s17.1 3317)) - 1) hf
                          · have hf := zifp hf c159
                            refine z_iconst (-1) dX10_register_162 (by decide +kernel) ?_
                            cases hf
                            exact z_iret rfl dX10_register_163 (Nat.zero_le _) (Nat.zero_le _) ⟨rfl, rfl⟩
              · have hf := zifn hf c97
                refine z_bipush 8 dX10_register_100 (by decide +kernel) ?_
                cases hf
                exact z_iret rfl dX10_register_102 (Nat.zero_le _) (Nat.zero_le _) ⟨rfl, rfl⟩
            · have hf := zifn hf c82
              refine z_iconst 4 dX10_register_85 (by decide +kernel) ?_
              cases hf
              exact z_iret rfl dX10_register_86 (Nat.zero_le _) (Nat.zero_le _) ⟨rfl, rfl⟩
          · have hf := zifn hf c67
            refine z_iconst 3 dX10_register_70 (by decide +kernel) ?_
            cases hf
            exact z_iret rfl dX10_register_71 (Nat.zero_le _) (Nat.zero_le _) ⟨rfl, rfl⟩
        · have hf := zifn hf c52
          refine z_iconst 2 dX10_register_55 (by decide +kernel) ?_
          cases hf
          exact z_iret rfl dX10_register_56 (Nat.zero_le _) (Nat.zero_le _) ⟨rfl, rfl⟩
      · have hf := zifn hf c37
        refine z_iconst 1 dX10_register_40 (by decide +kernel) ?_
        cases hf
        exact z_iret rfl dX10_register_41 (Nat.zero_le _) (Nat.zero_le _) ⟨rfl, rfl⟩
    · have hf := zifn hf c22
      refine z_iconst 0 dX10_register_25 (by decide +kernel) ?_
      cases hf
      exact z_iret rfl dX10_register_26 (Nat.zero_le _) (Nat.zero_le _) ⟨rfl, rfl⟩
  · have hf := zifn hf c5
    refine z_iconst (-1) dX10_register_8 (by decide +kernel) ?_
    cases hf
    exact z_iret rfl dX10_register_9 (Nat.zero_le _) (Nat.zero_le _) ⟨rfl, rfl⟩

noncomputable def fX10_isName_L28S (N : Nat) (p0 : Int32) (p1 : Int32) (rec : Int32 → zS → Option ((Int32 × zS) ⊕ (zS))) (v3 : Int32) (s : zS) : Option ((Int32 × zS) ⊕ (zS)) := if ((s.1 3318) - (s.1 3317)) ≤ v3 then some (.inr (s)) else if zga (((2400 * p1) + (16 * p0)) + v3) (zlen 40) = true then if zga ((s.1 3317) + v3) (zlen 35) = true then if (s.2.1 40 (((2400 * p1) + (16 * p0)) + v3).toNatClampNeg) = (s.2.1 35 ((s.1 3317) + v3).toNatClampNeg) then rec (v3 + 1) s else some (.inl (0, s)) else none else none
noncomputable def fX10_isName_L28 (N : Nat) (p0 : Int32) (p1 : Int32) (n : Nat) : Int32 → zS → Option ((Int32 × zS) ⊕ (zS)) := Nat.rec (motive := fun _ => Int32 → zS → Option ((Int32 × zS) ⊕ (zS))) (fun _ _ => none) (fun _ rec => fX10_isName_L28S N p0 p1 rec) n
set_option maxHeartbeats 400000 in
set_option maxRecDepth 100000 in
theorem tX10_isName_L28 {g : zGl} (hok : zGok g) (d : Nat)  (N : Nat) (p0 : Int32) (p1 : Int32)  {mc ms n0 : Nat} {Q : zO → List zE → Prop} (n : Nat) : ∀ (v3 : Int32) (s : zS) (r : (Int32 × zS) ⊕ (zS)) (hf : fX10_isName_L28 N p0 p1 n v3 s = some r) (k1 : ∀ w s', r = .inl (w, s') → Q (.inl (some (.int w))) (zHp s')) (k2 : ∀  (s' : zS), r = .inr (s') → zW g mX10_isName d mc ms n0 Q 0 0 (zHp s') [some (.ref 33), some (.int p0), some (.int p1), none] [] 80), zW g mX10_isName d mc ms n0 Q 0 0 (zHp s) [some (.ref 33), some (.int p0), some (.int p1), some (.int v3)] [] 28 := by
  induction n with
  | zero => intro v3 s r hf; cases hf
  | succ n ih =>
    intro v3 s r hf k1 k2
    have hrec : ∀ (v3 : Int32) (s : zS) (r1 : (Int32 × zS) ⊕ (zS)), fX10_isName_L28 N p0 p1 n v3 s = some r1 → r1 = r → zW g mX10_isName d mc ms n0 Q 0 0 (zHp s) [some (.ref 33), some (.int p0), some (.int p1), some (.int v3)] [] 28 := fun v3 s r1 h e => ih v3 s r1 h (by subst e; exact k1) (by subst e; exact k2)
    have hrec : ∀ (v3 : Int32) (s : zS), fX10_isName_L28 N p0 p1 n v3 s = some r → zW g mX10_isName d mc ms n0 Q 0 0 (zHp s) [some (.ref 33), some (.int p0), some (.int p1), some (.int v3)] [] 28 := fun v3 s h => hrec v3 s r h rfl
    have hf : fX10_isName_L28S N p0 p1 (fX10_isName_L28 N p0 p1 n) v3 s = some r := hf
    unfold fX10_isName_L28S at hf
    refine z_iload_n dX10_isName_28 rfl ?_
    refine z_aload_n dX10_isName_29 rfl ?_
    refine z_getf dX10_isName_30 fX10_88 (at_Model s) rfl ?_
    refine z_aload_n dX10_isName_33 rfl ?_
    refine z_getf dX10_isName_34 fX10_85 (at_Model s) rfl ?_
    refine z_isub dX10_isName_37 ?_
    refine z_icmp_ge 80 dX10_isName_38 (by decide) (fun c38 => ?_) (fun c38 => ?_)
    · have hf := zifp hf c38
      cases hf
      refine z_mask (ls' := [_, _, _, _]) [true, true, true, false] rfl ?_
      exact k2  _ rfl
    · have hf := zifn hf c38
      refine z_aload_n dX10_isName_41 rfl ?_
      refine z_getf dX10_isName_42 fX10_28 (at_Model s) rfl ?_
      refine z_sipush 2400 dX10_isName_45 (by decide +kernel) ?_
      refine z_iload_n dX10_isName_48 rfl ?_
      refine z_imul dX10_isName_49 ?_
      refine z_bipush 16 dX10_isName_50 (by decide +kernel) ?_
      refine z_iload_n dX10_isName_52 rfl ?_
      refine z_imul dX10_isName_53 ?_
      refine z_iadd dX10_isName_54 ?_
      refine z_iload_n dX10_isName_55 rfl ?_
      refine z_iadd dX10_isName_56 ?_
      obtain ⟨hi2, hf⟩ := zifs hf
      refine z_iald dX10_isName_57 (at_arr s 40 (by decide)) (zga_in hi2) ?_
      refine z_aload_n dX10_isName_58 rfl ?_
      refine z_getf dX10_isName_59 fX10_13 (at_Model s) rfl ?_
      refine z_aload_n dX10_isName_62 rfl ?_
      refine z_getf dX10_isName_63 fX10_85 (at_Model s) rfl ?_
      refine z_iload_n dX10_isName_66 rfl ?_
      refine z_iadd dX10_isName_67 ?_
      obtain ⟨hi3, hf⟩ := zifs hf
      refine z_iald dX10_isName_68 (at_arr s 35 (by decide)) (zga_in hi3) ?_
      refine z_icmp_eq 74 dX10_isName_69 (by decide) (fun c69 => ?_) (fun c69 => ?_)
      · have hf := zifp hf c69
        refine z_iinc (ls' := [_, _, _, _]) (v3 + 1) dX10_isName_74 rfl rfl (by decide) rfl ?_
        refine z_goto 28 dX10_isName_77 (by decide) ?_
        refine z_mask (ls' := [_, _, _, _]) [true, true, true, true] rfl ?_
        exact hrec (v3 + 1) s hf
      · have hf := zifn hf c69
        refine z_iconst 0 dX10_isName_72 (by decide +kernel) ?_
        cases hf
        exact z_zret rfl (by decide) dX10_isName_73 (Nat.zero_le _) (Nat.zero_le _) (k1 _ _ rfl)
noncomputable def fX10_isName (N : Nat) (p0 : Int32) (p1 : Int32) (s : zS) : Option (Int32 × zS) := if zga ((150 * p1) + p0) (zlen 41) = true then if (s.2.1 41 ((150 * p1) + p0).toNatClampNeg) = ((s.1 3318) - (s.1 3317)) then zbl (fX10_isName_L28 N p0 p1 N 0 s) (fun x => some x) (fun s7 => some (1, s7)) else some (0, s) else none
set_option maxHeartbeats 400000 in
set_option maxRecDepth 100000 in
theorem tX10_isName {g : zGl} (hok : zGok g) (d : Nat)  (N : Nat) (p0 : Int32) (p1 : Int32)  {s s' : zS} {w : Int32} (hf : fX10_isName N p0 p1 s = some (w, s')) : zMet g mX10_isName d 0 0 [.ref 33, .int p0, .int p1] (zHp s) (zret (some (.int w)) (zHp s')) := by
  refine zMet.ofW (by decide +kernel) (Nat.le_of_ble_eq_true rfl) ?_
  show zW g mX10_isName d 0 0 51 _ 0 0 (zHp s) [some (.ref 33), some (.int p0), some (.int p1), none] [] 0
  unfold fX10_isName at hf
  refine z_aload_n dX10_isName_0 rfl ?_
  refine z_getf dX10_isName_1 fX10_31 (at_Model s) rfl ?_
  refine z_sipush 150 dX10_isName_4 (by decide +kernel) ?_
  refine z_iload_n dX10_isName_7 rfl ?_
  refine z_imul dX10_isName_8 ?_
  refine z_iload_n dX10_isName_9 rfl ?_
  refine z_iadd dX10_isName_10 ?_
  obtain ⟨hi1, hf⟩ := zifs hf
  refine z_iald dX10_isName_11 (at_arr s 41 (by decide)) (zga_in hi1) ?_
  refine z_aload_n dX10_isName_12 rfl ?_
  refine z_getf dX10_isName_13 fX10_88 (at_Model s) rfl ?_
  refine z_aload_n dX10_isName_16 rfl ?_
  refine z_getf dX10_isName_17 fX10_85 (at_Model s) rfl ?_
  refine z_isub dX10_isName_20 ?_
  refine z_icmp_eq 26 dX10_isName_21 (by decide) (fun c21 => ?_) (fun c21 => ?_)
  · have hf := zifp hf c21
    refine z_iconst 0 dX10_isName_26 (by decide +kernel) ?_
    refine z_istore_n (ls' := [_, _, _, _]) dX10_isName_27 (by decide) rfl ?_
    refine z_mask (ls' := [_, _, _, _]) [true, true, true, true] rfl ?_
    rcases zbl_of hf with ⟨lr5, le6, hf⟩ | ⟨lr5, le6, hf⟩
    · cases hf
      exact tX10_isName_L28 hok d N p0 p1  N 0 s _ le6 (fun w1 s1 hh => by cases hh; exact ⟨rfl, rfl⟩) (fun  _ hh => by cases hh)
    · obtain ⟨s7, rfl⟩ : ∃ z, z = lr5 := ⟨_, rfl⟩
      refine tX10_isName_L28 hok d N p0 p1  N 0 s _ le6 (fun w1 s1 hh => by cases hh) (fun  _ hh => ?_)
      cases hh
      refine z_iconst 1 dX10_isName_80 (by decide +kernel) ?_
      cases hf
      exact z_zret rfl (by decide) dX10_isName_81 (Nat.zero_le _) (Nat.zero_le _) ⟨rfl, rfl⟩
  · have hf := zifn hf c21
    refine z_iconst 0 dX10_isName_24 (by decide +kernel) ?_
    cases hf
    exact z_zret rfl (by decide) dX10_isName_25 (Nat.zero_le _) (Nat.zero_le _) ⟨rfl, rfl⟩

noncomputable def fX10_number_L2S (N : Nat)  (rec : Int32 → zS → Option ((Int32 × zS) ⊕ (zS))) (v1 : Int32) (s : zS) : Option ((Int32 × zS) ⊕ (zS)) := if zga 3 (zlen 36) = true then if (s.2.1 36 (3 : Int32).toNatClampNeg) ≤ v1 then some (.inr (s)) else zbn (fX10_isName N v1 0 s) (fun x2 s3 => if x2 = 0 then rec (v1 + 1) s3 else some (.inl (v1, s3))) else none
noncomputable def fX10_number_L2 (N : Nat)  (n : Nat) : Int32 → zS → Option ((Int32 × zS) ⊕ (zS)) := Nat.rec (motive := fun _ => Int32 → zS → Option ((Int32 × zS) ⊕ (zS))) (fun _ _ => none) (fun _ rec => fX10_number_L2S N  rec) n
set_option maxHeartbeats 400000 in
set_option maxRecDepth 100000 in
theorem tX10_number_L2 {g : zGl} (hok : zGok g) (d : Nat) (hd : 1 ≤ d) (N : Nat)   {mc ms n0 : Nat} {Q : zO → List zE → Prop} (n : Nat) : ∀ (v1 : Int32) (s : zS) (r : (Int32 × zS) ⊕ (zS)) (hf : fX10_number_L2 N  n v1 s = some r) (k1 : ∀ w s', r = .inl (w, s') → Q (.inl (some (.int w))) (zHp s')) (k2 : ∀  (s' : zS), r = .inr (s') → zW g mX10_number d mc ms n0 Q 0 0 (zHp s') [some (.ref 33), none, none] [] 29), zW g mX10_number d mc ms n0 Q 0 0 (zHp s) [some (.ref 33), some (.int v1), none] [] 2 := by
  induction n with
  | zero => intro v1 s r hf; cases hf
  | succ n ih =>
    intro v1 s r hf k1 k2
    have hrec : ∀ (v1 : Int32) (s : zS) (r1 : (Int32 × zS) ⊕ (zS)), fX10_number_L2 N  n v1 s = some r1 → r1 = r → zW g mX10_number d mc ms n0 Q 0 0 (zHp s) [some (.ref 33), some (.int v1), none] [] 2 := fun v1 s r1 h e => ih v1 s r1 h (by subst e; exact k1) (by subst e; exact k2)
    have hrec : ∀ (v1 : Int32) (s : zS), fX10_number_L2 N  n v1 s = some r → zW g mX10_number d mc ms n0 Q 0 0 (zHp s) [some (.ref 33), some (.int v1), none] [] 2 := fun v1 s h => hrec v1 s r h rfl
    have hf : fX10_number_L2S N  (fX10_number_L2 N  n) v1 s = some r := hf
    unfold fX10_number_L2S at hf
    refine z_iload_n dX10_number_2 rfl ?_
    refine z_aload_n dX10_number_3 rfl ?_
    refine z_getf dX10_number_4 fX10_16 (at_Model s) rfl ?_
    refine z_iconst 3 dX10_number_7 (by decide +kernel) ?_
    obtain ⟨hi1, hf⟩ := zifs hf
    refine z_iald dX10_number_8 (at_arr s 36 (by decide)) (zga_in hi1) ?_
    refine z_icmp_ge 29 dX10_number_9 (by decide) (fun c9 => ?_) (fun c9 => ?_)
    · have hf := zifp hf c9
      cases hf
      refine z_mask (ls' := [_, _, _]) [true, false, false] rfl ?_
      exact k2  _ rfl
    · have hf := zifn hf c9
      refine z_aload_n dX10_number_12 rfl ?_
      refine z_iload_n dX10_number_13 rfl ?_
      refine z_iconst 0 dX10_number_14 (by decide +kernel) ?_
      obtain ⟨x2, s3, q4, hf⟩ := zbn_of hf
      refine z_cV (as := [_, _]) hok dX10_number_15 kX10_142 (tX10_isName hok (d - 1) N v1 0  q4) rfl (at_Model s) rfl rfl (by omega) (Nat.le_of_ble_eq_true rfl) (Nat.zero_le _) (Nat.zero_le _) rfl ?_
      refine z_if_eq 23 dX10_number_18 (by decide) (fun c18 => ?_) (fun c18 => ?_)
      · have hf := zifp hf c18
        refine z_iinc (ls' := [_, _, _]) (v1 + 1) dX10_number_23 rfl rfl (by decide) rfl ?_
        refine z_goto 2 dX10_number_26 (by decide) ?_
        refine z_mask (ls' := [_, _, _]) [true, true, false] rfl ?_
        exact hrec (v1 + 1) s3 hf
      · have hf := zifn hf c18
        refine z_iload_n dX10_number_21 rfl ?_
        cases hf
        exact z_iret rfl dX10_number_22 (Nat.zero_le _) (Nat.zero_le _) (k1 _ _ rfl)
noncomputable def fX10_number_L67S (N : Nat)  (rec : Int32 → Int32 → zS → Option ((Int32 × zS) ⊕ (Int32 × zS))) (v1 : Int32) (v2 : Int32) (s : zS) : Option ((Int32 × zS) ⊕ (Int32 × zS)) := if ((s.1 3318) - (s.1 3317)) ≤ v2 then some (.inr (v1, s)) else if zga ((s.1 3317) + v2) (zlen 35) = true then if zga ((16 * v1) + v2) (zlen 40) = true then rec v1 (v2 + 1) (zsr s 40 ((16 * v1) + v2) (s.2.1 35 ((s.1 3317) + v2).toNatClampNeg)) else none else none
noncomputable def fX10_number_L67 (N : Nat)  (n : Nat) : Int32 → Int32 → zS → Option ((Int32 × zS) ⊕ (Int32 × zS)) := Nat.rec (motive := fun _ => Int32 → Int32 → zS → Option ((Int32 × zS) ⊕ (Int32 × zS))) (fun _ _ _ => none) (fun _ rec => fX10_number_L67S N  rec) n
set_option maxHeartbeats 400000 in
set_option maxRecDepth 100000 in
theorem tX10_number_L67 {g : zGl} (hok : zGok g) (d : Nat) (hd : 1 ≤ d) (N : Nat)   {mc ms n0 : Nat} {Q : zO → List zE → Prop} (n : Nat) : ∀ (v1 : Int32) (v2 : Int32) (s : zS) (r : (Int32 × zS) ⊕ (Int32 × zS)) (hf : fX10_number_L67 N  n v1 v2 s = some r) (k1 : ∀ w s', r = .inl (w, s') → Q (.inl (some (.int w))) (zHp s')) (k2 : ∀ (y1 : Int32) (s' : zS), r = .inr (y1, s') → zW g mX10_number d mc ms n0 Q 0 0 (zHp s') [some (.ref 33), some (.int y1), none] [] 108), zW g mX10_number d mc ms n0 Q 0 0 (zHp s) [some (.ref 33), some (.int v1), some (.int v2)] [] 67 := by
  induction n with
  | zero => intro v1 v2 s r hf; cases hf
  | succ n ih =>
    intro v1 v2 s r hf k1 k2
    have hrec : ∀ (v1 : Int32) (v2 : Int32) (s : zS) (r1 : (Int32 × zS) ⊕ (Int32 × zS)), fX10_number_L67 N  n v1 v2 s = some r1 → r1 = r → zW g mX10_number d mc ms n0 Q 0 0 (zHp s) [some (.ref 33), some (.int v1), some (.int v2)] [] 67 := fun v1 v2 s r1 h e => ih v1 v2 s r1 h (by subst e; exact k1) (by subst e; exact k2)
    have hrec : ∀ (v1 : Int32) (v2 : Int32) (s : zS), fX10_number_L67 N  n v1 v2 s = some r → zW g mX10_number d mc ms n0 Q 0 0 (zHp s) [some (.ref 33), some (.int v1), some (.int v2)] [] 67 := fun v1 v2 s h => hrec v1 v2 s r h rfl
    have hf : fX10_number_L67S N  (fX10_number_L67 N  n) v1 v2 s = some r := hf
    unfold fX10_number_L67S at hf
    refine z_iload_n dX10_number_67 rfl ?_
    refine z_aload_n dX10_number_68 rfl ?_
    refine z_getf dX10_number_69 fX10_88 (at_Model s) rfl ?_
    refine z_aload_n dX10_number_72 rfl ?_
    refine z_getf dX10_number_73 fX10_85 (at_Model s) rfl ?_
    refine z_isub dX10_number_76 ?_
    refine z_icmp_ge 108 dX10_number_77 (by decide) (fun c77 => ?_) (fun c77 => ?_)
    · have hf := zifp hf c77
      cases hf
      refine z_mask (ls' := [_, _, _]) [true, true, false] rfl ?_
      exact k2 _ _ rfl
    · have hf := zifn hf c77
      refine z_aload_n dX10_number_80 rfl ?_
      refine z_getf dX10_number_81 fX10_28 (at_Model s) rfl ?_
      refine z_bipush 16 dX10_number_84 (by decide +kernel) ?_
      refine z_iload_n dX10_number_86 rfl ?_
      refine z_imul dX10_number_87 ?_
      refine z_iload_n dX10_number_88 rfl ?_
      refine z_iadd dX10_number_89 ?_
      refine z_aload_n dX10_number_90 rfl ?_
      refine z_getf dX10_number_91 fX10_13 (at_Model s) rfl ?_
      refine z_aload_n dX10_number_94 rfl ?_
      refine z_getf dX10_number_95 fX10_85 (at_Model s) rfl ?_
      refine z_iload_n dX10_number_98 rfl ?_
      refine z_iadd dX10_number_99 ?_
      obtain ⟨hi12, hf⟩ := zifs hf
      refine z_iald dX10_number_100 (at_arr s 35 (by decide)) (zga_in hi12) ?_
      obtain ⟨hi13, hf⟩ := zifs hf
      refine z_iastore dX10_number_101 (at_arr s 40 (by decide)) (zga_in hi13) (st_arr s 40 (by decide) ((16 * v1) + v2) (s.2.1 35 ((s.1 3317) + v2).toNatClampNeg)) ?_
      refine z_iinc (ls' := [_, _, _]) (v2 + 1) dX10_number_102 rfl rfl (by decide) rfl ?_
      refine z_goto 67 dX10_number_105 (by decide) ?_
      refine z_mask (ls' := [_, _, _]) [true, true, true] rfl ?_
      exact hrec v1 (v2 + 1) (zsr s 40 ((16 * v1) + v2) (s.2.1 35 ((s.1 3317) + v2).toNatClampNeg)) hf
noncomputable def fX10_number (N : Nat)  (s : zS) : Option (Int32 × zS) := zbl (fX10_number_L2 N  N 0 s) (fun x => some x) (fun s8 => if zga 3 (zlen 36) = true then if (s8.2.1 36 (3 : Int32).toNatClampNeg) = 150 then some ((-1), s8) else if zga 3 (zlen 36) = true then if zga (s8.2.1 36 (3 : Int32).toNatClampNeg) (zlen 41) = true then zbl (fX10_number_L67 N  N (s8.2.1 36 (3 : Int32).toNatClampNeg) 0 (zsr s8 41 (s8.2.1 36 (3 : Int32).toNatClampNeg) ((s8.1 3318) - (s8.1 3317)))) (fun x => some x) (fun lq14 => match lq14 with | (y17, s18) => if zga 3 (zlen 36) = true then if zga 3 (zlen 36) = true then some (y17, (zsr s18 36 3 ((s18.2.1 36 (3 : Int32).toNatClampNeg) + 1))) else none else none) else none else none else none)
set_option maxHeartbeats 400000 in
set_option maxRecDepth 100000 in
theorem tX10_number {g : zGl} (hok : zGok g) (d : Nat) (hd : 1 ≤ d) (N : Nat)   {s s' : zS} {w : Int32} (hf : fX10_number N  s = some (w, s')) : zMet g mX10_number d 0 0 [.ref 33] (zHp s) (zret (some (.int w)) (zHp s')) := by
  refine zMet.ofW (by decide +kernel) (Nat.le_of_ble_eq_true rfl) ?_
  show zW g mX10_number d 0 0 51 _ 0 0 (zHp s) [some (.ref 33), none, none] [] 0
  unfold fX10_number at hf
  refine z_iconst 0 dX10_number_0 (by decide +kernel) ?_
  refine z_istore_n (ls' := [_, _, _]) dX10_number_1 (by decide) rfl ?_
  refine z_mask (ls' := [_, _, _]) [true, true, false] rfl ?_
  rcases zbl_of hf with ⟨lr6, le7, hf⟩ | ⟨lr6, le7, hf⟩
  · cases hf
    exact tX10_number_L2 hok d (by omega) N   N 0 s _ le7 (fun w1 s1 hh => by cases hh; exact ⟨rfl, rfl⟩) (fun  _ hh => by cases hh)
  · obtain ⟨s8, rfl⟩ : ∃ z, z = lr6 := ⟨_, rfl⟩
    refine tX10_number_L2 hok d (by omega) N   N 0 s _ le7 (fun w1 s1 hh => by cases hh) (fun  _ hh => ?_)
    cases hh
    refine z_aload_n dX10_number_29 rfl ?_
    refine z_getf dX10_number_30 fX10_16 (at_Model s8) rfl ?_
    refine z_iconst 3 dX10_number_33 (by decide +kernel) ?_
    obtain ⟨hi9, hf⟩ := zifs hf
    refine z_iald dX10_number_34 (at_arr s8 36 (by decide)) (zga_in hi9) ?_
    refine z_sipush 150 dX10_number_35 (by decide +kernel) ?_
    refine z_icmp_ne 43 dX10_number_38 (by decide) (fun c38 => ?_) (fun c38 => ?_)
    · have hf := zifn hf c38
      refine z_aload_n dX10_number_43 rfl ?_
      refine z_getf dX10_number_44 fX10_16 (at_Model s8) rfl ?_
      refine z_iconst 3 dX10_number_47 (by decide +kernel) ?_
      obtain ⟨hi10, hf⟩ := zifs hf
      refine z_iald dX10_number_48 (at_arr s8 36 (by decide)) (zga_in hi10) ?_
      refine z_istore_n (ls' := [_, _, _]) dX10_number_49 (by decide) rfl ?_
      refine z_aload_n dX10_number_50 rfl ?_
      refine z_getf dX10_number_51 fX10_31 (at_Model s8) rfl ?_
      refine z_iload_n dX10_number_54 rfl ?_
      refine z_aload_n dX10_number_55 rfl ?_
      refine z_getf dX10_number_56 fX10_88 (at_Model s8) rfl ?_
      refine z_aload_n dX10_number_59 rfl ?_
      refine z_getf dX10_number_60 fX10_85 (at_Model s8) rfl ?_
      refine z_isub dX10_number_63 ?_
      obtain ⟨hi11, hf⟩ := zifs hf
      refine z_iastore dX10_number_64 (at_arr s8 41 (by decide)) (zga_in hi11) (st_arr s8 41 (by decide) (s8.2.1 36 (3 : Int32).toNatClampNeg) ((s8.1 3318) - (s8.1 3317))) ?_
      refine z_iconst 0 dX10_number_65 (by decide +kernel) ?_
      refine z_istore_n (ls' := [_, _, _]) dX10_number_66 (by decide) rfl ?_
      refine z_mask (ls' := [_, _, _]) [true, true, true] rfl ?_
      rcases zbl_of hf with ⟨lr15, le16, hf⟩ | ⟨lr15, le16, hf⟩
      · cases hf
        exact tX10_number_L67 hok d (by omega) N   N (s8.2.1 36 (3 : Int32).toNatClampNeg) 0 (zsr s8 41 (s8.2.1 36 (3 : Int32).toNatClampNeg) ((s8.1 3318) - (s8.1 3317))) _ le16 (fun w1 s1 hh => by cases hh; exact ⟨rfl, rfl⟩) (fun _ _ hh => by cases hh)
      · obtain ⟨y17, s18⟩ := lr15
        refine tX10_number_L67 hok d (by omega) N   N (s8.2.1 36 (3 : Int32).toNatClampNeg) 0 (zsr s8 41 (s8.2.1 36 (3 : Int32).toNatClampNeg) ((s8.1 3318) - (s8.1 3317))) _ le16 (fun w1 s1 hh => by cases hh) (fun _ _ hh => ?_)
        cases hh
        refine z_aload_n dX10_number_108 rfl ?_
        refine z_getf dX10_number_109 fX10_16 (at_Model s18) rfl ?_
        refine z_iconst 3 dX10_number_112 (by decide +kernel) ?_
        refine z_dup2_11 dX10_number_113 rfl rfl ?_
        obtain ⟨hi19, hf⟩ := zifs hf
        refine z_iald dX10_number_114 (at_arr s18 36 (by decide)) (zga_in hi19) ?_
        refine z_iconst 1 dX10_number_115 (by decide +kernel) ?_
        refine z_iadd dX10_number_116 ?_
        obtain ⟨hi20, hf⟩ := zifs hf
        refine z_iastore dX10_number_117 (at_arr s18 36 (by decide)) (zga_in hi20) (st_arr s18 36 (by decide) 3 ((s18.2.1 36 (3 : Int32).toNatClampNeg) + 1)) ?_
        refine z_iload_n dX10_number_118 rfl ?_
        cases hf
        exact z_iret rfl dX10_number_119 (Nat.zero_le _) (Nat.zero_le _) ⟨rfl, rfl⟩
    · have hf := zifp hf c38
      refine z_iconst (-1) dX10_number_41 (by decide +kernel) ?_
      cases hf
      exact z_iret rfl dX10_number_42 (Nat.zero_le _) (Nat.zero_le _) ⟨rfl, rfl⟩

noncomputable def fX10_state (N : Nat) (p0 : Int32) (p1 : Int32) (s : zS) : Option (Int32 × zS) := if zga 0 (zlen 36) = true then if (s.2.1 36 (0 : Int32).toNatClampNeg) = 400 then zbn (fX10_fail N 8 s) (fun x2 s3 => if zbo x2 = true then some (x2, s3) else none) else if p1 = (-1) then zbn (fX10_fail N 8 s) (fun x16 s17 => if zbo x16 = true then some (x16, s17) else none) else if zga 0 (zlen 36) = true then if zga (6 * (s.2.1 36 (0 : Int32).toNatClampNeg)) (zlen 37) = true then if zga ((6 * (s.2.1 36 (0 : Int32).toNatClampNeg)) + 1) (zlen 37) = true then if zga 1 (zlen 36) = true then if zga ((6 * (s.2.1 36 (0 : Int32).toNatClampNeg)) + 2) (zlen 37) = true then if zga ((6 * (s.2.1 36 (0 : Int32).toNatClampNeg)) + 3) (zlen 37) = true then if zga ((6 * (s.2.1 36 (0 : Int32).toNatClampNeg)) + 4) (zlen 37) = true then if zga ((6 * (s.2.1 36 (0 : Int32).toNatClampNeg)) + 5) (zlen 37) = true then if zga 0 (zlen 36) = true then if zga 0 (zlen 36) = true then some (1, (zsr (zsr (zsr (zsr (zsr (zsr (zsr s 37 (6 * (s.2.1 36 (0 : Int32).toNatClampNeg)) p0) 37 ((6 * (s.2.1 36 (0 : Int32).toNatClampNeg)) + 1) p1) 37 ((6 * (s.2.1 36 (0 : Int32).toNatClampNeg)) + 2) (s.2.1 36 (1 : Int32).toNatClampNeg)) 37 ((6 * (s.2.1 36 (0 : Int32).toNatClampNeg)) + 3) 0) 37 ((6 * (s.2.1 36 (0 : Int32).toNatClampNeg)) + 4) (s.1 3317)) 37 ((6 * (s.2.1 36 (0 : Int32).toNatClampNeg)) + 5) (s.1 3319)) 36 0 ((s.2.1 36 (0 : Int32).toNatClampNeg) + 1))) else none else none else none else none else none else none else none else none else none else none else none
set_option maxHeartbeats 400000 in
set_option maxRecDepth 100000 in
theorem tX10_state {g : zGl} (hok : zGok g) (d : Nat) (hd : 1 ≤ d) (N : Nat) (p0 : Int32) (p1 : Int32)  {s s' : zS} {w : Int32} (hf : fX10_state N p0 p1 s = some (w, s')) : zMet g mX10_state d 0 0 [.ref 33, .int p0, .int p1] (zHp s) (zret (some (.int w)) (zHp s')) := by
  refine zMet.ofW (by decide +kernel) (Nat.le_of_ble_eq_true rfl) ?_
  show zW g mX10_state d 0 0 51 _ 0 0 (zHp s) [some (.ref 33), some (.int p0), some (.int p1), none] [] 0
  unfold fX10_state at hf
  refine z_aload_n dX10_state_0 rfl ?_
  refine z_getf dX10_state_1 fX10_16 (at_Model s) rfl ?_
  refine z_iconst 0 dX10_state_4 (by decide +kernel) ?_
  obtain ⟨hi1, hf⟩ := zifs hf
  refine z_iald dX10_state_5 (at_arr s 36 (by decide)) (zga_in hi1) ?_
  refine z_sipush 400 dX10_state_6 (by decide +kernel) ?_
  refine z_icmp_eq 17 dX10_state_9 (by decide) (fun c9 => ?_) (fun c9 => ?_)
  · have hf := zifp hf c9
    refine z_aload_n dX10_state_17 rfl ?_
    refine z_bipush 8 dX10_state_18 (by decide +kernel) ?_
    obtain ⟨x2, s3, q4, hf⟩ := zbn_of hf
    refine z_cV (as := [_]) hok dX10_state_20 kX10_152 (tX10_fail hok (d - 1) N 8  q4) rfl (at_Model s) rfl rfl (by omega) (Nat.le_of_ble_eq_true rfl) (Nat.zero_le _) (Nat.zero_le _) rfl ?_
    obtain ⟨bo5, hf⟩ := zifs hf
    cases hf
    exact z_zret rfl (zbo_n bo5) dX10_state_23 (Nat.zero_le _) (Nat.zero_le _) ⟨rfl, rfl⟩
  · have hf := zifn hf c9
    refine z_iload_n dX10_state_12 rfl ?_
    refine z_iconst (-1) dX10_state_13 (by decide +kernel) ?_
    refine z_icmp_ne 24 dX10_state_14 (by decide) (fun c14 => ?_) (fun c14 => ?_)
    · have hf := zifn hf c14
      refine z_bipush 6 dX10_state_24 (by decide +kernel) ?_
      refine z_aload_n dX10_state_26 rfl ?_
      refine z_getf dX10_state_27 fX10_16 (at_Model s) rfl ?_
      refine z_iconst 0 dX10_state_30 (by decide +kernel) ?_
      obtain ⟨hi6, hf⟩ := zifs hf
      refine z_iald dX10_state_31 (at_arr s 36 (by decide)) (zga_in hi6) ?_
      refine z_imul dX10_state_32 ?_
      refine z_istore_n (ls' := [_, _, _, _]) dX10_state_33 (by decide) rfl ?_
      refine z_aload_n dX10_state_34 rfl ?_
      refine z_getf dX10_state_35 fX10_19 (at_Model s) rfl ?_
      refine z_iload_n dX10_state_38 rfl ?_
      refine z_iload_n dX10_state_39 rfl ?_
      obtain ⟨hi7, hf⟩ := zifs hf
      refine z_iastore dX10_state_40 (at_arr s 37 (by decide)) (zga_in hi7) (st_arr s 37 (by decide) (6 * (s.2.1 36 (0 : Int32).toNatClampNeg)) p0) ?_
      refine z_aload_n dX10_state_41 rfl ?_
      refine z_getf dX10_state_42 fX10_19 (at_Model (zsr s 37 (6 * (s.2.1 36 (0 : Int32).toNatClampNeg)) p0)) rfl ?_
      refine z_iload_n dX10_state_45 rfl ?_
      refine z_iconst 1 dX10_state_46 (by decide +kernel) ?_
      refine z_iadd dX10_state_47 ?_
      refine z_iload_n dX10_state_48 rfl ?_
      obtain ⟨hi8, hf⟩ := zifs hf
      refine z_iastore dX10_state_49 (at_arr (zsr s 37 (6 * (s.2.1 36 (0 : Int32).toNatClampNeg)) p0) 37 (by decide)) (zga_in hi8) (st_arr (zsr s 37 (6 * (s.2.1 36 (0 : Int32).toNatClampNeg)) p0) 37 (by decide) ((6 * (s.2.1 36 (0 : Int32).toNatClampNeg)) + 1) p1) ?_
      refine z_aload_n dX10_state_50 rfl ?_
      refine z_getf dX10_state_51 fX10_19 (at_Model (zsr (zsr s 37 (6 * (s.2.1 36 (0 : Int32).toNatClampNeg)) p0) 37 ((6 * (s.2.1 36 (0 : Int32).toNatClampNeg)) + 1) p1)) rfl ?_
      refine z_iload_n dX10_state_54 rfl ?_
      refine z_iconst 2 dX10_state_55 (by decide +kernel) ?_
      refine z_iadd dX10_state_56 ?_
      refine z_aload_n dX10_state_57 rfl ?_
      refine z_getf dX10_state_58 fX10_16 (at_Model (zsr (zsr s 37 (6 * (s.2.1 36 (0 : Int32).toNatClampNeg)) p0) 37 ((6 * (s.2.1 36 (0 : Int32).toNatClampNeg)) + 1) p1)) rfl ?_
      refine z_iconst 1 dX10_state_61 (by decide +kernel) ?_
      obtain ⟨hi9, hf⟩ := zifs hf
      refine z_iald dX10_state_62 (at_arr (zsr (zsr s 37 (6 * (s.2.1 36 (0 : Int32).toNatClampNeg)) p0) 37 ((6 * (s.2.1 36 (0 : Int32).toNatClampNeg)) + 1) p1) 36 (by decide)) (zga_in hi9) ?_
      obtain ⟨hi10, hf⟩ := zifs hf
      refine z_iastore dX10_state_63 (at_arr (zsr (zsr s 37 (6 * (s.2.1 36 (0 : Int32).toNatClampNeg)) p0) 37 ((6 * (s.2.1 36 (0 : Int32).toNatClampNeg)) + 1) p1) 37 (by decide)) (zga_in hi10) (st_arr (zsr (zsr s 37 (6 * (s.2.1 36 (0 : Int32).toNatClampNeg)) p0) 37 ((6 * (s.2.1 36 (0 : Int32).toNatClampNeg)) + 1) p1) 37 (by decide) ((6 * (s.2.1 36 (0 : Int32).toNatClampNeg)) + 2) (s.2.1 36 (1 : Int32).toNatClampNeg)) ?_
      refine z_aload_n dX10_state_64 rfl ?_
      refine z_getf dX10_state_65 fX10_19 (at_Model (zsr (zsr (zsr s 37 (6 * (s.2.1 36 (0 : Int32).toNatClampNeg)) p0) 37 ((6 * (s.2.1 36 (0 : Int32).toNatClampNeg)) + 1) p1) 37 ((6 * (s.2.1 36 (0 : Int32).toNatClampNeg)) + 2) (s.2.1 36 (1 : Int32).toNatClampNeg))) rfl ?_
      refine z_iload_n dX10_state_68 rfl ?_
      refine z_iconst 3 dX10_state_69 (by decide +kernel) ?_
      refine z_iadd dX10_state_70 ?_
      refine z_iconst 0 dX10_state_71 (by decide +kernel) ?_
      obtain ⟨hi11, hf⟩ := zifs hf
      refine z_iastore dX10_state_72 (at_arr (zsr (zsr (zsr s 37 (6 * (s.2.1 36 (0 : Int32).toNatClampNeg)) p0) 37 ((6 * (s.2.1 36 (0 : Int32).toNatClampNeg)) + 1) p1) 37 ((6 * (s.2.1 36 (0 : Int32).toNatClampNeg)) + 2) (s.2.1 36 (1 : Int32).toNatClampNeg)) 37 (by decide)) (zga_in hi11) (st_arr (zsr (zsr (zsr s 37 (6 * (s.2.1 36 (0 : Int32).toNatClampNeg)) p0) 37 ((6 * (s.2.1 36 (0 : Int32).toNatClampNeg)) + 1) p1) 37 ((6 * (s.2.1 36 (0 : Int32).toNatClampNeg)) + 2) (s.2.1 36 (1 : Int32).toNatClampNeg)) 37 (by decide) ((6 * (s.2.1 36 (0 : Int32).toNatClampNeg)) + 3) 0) ?_
      refine z_aload_n dX10_state_73 rfl ?_
      refine z_getf dX10_state_74 fX10_19 (at_Model (zsr (zsr (zsr (zsr s 37 (6 * (s.2.1 36 (0 : Int32).toNatClampNeg)) p0) 37 ((6 * (s.2.1 36 (0 : Int32).toNatClampNeg)) + 1) p1) 37 ((6 * (s.2.1 36 (0 : Int32).toNatClampNeg)) + 2) (s.2.1 36 (1 : Int32).toNatClampNeg)) 37 ((6 * (s.2.1 36 (0 : Int32).toNatClampNeg)) + 3) 0)) rfl ?_
      refine z_iload_n dX10_state_77 rfl ?_
      refine z_iconst 4 dX10_state_78 (by decide +kernel) ?_
      refine z_iadd dX10_state_79 ?_
      refine z_aload_n dX10_state_80 rfl ?_
      refine z_getf dX10_state_81 fX10_85 (at_Model (zsr (zsr (zsr (zsr s 37 (6 * (s.2.1 36 (0 : Int32).toNatClampNeg)) p0) 37 ((6 * (s.2.1 36 (0 : Int32).toNatClampNeg)) + 1) p1) 37 ((6 * (s.2.1 36 (0 : Int32).toNatClampNeg)) + 2) (s.2.1 36 (1 : Int32).toNatClampNeg)) 37 ((6 * (s.2.1 36 (0 : Int32).toNatClampNeg)) + 3) 0)) rfl ?_
      obtain ⟨hi12, hf⟩ := zifs hf
      refine z_iastore dX10_state_84 (at_arr (zsr (zsr (zsr (zsr s 37 (6 * (s.2.1 36 (0 : Int32).toNatClampNeg)) p0) 37 ((6 * (s.2.1 36 (0 : Int32).toNatClampNeg)) + 1) p1) 37 ((6 * (s.2.1 36 (0 : Int32).toNatClampNeg)) + 2) (s.2.1 36 (1 : Int32).toNatClampNeg)) 37 ((6 * (s.2.1 36 (0 : Int32).toNatClampNeg)) + 3) 0) 37 (by decide)) (zga_in hi12) (st_arr (zsr (zsr (zsr (zsr s 37 (6 * (s.2.1 36 (0 : Int32).toNatClampNeg)) p0) 37 ((6 * (s.2.1 36 (0 : Int32).toNatClampNeg)) + 1) p1) 37 ((6 * (s.2.1 36 (0 : Int32).toNatClampNeg)) + 2) (s.2.1 36 (1 : Int32).toNatClampNeg)) 37 ((6 * (s.2.1 36 (0 : Int32).toNatClampNeg)) + 3) 0) 37 (by decide) ((6 * (s.2.1 36 (0 : Int32).toNatClampNeg)) + 4) (s.1 3317)) ?_
      refine z_aload_n dX10_state_85 rfl ?_
      refine z_getf dX10_state_86 fX10_19 (at_Model (zsr (zsr (zsr (zsr (zsr s 37 (6 * (s.2.1 36 (0 : Int32).toNatClampNeg)) p0) 37 ((6 * (s.2.1 36 (0 : Int32).toNatClampNeg)) + 1) p1) 37 ((6 * (s.2.1 36 (0 : Int32).toNatClampNeg)) + 2) (s.2.1 36 (1 : Int32).toNatClampNeg)) 37 ((6 * (s.2.1 36 (0 : Int32).toNatClampNeg)) + 3) 0) 37 ((6 * (s.2.1 36 (0 : Int32).toNatClampNeg)) + 4) (s.1 3317))) rfl ?_
      refine z_iload_n dX10_state_89 rfl ?_
      refine z_iconst 5 dX10_state_90 (by decide +kernel) ?_
      refine z_iadd dX10_state_91 ?_
      refine z_aload_n dX10_state_92 rfl ?_
      refine z_getf dX10_state_93 fX10_220 (at_Model (zsr (zsr (zsr (zsr (zsr s 37 (6 * (s.2.1 36 (0 : Int32).toNatClampNeg)) p0) 37 ((6 * (s.2.1 36 (0 : Int32).toNatClampNeg)) + 1) p1) 37 ((6 * (s.2.1 36 (0 : Int32).toNatClampNeg)) + 2) (s.2.1 36 (1 : Int32).toNatClampNeg)) 37 ((6 * (s.2.1 36 (0 : Int32).toNatClampNeg)) + 3) 0) 37 ((6 * (s.2.1 36 (0 : Int32).toNatClampNeg)) + 4) (s.1 3317))) rfl ?_
      obtain ⟨hi13, hf⟩ := zifs hf
      refine z_iastore dX10_state_96 (at_arr (zsr (zsr (zsr (zsr (zsr s 37 (6 * (s.2.1 36 (0 : Int32).toNatClampNeg)) p0) 37 ((6 * (s.2.1 36 (0 : Int32).toNatClampNeg)) + 1) p1) 37 ((6 * (s.2.1 36 (0 : Int32).toNatClampNeg)) + 2) (s.2.1 36 (1 : Int32).toNatClampNeg)) 37 ((6 * (s.2.1 36 (0 : Int32).toNatClampNeg)) + 3) 0) 37 ((6 * (s.2.1 36 (0 : Int32).toNatClampNeg)) + 4) (s.1 3317)) 37 (by decide)) (zga_in hi13) (st_arr (zsr (zsr (zsr (zsr (zsr s 37 (6 * (s.2.1 36 (0 : Int32).toNatClampNeg)) p0) 37 ((6 * (s.2.1 36 (0 : Int32).toNatClampNeg)) + 1) p1) 37 ((6 * (s.2.1 36 (0 : Int32).toNatClampNeg)) + 2) (s.2.1 36 (1 : Int32).toNatClampNeg)) 37 ((6 * (s.2.1 36 (0 : Int32).toNatClampNeg)) + 3) 0) 37 ((6 * (s.2.1 36 (0 : Int32).toNatClampNeg)) + 4) (s.1 3317)) 37 (by decide) ((6 * (s.2.1 36 (0 : Int32).toNatClampNeg)) + 5) (s.1 3319)) ?_
      refine z_aload_n dX10_state_97 rfl ?_
      refine z_getf dX10_state_98 fX10_16 (at_Model (zsr (zsr (zsr (zsr (zsr (zsr s 37 (6 * (s.2.1 36 (0 : Int32).toNatClampNeg)) p0) 37 ((6 * (s.2.1 36 (0 : Int32).toNatClampNeg)) + 1) p1) 37 ((6 * (s.2.1 36 (0 : Int32).toNatClampNeg)) + 2) (s.2.1 36 (1 : Int32).toNatClampNeg)) 37 ((6 * (s.2.1 36 (0 : Int32).toNatClampNeg)) + 3) 0) 37 ((6 * (s.2.1 36 (0 : Int32).toNatClampNeg)) + 4) (s.1 3317)) 37 ((6 * (s.2.1 36 (0 : Int32).toNatClampNeg)) + 5) (s.1 3319))) rfl ?_
      refine z_iconst 0 dX10_state_101 (by decide +kernel) ?_
      refine z_dup2_11 dX10_state_102 rfl rfl ?_
      obtain ⟨hi14, hf⟩ := zifs hf
      refine z_iald dX10_state_103 (at_arr (zsr (zsr (zsr (zsr (zsr (zsr s 37 (6 * (s.2.1 36 (0 : Int32).toNatClampNeg)) p0) 37 ((6 * (s.2.1 36 (0 : Int32).toNatClampNeg)) + 1) p1) 37 ((6 * (s.2.1 36 (0 : Int32).toNatClampNeg)) + 2) (s.2.1 36 (1 : Int32).toNatClampNeg)) 37 ((6 * (s.2.1 36 (0 : Int32).toNatClampNeg)) + 3) 0) 37 ((6 * (s.2.1 36 (0 : Int32).toNatClampNeg)) + 4) (s.1 3317)) 37 ((6 * (s.2.1 36 (0 : Int32).toNatClampNeg)) + 5) (s.1 3319)) 36 (by decide)) (zga_in hi14) ?_
      refine z_iconst 1 dX10_state_104 (by decide +kernel) ?_
      refine z_iadd dX10_state_105 ?_
      obtain ⟨hi15, hf⟩ := zifs hf
      refine z_iastore dX10_state_106 (at_arr (zsr (zsr (zsr (zsr (zsr (zsr s 37 (6 * (s.2.1 36 (0 : Int32).toNatClampNeg)) p0) 37 ((6 * (s.2.1 36 (0 : Int32).toNatClampNeg)) + 1) p1) 37 ((6 * (s.2.1 36 (0 : Int32).toNatClampNeg)) + 2) (s.2.1 36 (1 : Int32).toNatClampNeg)) 37 ((6 * (s.2.1 36 (0 : Int32).toNatClampNeg)) + 3) 0) 37 ((6 * (s.2.1 36 (0 : Int32).toNatClampNeg)) + 4) (s.1 3317)) 37 ((6 * (s.2.1 36 (0 : Int32).toNatClampNeg)) + 5) (s.1 3319)) 36 (by decide)) (zga_in hi15) (st_arr (zsr (zsr (zsr (zsr (zsr (zsr s 37 (6 * (s.2.1 36 (0 : Int32).toNatClampNeg)) p0) 37 ((6 * (s.2.1 36 (0 : Int32).toNatClampNeg)) + 1) p1) 37 ((6 * (s.2.1 36 (0 : Int32).toNatClampNeg)) + 2) (s.2.1 36 (1 : Int32).toNatClampNeg)) 37 ((6 * (s.2.1 36 (0 : Int32).toNatClampNeg)) + 3) 0) 37 ((6 * (s.2.1 36 (0 : Int32).toNatClampNeg)) + 4) (s.1 3317)) 37 ((6 * (s.2.1 36 (0 : Int32).toNatClampNeg)) + 5) (s.1 3319)) 36 (by decide) 0 ((s.2.1 36 (0 : Int32).toNatClampNeg) + 1)) ?_
      refine z_iconst 1 dX10_state_107 (by decide +kernel) ?_
      cases hf
      exact z_zret rfl (by decide) dX10_state_108 (Nat.zero_le _) (Nat.zero_le _) ⟨rfl, rfl⟩
    · have hf := zifp hf c14
      refine z_aload_n dX10_state_17 rfl ?_
      refine z_bipush 8 dX10_state_18 (by decide +kernel) ?_
      obtain ⟨x16, s17, q18, hf⟩ := zbn_of hf
      refine z_cV (as := [_]) hok dX10_state_20 kX10_152 (tX10_fail hok (d - 1) N 8  q18) rfl (at_Model s) rfl rfl (by omega) (Nat.le_of_ble_eq_true rfl) (Nat.zero_le _) (Nat.zero_le _) rfl ?_
      obtain ⟨bo19, hf⟩ := zifs hf
      cases hf
      exact z_zret rfl (zbo_n bo19) dX10_state_23 (Nat.zero_le _) (Nat.zero_le _) ⟨rfl, rfl⟩

