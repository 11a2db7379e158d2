theorem i_vc : Claimed_1_1 ∧ Claimed_1_2 := i_vc_of (zPure_of (N := 10000) (Nat.le_refl _) (rd_ok (Nat.le_refl _)) (tl_ok (Nat.le_refl _)))
