set_option maxHeartbeats 400000 in
theorem kp_L2 {N : Nat} (hN : 6000 ≤ N) (s : zS) : ∃ t, fX10_keep_L2 N N 0 s = some (.inr t) ∧ zeq [] [36] s t ∧ ∀ k, t.2.1 36 k = if 4 ≤ k ∧ k < 4 + 4 then s.2.1 36 (k - 4) else s.2.1 36 k := by
  have h := zfor1 (S := fX10_keep_L2S N) 0 4 (fun i t => zeq [] [36] s t ∧ ∀ k, t.2.1 36 k = if 4 ≤ k ∧ k < 4 + i then s.2.1 36 (k - 4) else s.2.1 36 k) (fun q => ∃ t, q = .inr t ∧ zeq [] [36] s t ∧ ∀ k, t.2.1 36 k = if 4 ≤ k ∧ k < 4 + 4 then s.2.1 36 (k - 4) else s.2.1 36 k) (fun rec i t _ hi hI hr => by
    obtain ⟨h1, h2⟩ := hI
    unfold fX10_keep_L2S
    by_cases c : i < 4
    · refine zp_neg (show ¬ (4 : Int32) ≤ nI i from nI_ge c (by decide)) (zp_pos (zga_l (by rfl) (show i < 8 by omega) (by decide)) ?_)
      rw [show (4 : Int32) + nI i = nI (4 + i) from nI_add 4 i]
      refine zp_pos (zga_l (by rfl) (show 4 + i < 8 by omega) (by decide)) ?_
      rw [nI_clamp (by omega), nI_1]
      refine hr c _ ⟨zeq_trans h1 (zeq_r (by simp)), fun k => ?_⟩
      rw [zsr_g (by omega), h2, h2, if_neg (show ¬ (4 ≤ i ∧ i < 4 + i) by omega)]
      by_cases e : k = 4 + i
      · rw [if_pos e, if_pos (by omega), e, show 4 + i - 4 = i by omega]
      · rw [if_neg e]
        by_cases e2 : 4 ≤ k ∧ k < 4 + i
        · rw [if_pos e2, if_pos (by omega)]
        · rw [if_neg e2, if_neg (by omega)]
    · have e : i = 4 := by omega
      subst e
      exact zp_pos (show (4 : Int32) ≤ nI 4 by decide) (zp_some ⟨t, rfl, h1, h2⟩)) N s (by omega) (by omega) ⟨zeq_refl _ _ _, fun k => by rw [if_neg (by omega)]⟩
  obtain ⟨q, e, t, rfl, h1, h2⟩ := h
  exact ⟨t, e, h1, h2⟩
set_option maxHeartbeats 400000 in
theorem kp_L29 {N : Nat} (hN : 6000 ≤ N) (s : zS) : ∃ t, fX10_keep_L29 N N 0 s = some (.inr t) ∧ zeq [] [37] s t ∧ ∀ k, t.2.1 37 k = if 2400 ≤ k ∧ k < 2400 + 2400 then s.2.1 37 (k - 2400) else s.2.1 37 k := by
  have h := zfor1 (S := fX10_keep_L29S N) 0 2400 (fun i t => zeq [] [37] s t ∧ ∀ k, t.2.1 37 k = if 2400 ≤ k ∧ k < 2400 + i then s.2.1 37 (k - 2400) else s.2.1 37 k) (fun q => ∃ t, q = .inr t ∧ zeq [] [37] s t ∧ ∀ k, t.2.1 37 k = if 2400 ≤ k ∧ k < 2400 + 2400 then s.2.1 37 (k - 2400) else s.2.1 37 k) (fun rec i t _ hi hI hr => by
    obtain ⟨h1, h2⟩ := hI
    unfold fX10_keep_L29S
    by_cases c : i < 2400
    · refine zp_neg (show ¬ (2400 : Int32) ≤ nI i from nI_ge c (by decide)) (zp_pos (zga_l (by rfl) (show i < 4800 by omega) (by decide)) ?_)
      rw [show (2400 : Int32) + nI i = nI (2400 + i) from nI_add 2400 i]
      refine zp_pos (zga_l (by rfl) (show 2400 + i < 4800 by omega) (by decide)) ?_
      rw [nI_clamp (by omega), nI_1]
      refine hr c _ ⟨zeq_trans h1 (zeq_r (by simp)), fun k => ?_⟩
      rw [zsr_g (by omega), h2, h2, if_neg (show ¬ (2400 ≤ i ∧ i < 2400 + i) by omega)]
      by_cases e : k = 2400 + i
      · rw [if_pos e, if_pos (by omega), e, show 2400 + i - 2400 = i by omega]
      · rw [if_neg e]
        by_cases e2 : 2400 ≤ k ∧ k < 2400 + i
        · rw [if_pos e2, if_pos (by omega)]
        · rw [if_neg e2, if_neg (by omega)]
    · have e : i = 2400 := by omega
      subst e
      exact zp_pos (show (2400 : Int32) ≤ nI 2400 by decide) (zp_some ⟨t, rfl, h1, h2⟩)) N s (by omega) (by omega) ⟨zeq_refl _ _ _, fun k => by rw [if_neg (by omega)]⟩
  obtain ⟨q, e, t, rfl, h1, h2⟩ := h
  exact ⟨t, e, h1, h2⟩
set_option maxHeartbeats 400000 in
theorem kp_L60 {N : Nat} (hN : 6000 ≤ N) (s : zS) : ∃ t, fX10_keep_L60 N N 0 s = some (.inr t) ∧ zeq [] [38] s t ∧ ∀ k, t.2.1 38 k = if 5600 ≤ k ∧ k < 5600 + 5600 then s.2.1 38 (k - 5600) else s.2.1 38 k := by
  have h := zfor1 (S := fX10_keep_L60S N) 0 5600 (fun i t => zeq [] [38] s t ∧ ∀ k, t.2.1 38 k = if 5600 ≤ k ∧ k < 5600 + i then s.2.1 38 (k - 5600) else s.2.1 38 k) (fun q => ∃ t, q = .inr t ∧ zeq [] [38] s t ∧ ∀ k, t.2.1 38 k = if 5600 ≤ k ∧ k < 5600 + 5600 then s.2.1 38 (k - 5600) else s.2.1 38 k) (fun rec i t _ hi hI hr => by
    obtain ⟨h1, h2⟩ := hI
    unfold fX10_keep_L60S
    by_cases c : i < 5600
    · refine zp_neg (show ¬ (5600 : Int32) ≤ nI i from nI_ge c (by decide)) (zp_pos (zga_l (by rfl) (show i < 11200 by omega) (by decide)) ?_)
      rw [show (5600 : Int32) + nI i = nI (5600 + i) from nI_add 5600 i]
      refine zp_pos (zga_l (by rfl) (show 5600 + i < 11200 by omega) (by decide)) ?_
      rw [nI_clamp (by omega), nI_1]
      refine hr c _ ⟨zeq_trans h1 (zeq_r (by simp)), fun k => ?_⟩
      rw [zsr_g (by omega), h2, h2, if_neg (show ¬ (5600 ≤ i ∧ i < 5600 + i) by omega)]
      by_cases e : k = 5600 + i
      · rw [if_pos e, if_pos (by omega), e, show 5600 + i - 5600 = i by omega]
      · rw [if_neg e]
        by_cases e2 : 5600 ≤ k ∧ k < 5600 + i
        · rw [if_pos e2, if_pos (by omega)]
        · rw [if_neg e2, if_neg (by omega)]
    · have e : i = 5600 := by omega
      subst e
      exact zp_pos (show (5600 : Int32) ≤ nI 5600 by decide) (zp_some ⟨t, rfl, h1, h2⟩)) N s (by omega) (by omega) ⟨zeq_refl _ _ _, fun k => by rw [if_neg (by omega)]⟩
  obtain ⟨q, e, t, rfl, h1, h2⟩ := h
  exact ⟨t, e, h1, h2⟩
set_option maxHeartbeats 400000 in
theorem kp_L91 {N : Nat} (hN : 6000 ≤ N) (s : zS) : ∃ t, fX10_keep_L91 N N 0 s = some (.inr t) ∧ zeq [] [39] s t ∧ ∀ k, t.2.1 39 k = if 4000 ≤ k ∧ k < 4000 + 4000 then s.2.1 39 (k - 4000) else s.2.1 39 k := by
  have h := zfor1 (S := fX10_keep_L91S N) 0 4000 (fun i t => zeq [] [39] s t ∧ ∀ k, t.2.1 39 k = if 4000 ≤ k ∧ k < 4000 + i then s.2.1 39 (k - 4000) else s.2.1 39 k) (fun q => ∃ t, q = .inr t ∧ zeq [] [39] s t ∧ ∀ k, t.2.1 39 k = if 4000 ≤ k ∧ k < 4000 + 4000 then s.2.1 39 (k - 4000) else s.2.1 39 k) (fun rec i t _ hi hI hr => by
    obtain ⟨h1, h2⟩ := hI
    unfold fX10_keep_L91S
    by_cases c : i < 4000
    · refine zp_neg (show ¬ (4000 : Int32) ≤ nI i from nI_ge c (by decide)) (zp_pos (zga_l (by rfl) (show i < 8000 by omega) (by decide)) ?_)
      rw [show (4000 : Int32) + nI i = nI (4000 + i) from nI_add 4000 i]
      refine zp_pos (zga_l (by rfl) (show 4000 + i < 8000 by omega) (by decide)) ?_
      rw [nI_clamp (by omega), nI_1]
      refine hr c _ ⟨zeq_trans h1 (zeq_r (by simp)), fun k => ?_⟩
      rw [zsr_g (by omega), h2, h2, if_neg (show ¬ (4000 ≤ i ∧ i < 4000 + i) by omega)]
      by_cases e : k = 4000 + i
      · rw [if_pos e, if_pos (by omega), e, show 4000 + i - 4000 = i by omega]
      · rw [if_neg e]
        by_cases e2 : 4000 ≤ k ∧ k < 4000 + i
        · rw [if_pos e2, if_pos (by omega)]
        · rw [if_neg e2, if_neg (by omega)]
    · have e : i = 4000 := by omega
      subst e
      exact zp_pos (show (4000 : Int32) ≤ nI 4000 by decide) (zp_some ⟨t, rfl, h1, h2⟩)) N s (by omega) (by omega) ⟨zeq_refl _ _ _, fun k => by rw [if_neg (by omega)]⟩
  obtain ⟨q, e, t, rfl, h1, h2⟩ := h
  exact ⟨t, e, h1, h2⟩
set_option maxHeartbeats 400000 in
theorem kp_L122 {N : Nat} (hN : 6000 ≤ N) (s : zS) : ∃ t, fX10_keep_L122 N N 0 s = some (.inr t) ∧ zeq [] [40] s t ∧ ∀ k, t.2.1 40 k = if 2400 ≤ k ∧ k < 2400 + 2400 then s.2.1 40 (k - 2400) else s.2.1 40 k := by
  have h := zfor1 (S := fX10_keep_L122S N) 0 2400 (fun i t => zeq [] [40] s t ∧ ∀ k, t.2.1 40 k = if 2400 ≤ k ∧ k < 2400 + i then s.2.1 40 (k - 2400) else s.2.1 40 k) (fun q => ∃ t, q = .inr t ∧ zeq [] [40] s t ∧ ∀ k, t.2.1 40 k = if 2400 ≤ k ∧ k < 2400 + 2400 then s.2.1 40 (k - 2400) else s.2.1 40 k) (fun rec i t _ hi hI hr => by
    obtain ⟨h1, h2⟩ := hI
    unfold fX10_keep_L122S
    by_cases c : i < 2400
    · refine zp_neg (show ¬ (2400 : Int32) ≤ nI i from nI_ge c (by decide)) (zp_pos (zga_l (by rfl) (show i < 4800 by omega) (by decide)) ?_)
      rw [show (2400 : Int32) + nI i = nI (2400 + i) from nI_add 2400 i]
      refine zp_pos (zga_l (by rfl) (show 2400 + i < 4800 by omega) (by decide)) ?_
      rw [nI_clamp (by omega), nI_1]
      refine hr c _ ⟨zeq_trans h1 (zeq_r (by simp)), fun k => ?_⟩
      rw [zsr_g (by omega), h2, h2, if_neg (show ¬ (2400 ≤ i ∧ i < 2400 + i) by omega)]
      by_cases e : k = 2400 + i
      · rw [if_pos e, if_pos (by omega), e, show 2400 + i - 2400 = i by omega]
      · rw [if_neg e]
        by_cases e2 : 2400 ≤ k ∧ k < 2400 + i
        · rw [if_pos e2, if_pos (by omega)]
        · rw [if_neg e2, if_neg (by omega)]
    · have e : i = 2400 := by omega
      subst e
      exact zp_pos (show (2400 : Int32) ≤ nI 2400 by decide) (zp_some ⟨t, rfl, h1, h2⟩)) N s (by omega) (by omega) ⟨zeq_refl _ _ _, fun k => by rw [if_neg (by omega)]⟩
  obtain ⟨q, e, t, rfl, h1, h2⟩ := h
  exact ⟨t, e, h1, h2⟩
set_option maxHeartbeats 400000 in
theorem kp_L153 {N : Nat} (hN : 6000 ≤ N) (s : zS) : ∃ t, fX10_keep_L153 N N 0 s = some (.inr t) ∧ zeq [] [41] s t ∧ ∀ k, t.2.1 41 k = if 150 ≤ k ∧ k < 150 + 150 then s.2.1 41 (k - 150) else s.2.1 41 k := by
  have h := zfor1 (S := fX10_keep_L153S N) 0 150 (fun i t => zeq [] [41] s t ∧ ∀ k, t.2.1 41 k = if 150 ≤ k ∧ k < 150 + i then s.2.1 41 (k - 150) else s.2.1 41 k) (fun q => ∃ t, q = .inr t ∧ zeq [] [41] s t ∧ ∀ k, t.2.1 41 k = if 150 ≤ k ∧ k < 150 + 150 then s.2.1 41 (k - 150) else s.2.1 41 k) (fun rec i t _ hi hI hr => by
    obtain ⟨h1, h2⟩ := hI
    unfold fX10_keep_L153S
    by_cases c : i < 150
    · refine zp_neg (show ¬ (150 : Int32) ≤ nI i from nI_ge c (by decide)) (zp_pos (zga_l (by rfl) (show i < 300 by omega) (by decide)) ?_)
      rw [show (150 : Int32) + nI i = nI (150 + i) from nI_add 150 i]
      refine zp_pos (zga_l (by rfl) (show 150 + i < 300 by omega) (by decide)) ?_
      rw [nI_clamp (by omega), nI_1]
      refine hr c _ ⟨zeq_trans h1 (zeq_r (by simp)), fun k => ?_⟩
      rw [zsr_g (by omega), h2, h2, if_neg (show ¬ (150 ≤ i ∧ i < 150 + i) by omega)]
      by_cases e : k = 150 + i
      · rw [if_pos e, if_pos (by omega), e, show 150 + i - 150 = i by omega]
      · rw [if_neg e]
        by_cases e2 : 150 ≤ k ∧ k < 150 + i
        · rw [if_pos e2, if_pos (by omega)]
        · rw [if_neg e2, if_neg (by omega)]
    · have e : i = 150 := by omega
      subst e
      exact zp_pos (show (150 : Int32) ≤ nI 150 by decide) (zp_some ⟨t, rfl, h1, h2⟩)) N s (by omega) (by omega) ⟨zeq_refl _ _ _, fun k => by rw [if_neg (by omega)]⟩
  obtain ⟨q, e, t, rfl, h1, h2⟩ := h
  exact ⟨t, e, h1, h2⟩
set_option maxHeartbeats 400000 in
theorem kp_L184 {N : Nat} (hN : 6000 ≤ N) (s : zS) : ∃ t, fX10_keep_L184 N N 0 s = some (.inr t) ∧ zeq [] [42] s t ∧ ∀ k, t.2.1 42 k = if 3000 ≤ k ∧ k < 3000 + 3000 then s.2.1 42 (k - 3000) else s.2.1 42 k := by
  have h := zfor1 (S := fX10_keep_L184S N) 0 3000 (fun i t => zeq [] [42] s t ∧ ∀ k, t.2.1 42 k = if 3000 ≤ k ∧ k < 3000 + i then s.2.1 42 (k - 3000) else s.2.1 42 k) (fun q => ∃ t, q = .inr t ∧ zeq [] [42] s t ∧ ∀ k, t.2.1 42 k = if 3000 ≤ k ∧ k < 3000 + 3000 then s.2.1 42 (k - 3000) else s.2.1 42 k) (fun rec i t _ hi hI hr => by
    obtain ⟨h1, h2⟩ := hI
    unfold fX10_keep_L184S
    by_cases c : i < 3000
    · refine zp_neg (show ¬ (3000 : Int32) ≤ nI i from nI_ge c (by decide)) (zp_pos (zga_l (by rfl) (show i < 6000 by omega) (by decide)) ?_)
      rw [show (3000 : Int32) + nI i = nI (3000 + i) from nI_add 3000 i]
      refine zp_pos (zga_l (by rfl) (show 3000 + i < 6000 by omega) (by decide)) ?_
      rw [nI_clamp (by omega), nI_1]
      refine hr c _ ⟨zeq_trans h1 (zeq_r (by simp)), fun k => ?_⟩
      rw [zsr_g (by omega), h2, h2, if_neg (show ¬ (3000 ≤ i ∧ i < 3000 + i) by omega)]
      by_cases e : k = 3000 + i
      · rw [if_pos e, if_pos (by omega), e, show 3000 + i - 3000 = i by omega]
      · rw [if_neg e]
        by_cases e2 : 3000 ≤ k ∧ k < 3000 + i
        · rw [if_pos e2, if_pos (by omega)]
        · rw [if_neg e2, if_neg (by omega)]
    · have e : i = 3000 := by omega
      subst e
      exact zp_pos (show (3000 : Int32) ≤ nI 3000 by decide) (zp_some ⟨t, rfl, h1, h2⟩)) N s (by omega) (by omega) ⟨zeq_refl _ _ _, fun k => by rw [if_neg (by omega)]⟩
  obtain ⟨q, e, t, rfl, h1, h2⟩ := h
  exact ⟨t, e, h1, h2⟩
set_option maxHeartbeats 400000 in
theorem kp_L215 {N : Nat} (hN : 6000 ≤ N) (s : zS) : ∃ t, fX10_keep_L215 N N 0 s = some (.inr t) ∧ zeq [] [49] s t ∧ ∀ k, t.2.1 49 k = if 800 ≤ k ∧ k < 800 + 800 then s.2.1 49 (k - 800) else s.2.1 49 k := by
  have h := zfor1 (S := fX10_keep_L215S N) 0 800 (fun i t => zeq [] [49] s t ∧ ∀ k, t.2.1 49 k = if 800 ≤ k ∧ k < 800 + i then s.2.1 49 (k - 800) else s.2.1 49 k) (fun q => ∃ t, q = .inr t ∧ zeq [] [49] s t ∧ ∀ k, t.2.1 49 k = if 800 ≤ k ∧ k < 800 + 800 then s.2.1 49 (k - 800) else s.2.1 49 k) (fun rec i t _ hi hI hr => by
    obtain ⟨h1, h2⟩ := hI
    unfold fX10_keep_L215S
    by_cases c : i < 800
    · refine zp_neg (show ¬ (800 : Int32) ≤ nI i from nI_ge c (by decide)) (zp_pos (zga_l (by rfl) (show i < 1600 by omega) (by decide)) ?_)
      rw [show (800 : Int32) + nI i = nI (800 + i) from nI_add 800 i]
      refine zp_pos (zga_l (by rfl) (show 800 + i < 1600 by omega) (by decide)) ?_
      rw [nI_clamp (by omega), nI_1]
      refine hr c _ ⟨zeq_trans h1 (zeq_r (by simp)), fun k => ?_⟩
      rw [zsr_g (by omega), h2, h2, if_neg (show ¬ (800 ≤ i ∧ i < 800 + i) by omega)]
      by_cases e : k = 800 + i
      · rw [if_pos e, if_pos (by omega), e, show 800 + i - 800 = i by omega]
      · rw [if_neg e]
        by_cases e2 : 800 ≤ k ∧ k < 800 + i
        · rw [if_pos e2, if_pos (by omega)]
        · rw [if_neg e2, if_neg (by omega)]
    · have e : i = 800 := by omega
      subst e
      exact zp_pos (show (800 : Int32) ≤ nI 800 by decide) (zp_some ⟨t, rfl, h1, h2⟩)) N s (by omega) (by omega) ⟨zeq_refl _ _ _, fun k => by rw [if_neg (by omega)]⟩
  obtain ⟨q, e, t, rfl, h1, h2⟩ := h
  exact ⟨t, e, h1, h2⟩
set_option maxHeartbeats 400000 in
theorem q_keep {N : Nat} (hN : 6000 ≤ N) (s : zS) : ∃ t, fX10_keep N s = some ((), t) ∧ zeq [] [36, 37, 38, 39, 40, 41, 42, 49] s t ∧ (∀ k, t.2.1 36 k = if 4 ≤ k ∧ k < 4 + 4 then s.2.1 36 (k - 4) else s.2.1 36 k) ∧ (∀ k, t.2.1 37 k = if 2400 ≤ k ∧ k < 2400 + 2400 then s.2.1 37 (k - 2400) else s.2.1 37 k) ∧ (∀ k, t.2.1 38 k = if 5600 ≤ k ∧ k < 5600 + 5600 then s.2.1 38 (k - 5600) else s.2.1 38 k) ∧ (∀ k, t.2.1 39 k = if 4000 ≤ k ∧ k < 4000 + 4000 then s.2.1 39 (k - 4000) else s.2.1 39 k) ∧ (∀ k, t.2.1 40 k = if 2400 ≤ k ∧ k < 2400 + 2400 then s.2.1 40 (k - 2400) else s.2.1 40 k) ∧ (∀ k, t.2.1 41 k = if 150 ≤ k ∧ k < 150 + 150 then s.2.1 41 (k - 150) else s.2.1 41 k) ∧ (∀ k, t.2.1 42 k = if 3000 ≤ k ∧ k < 3000 + 3000 then s.2.1 42 (k - 3000) else s.2.1 42 k) ∧ (∀ k, t.2.1 49 k = if 800 ≤ k ∧ k < 800 + 800 then s.2.1 49 (k - 800) else s.2.1 49 k) := by
  obtain ⟨t0, e0, z0, h0⟩ := kp_L2 hN s
  obtain ⟨t1, e1, z1, h1⟩ := kp_L29 hN t0
  obtain ⟨t2, e2, z2, h2⟩ := kp_L60 hN t1
  obtain ⟨t3, e3, z3, h3⟩ := kp_L91 hN t2
  obtain ⟨t4, e4, z4, h4⟩ := kp_L122 hN t3
  obtain ⟨t5, e5, z5, h5⟩ := kp_L153 hN t4
  obtain ⟨t6, e6, z6, h6⟩ := kp_L184 hN t5
  obtain ⟨t7, e7, z7, h7⟩ := kp_L215 hN t6
  refine ⟨t7, ?_, (zeq_trans (zeq_mono z0 (fun _ h => h) (by decide)) (zeq_trans (zeq_mono z1 (fun _ h => h) (by decide)) (zeq_trans (zeq_mono z2 (fun _ h => h) (by decide)) (zeq_trans (zeq_mono z3 (fun _ h => h) (by decide)) (zeq_trans (zeq_mono z4 (fun _ h => h) (by decide)) (zeq_trans (zeq_mono z5 (fun _ h => h) (by decide)) (zeq_trans (zeq_mono z6 (fun _ h => h) (by decide)) (zeq_mono z7 (fun _ h => h) (by decide))))))))), fun k => ?_, fun k => ?_, fun k => ?_, fun k => ?_, fun k => ?_, fun k => ?_, fun k => ?_, fun k => ?_⟩
  · unfold fX10_keep
    rw [e0, zbl_r, e1, zbl_r, e2, zbl_r, e3, zbl_r, e4, zbl_r, e5, zbl_r, e6, zbl_r, e7, zbl_r]
  · rw [z7.2.1 36 (by decide), z6.2.1 36 (by decide), z5.2.1 36 (by decide), z4.2.1 36 (by decide), z3.2.1 36 (by decide), z2.2.1 36 (by decide), z1.2.1 36 (by decide), h0]
  · rw [z7.2.1 37 (by decide), z6.2.1 37 (by decide), z5.2.1 37 (by decide), z4.2.1 37 (by decide), z3.2.1 37 (by decide), z2.2.1 37 (by decide), h1, z0.2.1 37 (by decide)]
  · rw [z7.2.1 38 (by decide), z6.2.1 38 (by decide), z5.2.1 38 (by decide), z4.2.1 38 (by decide), z3.2.1 38 (by decide), h2, z1.2.1 38 (by decide), z0.2.1 38 (by decide)]
  · rw [z7.2.1 39 (by decide), z6.2.1 39 (by decide), z5.2.1 39 (by decide), z4.2.1 39 (by decide), h3, z2.2.1 39 (by decide), z1.2.1 39 (by decide), z0.2.1 39 (by decide)]
  · rw [z7.2.1 40 (by decide), z6.2.1 40 (by decide), z5.2.1 40 (by decide), h4, z3.2.1 40 (by decide), z2.2.1 40 (by decide), z1.2.1 40 (by decide), z0.2.1 40 (by decide)]
  · rw [z7.2.1 41 (by decide), z6.2.1 41 (by decide), h5, z4.2.1 41 (by decide), z3.2.1 41 (by decide), z2.2.1 41 (by decide), z1.2.1 41 (by decide), z0.2.1 41 (by decide)]
  · rw [z7.2.1 42 (by decide), h6, z5.2.1 42 (by decide), z4.2.1 42 (by decide), z3.2.1 42 (by decide), z2.2.1 42 (by decide), z1.2.1 42 (by decide), z0.2.1 42 (by decide)]
  · rw [h7, z6.2.1 49 (by decide), z5.2.1 49 (by decide), z4.2.1 49 (by decide), z3.2.1 49 (by decide), z2.2.1 49 (by decide), z1.2.1 49 (by decide), z0.2.1 49 (by decide)]
