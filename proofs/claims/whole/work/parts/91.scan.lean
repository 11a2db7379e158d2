def zRw (T : Nat → Nat) (n : Nat) (t : zS) (i : Nat) : Prop := ∀ j, j < i → t.2.1 7 (j * 3 + 0) = nI (zwd T n (zps T n j)).1 ∧ t.2.1 7 (j * 3 + 1) = nI (zwd T n (zps T n j)).2.2.1 ∧ t.2.1 7 (j * 3 + 2) = (zwd T n (zps T n j)).2.1
def zlst (T : Nat → Nat) (n i : Nat) : Prop := (zwd T n (zps T n i)).1 = 24 ∨ (zwd T n (zps T n i)).2.2.1 = n
/-- a word that is sought from k: a blank turn, or a word at k -/
theorem zwd_one {T : Nat → Nat} {n k : Nat} (hk : k < n) (hT : T k < 256) : ((zone T n k).1 = 25 ∧ k < (zone T n k).2.2 ∧ (zone T n k).2.2 ≤ n ∧ zwd T n k = zwd T n (zone T n k).2.2) ∨ ((zone T n k).1 < 25 ∧ zwd T n k = ((zone T n k).1, (zone T n k).2.1, k, (zone T n k).2.2) ∧ ((zone T n k).1 ≠ 24 → k < (zone T n k).2.2 ∧ (zone T n k).2.2 ≤ n)) := by
  unfold zone
  by_cases c1 : T k = 32 ∨ T k = 9
  · rw [if_pos c1]
    refine Or.inl ⟨rfl, Nat.lt_succ_self k, hk, ?_⟩
    show zwd T n k = zwd T n (k + 1)
    unfold zwd
    rw [zskp_b hk c1]
  rw [if_neg c1]
  by_cases c2 : T k = 10
  · rw [if_pos c2]
    refine Or.inr ⟨Nat.le_of_ble_eq_true rfl, ?_, fun _ => ⟨Nat.lt_succ_self k, hk⟩⟩
    unfold zwd
    rw [zskp_id (fun _ => ⟨c1, by omega⟩), if_neg (by omega), if_pos c2]
  rw [if_neg c2]
  by_cases c3 : T k = 35
  · rw [if_pos c3]
    have h := zskp_c hk c3
    have hle := zrun_le zcm T (n - k) k
    have hlt : k < zrun zcm T (n - k) k := by
      rw [show n - k = (n - (k + 1)) + 1 by omega]
      show k < (if zcm (T k) = true then _ else _)
      rw [if_pos (by rw [c3]; decide)]
      have := zrun_le zcm T (n - (k + 1)) (k + 1)
      omega
    refine Or.inl ⟨rfl, hlt, by show zrun zcm T (n - k) k ≤ n; omega, ?_⟩
    show zwd T n k = zwd T n (zrun zcm T (n - k) k)
    unfold zwd
    rw [h.1, h.2]
  rw [if_neg c3]
  refine Or.inr ⟨ztok_k hT, ?_, fun h => ztok_e hk h⟩
  unfold zwd
  rw [zskp_id (fun _ => ⟨c1, c3⟩), if_neg (by omega), if_neg c2]
theorem q_scan {N n : Nat} {T : Nat → Nat} {s : zS} (h1 : s.1 601 = nI 3) (h2 : s.1 602 = nI 3001) (hn : s.1 402 = nI n) (hn2 : n ≤ 2900) (hT : ∀ i, i < n → T i < 256 ∧ s.2.1 5 i = nI (T i)) (hN : 3100 ≤ N) : zp (fX8_scan N s) (fun q => ∃ L, L ≤ n ∧ q.2.1 603 = nI (L + 1) ∧ zRw T n q.2 (L + 1) ∧ zlst T n L ∧ (∀ j, j < L → ¬ zlst T n j) ∧ zTx 5 403 T n q.2 ∧ q.2.1 402 = nI 0 ∧ zeq [402, 403, 404, 405, 603] [7] s q.2) := by
  unfold fX8_scan
  rw [hn]
  obtain ⟨s0, hs0⟩ : ∃ s0, s0 = zsc (zsc (zsc (zsc s 403 (nI n)) 402 0) 404 0) 603 0 := ⟨_, rfl⟩
  rw [← hs0]
  have z0 : zeq [402, 403, 404, 405, 603] [7] s s0 := by
    rw [hs0]
    exact zeq_trans (zeq_c (by decide)) (zeq_trans (zeq_c (by decide)) (zeq_trans (zeq_c (by decide)) (zeq_c (by decide))))
  have x0 : zTx 5 403 T n s0 := by
    rw [hs0]
    exact ⟨rfl, hn2, hT⟩
  have k0 : s0.1 404 = nI 0 ∧ s0.1 603 = nI 0 ∧ s0.1 402 = nI 0 := by rw [hs0]; exact ⟨rfl, rfl, rfl⟩
  refine zp_blr (fun x => ∃ L k, L ≤ k ∧ k ≤ n ∧ zTx 5 403 T n x.2 ∧ zeq [402, 403, 404, 405, 603] [7] s x.2 ∧ x.2.1 402 = nI 0 ∧ (∀ j, j < L → ¬ zlst T n j) ∧ ((x.1 = nI 24 ∧ x.2.1 603 = nI (L + 1) ∧ zRw T n x.2 (L + 1) ∧ zlst T n L) ∨ (¬ x.1 = 24 ∧ k = n ∧ x.2.1 603 = nI L ∧ zRw T n x.2 L ∧ zwd T n n = zwd T n (zps T n L)))) ?_ (fun x hx => ?_)
  · refine zlp2 (S := fX8_scan_L31S N) (fun v1 v2 t => ∃ L k tn, L ≤ k ∧ k ≤ n ∧ tn ≤ k + 1 ∧ v2 = nI tn ∧ zTx 5 403 T n t ∧ zeq [402, 403, 404, 405, 603] [7] s t ∧ t.1 402 = nI 0 ∧ (∀ j, j < L → ¬ zlst T n j) ∧ ((v1 = nI 24 ∧ t.1 603 = nI (L + 1) ∧ zRw T n t (L + 1) ∧ zlst T n L) ∨ (¬ v1 = 24 ∧ tn ≤ k ∧ t.1 404 = nI k ∧ t.1 603 = nI L ∧ zRw T n t L ∧ zwd T n k = zwd T n (zps T n L)))) (fun v1 _ t => if v1 = 24 then 0 else n + 1 - (t.1 404).toNatClampNeg) _ ?_ N 25 0 s0 ⟨0, 0, 0, Nat.le_refl _, Nat.zero_le _, Nat.zero_le _, rfl, x0, z0, k0.2.2, fun j hj => absurd hj (Nat.not_lt_zero _), Or.inr ⟨by decide, Nat.le_refl _, k0.1, k0.2.1, fun j hj => absurd hj (Nat.not_lt_zero _), rfl⟩⟩ (by
      rw [if_neg (by decide), k0.1, nI_clamp (by decide)]
      omega)
    intro rec v1 v2 t hI hr
    obtain ⟨L, k, tn, a1, a2, a3, rfl, hx, hz, h402, hj, hcase⟩ := hI
    unfold fX8_scan_L31S
    rw [hx.1]
    have hx1 := hx.1
    rcases hcase with ⟨rfl, b1, b2, b3⟩ | ⟨b0, b1, b2, b3, b4, b5⟩
    · have done : zp (some (Sum.inr (nI 24, t)) : Option ((Unit × zS) ⊕ (Int32 × zS))) (fun q => ∃ x, q = Sum.inr x ∧ ∃ L k, L ≤ k ∧ k ≤ n ∧ zTx 5 403 T n x.2 ∧ zeq [402, 403, 404, 405, 603] [7] s x.2 ∧ x.2.1 402 = nI 0 ∧ (∀ j, j < L → ¬ zlst T n j) ∧ ((x.1 = nI 24 ∧ x.2.1 603 = nI (L + 1) ∧ zRw T n x.2 (L + 1) ∧ zlst T n L) ∨ (¬ x.1 = 24 ∧ k = n ∧ x.2.1 603 = nI L ∧ zRw T n x.2 L ∧ zwd T n n = zwd T n (zps T n L)))) := zp_some ⟨_, rfl, L, k, a1, a2, hx, hz, h402, hj, Or.inl ⟨rfl, b1, b2, b3⟩⟩
      refine zp_if (fun _ => done) (fun _ => zp_if (fun _ => done) (fun _ => zp_pos rfl done))
    · refine zp_neg (show ¬ nI 3000 ≤ nI tn from nI_ge (by omega) (by decide)) ?_
      rw [b2]
      by_cases c : k < n
      · refine zp_neg (nI_ge c (by omega)) (zp_neg b0 ?_)
        have hzc : zeq [402, 403, 404, 405, 603] [7] t (zsc t 405 0) := zeq_c (by decide)
        have hxc : zTx 5 403 T n (zsc t 405 0) := ⟨hx.1, hx.2.1, hx.2.2⟩
        refine zp_bn (zp_mono (s8_one hxc (by omega) c b2 zsc_at) (fun q hq => ?_))
        obtain ⟨d1, d2, d3, d4⟩ := hq
        have hTk := (hx.2.2 k c).1
        have hz2 : zeq [402, 403, 404, 405, 603] [7] s q.2 := zeq_trans hz (zeq_trans hzc (zeq_mono d2 (by decide) (by decide)))
        have hx2 : zTx 5 403 T n q.2 := zTx_keep hxc d2 (by decide) List.not_mem_nil
        have h402' : q.2.1 402 = nI 0 := (d2.1 402 (by decide)).trans h402
        have h603 : q.2.1 603 = nI L := (d2.1 603 (by decide)).trans b3
        have h7 : q.2.2.1 7 = t.2.1 7 := d2.2.1 7 List.not_mem_nil
        rw [d1, nI_1]
        rcases zwd_one c hTk with ⟨o1, o2, o3, o4⟩ | ⟨o1, o2, o3⟩
        · rw [o1]
          refine zp_pos rfl ?_
          have h4 := d3 (by omega)
          refine hr _ _ _ ⟨L, (zone T n k).2.2, tn + 1, by omega, o3, by omega, rfl, hx2, hz2, h402', hj, Or.inr ⟨by decide, by omega, h4, h603, fun j hj => by rw [h7]; exact b4 j hj, o4.symm.trans b5⟩⟩ ?_
          rw [if_neg (by decide), if_neg b0, h4, b2, nI_clamp (by omega), nI_clamp (by omega)]
          omega
        · refine zp_neg (fun z => by have := (nI_eq (b := 25) (by omega) (by decide)).mp z; omega) ?_
          refine zp_bn (zp_mono (q_addWord (i := L) ((hz2.1 601 (by decide)).trans h1) ((hz2.1 602 (by decide)).trans h2) h603 (by omega) (by omega)) (fun u hu => ?_))
          obtain ⟨u1, u2, u3, u4, u5, u6⟩ := hu
          have e5 : zwd T n (zps T n L) = ((zone T n k).1, (zone T n k).2.1, k, (zone T n k).2.2) := b5.symm.trans o2
          have rows : zRw T n u.2 (L + 1) := by
            intro j hj1
            by_cases e : j = L
            · subst e
              rw [e5, u4, u5, u6, d4]
              exact ⟨rfl, rfl, rfl⟩
            · rw [u3 _ (by omega), u3 _ (by omega), u3 _ (by omega), h7]
              exact b4 j (by omega)
          have hz3 := zeq_trans hz2 (zeq_mono u1 (by decide) (by decide) : zeq [402, 403, 404, 405, 603] [7] q.2 u.2)
          have hx3 : zTx 5 403 T n u.2 := zTx_keep hx2 u1 (by decide) (by decide)
          have h4023 : u.2.1 402 = nI 0 := (u1.1 402 (by decide)).trans h402'
          by_cases c24 : (zone T n k).1 = 24
          · rw [c24]
            refine hr _ _ _ ⟨L, k, tn + 1, a1, a2, by omega, rfl, hx3, hz3, h4023, hj, Or.inl ⟨rfl, u2, rows, Or.inl (by rw [e5]; exact c24)⟩⟩ ?_
            rw [if_pos (show nI 24 = 24 from rfl), if_neg b0, b2, nI_clamp (by omega)]
            omega
          · have h4 := d3 c24
            have o4 := o3 c24
            have n24 : ¬ nI (zone T n k).1 = 24 := fun z => c24 ((nI_eq (b := 24) (by omega) (by decide)).mp z)
            refine hr _ _ _ ⟨L + 1, (zone T n k).2.2, tn + 1, by omega, by omega, by omega, rfl, hx3, hz3, h4023, fun j hj1 => ?_, Or.inr ⟨n24, by omega, (u1.1 404 (by decide)).trans h4, u2, rows, ?_⟩⟩ ?_
            · by_cases e : j = L
              · subst e
                unfold zlst
                rw [e5]
                rintro (z | z)
                · exact c24 z
                · have : k = n := z
                  omega
              · exact hj j (by omega)
            · show _ = zwd T n (zwd T n (zps T n L)).2.2.2
              rw [e5]
            · rw [if_neg n24, if_neg b0, u1.1 404 (by decide), h4, b2, nI_clamp (by omega), nI_clamp (by omega)]
              omega
      · have e : k = n := by omega
        subst e
        exact zp_pos (nI_le (Nat.le_refl _) (by omega)) (zp_some ⟨_, rfl, L, k, a1, a2, hx, hz, h402, hj, Or.inr ⟨b0, rfl, b3, b4, b5⟩⟩)
  obtain ⟨L, k, a1, a2, hx1, hz, h402, hj, hcase⟩ := hx
  obtain ⟨v1, t⟩ := x
  show zp (if v1 = 24 then some ((), t) else zbn (fX8_addWord N 0 (t.1 403) 0 t) (fun x12 s13 => some ((), s13))) _
  rcases hcase with ⟨b0, b1, b2, b3⟩ | ⟨b0, b1, b2, b3, b4⟩
  · exact zp_pos b0 (zp_some ⟨L, by omega, b1, b2, b3, hj, hx1, h402, hz⟩)
  · refine zp_neg b0 ?_
    refine zp_bn (zp_mono (q_addWord (i := L) ((hz.1 601 (by decide)).trans h1) ((hz.1 602 (by decide)).trans h2) b2 (by omega) (by omega)) (fun u hu => ?_))
    obtain ⟨u1, u2, u3, u4, u5, u6⟩ := hu
    have ew : zwd T n n = (0, 0, n, n) := by
      unfold zwd
      rw [zskp_id (fun h => absurd h (Nat.lt_irrefl _)), if_pos (Nat.le_refl _)]
    have e5 : zwd T n (zps T n L) = (0, 0, n, n) := b4.symm.trans ew
    refine zp_some ⟨L, by omega, u2, fun j hj1 => ?_, Or.inr (by rw [e5]), hj, zTx_keep hx1 u1 (by decide) (by decide), (u1.1 402 (by decide)).trans h402, zeq_trans hz (zeq_mono u1 (by decide) (by decide))⟩
    by_cases e : j = L
    · subst e
      rw [e5, u4, u5, u6]
      exact ⟨rfl, hx1.1, rfl⟩
    · rw [u3 _ (by omega), u3 _ (by omega), u3 _ (by omega)]
      exact b3 j (by omega)
