theorem loc_k : ∀ v, v < 20 → (48 : Int32) + (nI v >>> ((1 : Int32) &&& 31)) = nI (48 + v / 2) ∧ (48 : Int32) + (nI v / 2) = nI (48 + v / 2) ∧ ((nI v &&& 1) = 0 ↔ v % 2 = 0) ∧ ((nI v - nI v / 2 * 2) = 1 ↔ v % 2 = 1) := by decide +kernel
set_option maxHeartbeats 1000000 in
theorem lf_text {B n0 n1 n2 n3 nb nl t x o : Nat} {s : zS} (hx : zBx B n0 n1 n2 n3 nb nl s) (ht : t < n2) (hk : zItk B n3 s t x) (ho : s.2.1 (B + 6) (t * 2 + 0) = nI o) (h3 : o ≤ 3) : ∃ w : List Int32, w.length ≤ x ∧ (∀ (N : Nat) (c : zS) (l : List Int32), 100 ≤ N → zYC s c → zOU l c → l.length + w.length ≤ 6000 → zCo (fX7_putLeaf N B (nI o) (s.2.1 (B + 6) (t * 2 + 1)) c) c l w) ∧ (∀ (N : Nat) (m : zS) (l : List Int32), 100 ≤ N → zYM s m → zOV l m → l.length + w.length ≤ 6000 → zMo (fX10_sayLeaf N (nI t) m) m l w) := by
  obtain ⟨hb, hT, -, -, ⟨c1, c2, c3, c4⟩, -, -⟩ := id hx
  have q0 := c4 t 0 ht (by omega)
  have q1 := c4 t 1 ht (by omega)
  obtain ⟨v, hv⟩ : ∃ v, v = s.2.1 (B + 6) (t * 2 + 1) := ⟨_, rfl⟩
  have e0 : (4000 : Int32) + 2 * nI t = nI (4000 + 2 * t) := by rw [show (2 : Int32) * nI t = nI (2 * t) from pk_mul 2 t]; exact nI_add 4000 _
  have e1 : (4001 : Int32) + 2 * nI t = nI (4001 + 2 * t) := by rw [show (2 : Int32) * nI t = nI (2 * t) from pk_mul 2 t]; exact nI_add 4001 _
  have hle : ∀ (N : Nat) (m : zS), zYM s m → fX10_sayLeaf N (nI t) m = (if nI o = 0 then zbn (fX10_sayNumber N (v.toInt64 &&& 4294967295) m) (fun _ s29 => fX10_sayLeaf_J33 N (nI t) v (nI o) s29) else fX10_sayLeaf_J33 N (nI t) v (nI o) m) := by
    intro N m hm
    have r0 : m.2.1 39 (4000 + 2 * t) = nI o := by
      rw [hm 39 (by decide), ← ho, q0, show 4000 * 1 + 2 * t + 0 = 4000 + 2 * t by omega]
    have r1 : m.2.1 39 (4001 + 2 * t) = v := by
      rw [hm 39 (by decide), hv, q1, show 4000 * 1 + 2 * t + 1 = 4001 + 2 * t by omega]
    have hw : fX10_whatOf N (nI t) m = some (nI o, m) := by
      unfold fX10_whatOf
      rw [e0, if_pos (zga_l (by rfl) (show 4000 + 2 * t < 8000 by omega) (by decide)), nI_clamp (by omega), r0]
    unfold fX10_sayLeaf
    rw [e1, if_pos (zga_l (by rfl) (show 4001 + 2 * t < 8000 by omega) (by decide)), hw, zbn_s, nI_clamp (by omega), r1]
  rw [← hv]
  unfold zItk at hk
  rw [ho, ← hv] at hk
  have no : ∀ k : Nat, k < 100 → nI o = nI k → o = k := fun k hk e => (nI_eq (by omega) (by omega)).mp e
  have cs : o = 0 ∨ o = 1 ∨ o = 2 ∨ o = 3 := by omega
  rcases cs with rfl | rfl | rfl | rfl
  · -- a number
    obtain ⟨u, hu, eu⟩ := n_val v
    obtain ⟨w, w1, w2, w3, -, w4, w5⟩ := n_text hu
    have hwx : w.length ≤ x := by
      rcases hk with ⟨-, hk⟩ | ⟨z, -⟩ | ⟨z, -⟩ | ⟨z, -⟩ | ⟨k, z1, z2, z, -⟩
      · rcases hk with hk | ⟨r, r1, r2, r3⟩
        · omega
        · rw [r2, n_valI (by omega)] at eu
          have : r = u := (pk_lEQ (by omega) (by omega)).mp eu
          have := w2 (by omega)
          omega
      · exact absurd (no 1 (by omega) z) (by omega)
      · exact absurd (no 2 (by omega) z) (by omega)
      · exact absurd (no 3 (by omega) z) (by omega)
      · exact absurd (no k (by omega) z) (by omega)
    refine ⟨w, hwx, fun N c l hN hc h hl => ?_, fun N m l hN hm h hl => ?_⟩
    · unfold fX7_putLeaf
      rw [if_neg (by decide), if_neg (by decide), if_neg (by decide)]
      exact zCo_ret (w4 N v c l hN eu h hl)
    · rw [hle N m hm, if_pos (show nI 0 = 0 from rfl), eu]
      exact zMo_ret (w5 N m l hN h hl)
  · -- a name
    rcases hk with ⟨z, -⟩ | ⟨-, k, len, k1, k2, k3, k4⟩ | ⟨z, -⟩ | ⟨z, -⟩ | ⟨k, z1, z2, z, -⟩
    · exact absurd (no 0 (by omega) z) (by omega)
    · obtain ⟨w, w1, w2, w3, w4⟩ := nm_text hx k1
      have hwl : w.length ≤ len := by
        have hh := w2.symm.trans k3
        by_cases hl3 : len < 2 ^ 31
        · have := (nI_eq (by omega) hl3).mp hh
          omega
        · omega
      refine ⟨w, by omega, fun N c l hN hc h hl => ?_, fun N m l hN hm h hl => ?_⟩
      · unfold fX7_putLeaf
        rw [if_pos (show nI 1 = 1 from rfl), k2]
        exact zCo_ret (w3 N c l hN hc h hl)
      · rw [hle N m hm, if_neg (by decide)]
        unfold fX10_sayLeaf_J33
        rw [if_pos (show nI 1 = 1 from rfl), k2]
        obtain ⟨m', f1, f2, f3⟩ := w4 N m l hN hm h hl
        refine ⟨m', ?_, f2, f3⟩
        rw [f1, zbn_s]
        unfold fX10_sayLeaf_J43
        rw [if_neg (by decide), if_neg (by decide)]
    · exact absurd (no 2 (by omega) z) (by omega)
    · exact absurd (no 3 (by omega) z) (by omega)
    · exact absurd (no k (by omega) z) (by omega)
  · -- a LOCAL
    rcases hk with ⟨z, -⟩ | ⟨z, -⟩ | ⟨-, u, u1, u2, u3⟩ | ⟨z, -⟩ | ⟨k, z1, z2, z, -⟩
    · exact absurd (no 0 (by omega) z) (by omega)
    · exact absurd (no 1 (by omega) z) (by omega)
    · obtain ⟨y1, y2, y3, y4⟩ := loc_k u u1
      rw [u2]
      by_cases od : u % 2 = 0
      · refine ⟨[nI (48 + u / 2)] ++ [98], (by rw [List.length_append]; exact u3), fun N c l hN hc h hl => ?_, fun N m l hN hm h hl => ?_⟩
        · rw [List.length_append, List.length_singleton, List.length_singleton] at hl
          unfold fX7_putLeaf
          rw [if_neg (by decide), if_pos (show nI 2 = 2 from rfl), y1]
          refine zCo_seq (c_byte h (by omega)) (fun c' h' z' => ?_)
          rw [if_pos (y3.mpr od)]
          exact zCo_ret (c_byte h' (by rw [List.length_append, List.length_singleton]; omega))
        · rw [List.length_append, List.length_singleton, List.length_singleton] at hl
          rw [hle N m hm, if_neg (by decide), u2]
          unfold fX10_sayLeaf_J33 fX10_sayLeaf_J43
          rw [if_neg (by decide), if_pos (show nI 2 = 2 from rfl), y2]
          refine zMo_seq (m_byte h (by omega)) (fun c' h' z' => ?_)
          rw [if_neg (fun z => by have := y4.mp z; omega)]
          obtain ⟨m', f1, f2, f3⟩ := m_byte (N := N) (x := 98) h' (by rw [List.length_append, List.length_singleton]; omega)
          exact ⟨m', by rw [f1, zbn_s, if_neg (by decide)], f2, f3⟩
      · refine ⟨[nI (48 + u / 2)] ++ [102], (by rw [List.length_append]; exact u3), fun N c l hN hc h hl => ?_, fun N m l hN hm h hl => ?_⟩
        · rw [List.length_append, List.length_singleton, List.length_singleton] at hl
          unfold fX7_putLeaf
          rw [if_neg (by decide), if_pos (show nI 2 = 2 from rfl), y1]
          refine zCo_seq (c_byte h (by omega)) (fun c' h' z' => ?_)
          rw [if_neg (fun z => od (y3.mp z))]
          exact zCo_ret (c_byte h' (by rw [List.length_append, List.length_singleton]; omega))
        · rw [List.length_append, List.length_singleton, List.length_singleton] at hl
          rw [hle N m hm, if_neg (by decide), u2]
          unfold fX10_sayLeaf_J33 fX10_sayLeaf_J43
          rw [if_neg (by decide), if_pos (show nI 2 = 2 from rfl), y2]
          refine zMo_seq (m_byte h (by omega)) (fun c' h' z' => ?_)
          rw [if_pos (y4.mpr (by omega))]
          obtain ⟨m', f1, f2, f3⟩ := m_byte (N := N) (x := 102) h' (by rw [List.length_append, List.length_singleton]; omega)
          exact ⟨m', by rw [f1, zbn_s, if_neg (by decide)], f2, f3⟩
    · exact absurd (no 3 (by omega) z) (by omega)
    · exact absurd (no k (by omega) z) (by omega)
  · -- HERE
    have hwx : 1 ≤ x := by
      rcases hk with ⟨z, -⟩ | ⟨z, -⟩ | ⟨z, -⟩ | ⟨-, z⟩ | ⟨k, z1, z2, z, -⟩
      · exact absurd (no 0 (by omega) z) (by omega)
      · exact absurd (no 1 (by omega) z) (by omega)
      · exact absurd (no 2 (by omega) z) (by omega)
      · exact z
      · exact absurd (no k (by omega) z) (by omega)
    refine ⟨[46], hwx, fun N c l hN hc h hl => ?_, fun N m l hN hm h hl => ?_⟩
    · rw [List.length_singleton] at hl
      unfold fX7_putLeaf
      rw [if_neg (by decide), if_neg (by decide), if_pos (show nI 3 = 3 from rfl)]
      exact zCo_ret (c_byte h (by omega))
    · rw [List.length_singleton] at hl
      rw [hle N m hm, if_neg (by decide)]
      unfold fX10_sayLeaf_J33 fX10_sayLeaf_J43
      rw [if_neg (by decide), if_neg (by decide), if_pos (show nI 3 = 3 from rfl)]
      exact zMo_ret (m_byte h (by omega))
theorem zEx_uniq {f : Nat → Int32} : ∀ (n n' a a' z : Nat), zEx f n a z → zEx f n' a' z → a = a' := by
  intro n
  induction n with
  | zero => intro n' a a' z h; exact h.elim
  | succ n ih =>
    intro n' a a' z h h'
    cases n' with
    | zero => exact h'.elim
    | succ n' =>
      have ne : ∀ (x : Int32) (i j : Nat), i < 100 → j < 100 → x = nI i → x = nI j → i = j := fun x i j hi hj e1 e2 => (nI_eq (by omega) (by omega)).mp (e1.symm.trans e2)
      rcases h with ⟨h1, o, h2, h3⟩ | ⟨y, h1, ⟨o, h2, h3⟩, h4⟩ | ⟨y, m, o, h1, h2, h3, h4, h5, h6⟩ <;> rcases h' with ⟨g1, p, g2, g3⟩ | ⟨y', g1, ⟨p, g2, g3⟩, g4⟩ | ⟨y', m', p, g1, g2, g3, g4, g5, g6⟩
      · omega
      · rw [show y' = a by omega] at g3
        have := ne _ o p (by omega) (by omega) h3 g3
        omega
      · rw [show y' = a by omega] at g4
        have := ne _ o p (by omega) (by omega) h3 g4
        omega
      · rw [show a' = y by omega] at g3
        have := ne _ o p (by omega) (by omega) h3 g3
        omega
      · rw [show y' = y by omega] at g4
        exact ih n' a a' y h4 g4
      · rw [show y' = y by omega] at g4
        have := ne _ o p (by omega) (by omega) h3 g4
        omega
      · rw [show a' = y by omega] at g3
        have := ne _ o p (by omega) (by omega) h4 g3
        omega
      · rw [show y' = y by omega] at g3
        have := ne _ o p (by omega) (by omega) h4 g3
        omega
      · rw [show y' = y by omega] at g6
        have hm := ih n' m m' y h6 g6
        rw [← hm] at g5
        exact ih n' a a' m h5 g5
