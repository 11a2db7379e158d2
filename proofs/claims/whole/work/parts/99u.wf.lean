theorem gD_l {α : Type} {l l' : List α} {d : α} {j : Nat} (h : j < l.length) : (l ++ l').getD j d = l.getD j d := by
  rw [List.getD_eq_getElem?_getD, List.getD_eq_getElem?_getD, List.getElem?_append_left h]
theorem gD_r {α : Type} {l l' : List α} {d : α} {j : Nat} (h : l.length ≤ j) : (l ++ l').getD j d = l'.getD (j - l.length) d := by
  rw [List.getD_eq_getElem?_getD, List.getD_eq_getElem?_getD, List.getElem?_append_right h]
theorem gD_m {l : List ((Int32 × Int32) × Nat)} {j : Nat} (h : j < l.length) : (l.map Prod.fst).getD j (0, 0) = (l.getD j ((0, 0), 0)).1 := by
  rw [List.getD_eq_getElem?_getD, List.getD_eq_getElem?_getD, List.getElem?_map, List.getElem?_eq_getElem h]
  rfl
theorem gD_mem {α : Type} {l : List α} {d : α} {j : Nat} (h : j < l.length) : l.getD j d ∈ l := by
  rw [List.getD_eq_getElem?_getD, List.getElem?_eq_getElem h]
  exact List.getElem_mem h
theorem zEx_congr {f g : Nat → Int32} : ∀ (n a z : Nat), zEx f n a z → (∀ t, a ≤ t → t < z → f t = g t) → zEx g n a z := by
  intro n
  induction n with
  | zero => intro a z h; exact h.elim
  | succ n ih =>
    intro a z h hfg
    rcases h with ⟨h1, o, h2, h3⟩ | ⟨y, h1, ⟨o, h2, h3⟩, h4⟩ | ⟨y, m, o, h1, h2, h3, h4, h5, h6⟩
    · exact Or.inl ⟨h1, o, h2, by rw [← hfg a (Nat.le_refl _) (by omega)]; exact h3⟩
    · have hl := zEx_lt n a y h4
      exact Or.inr (Or.inl ⟨y, h1, ⟨o, h2, by rw [← hfg y (by omega) (by omega)]; exact h3⟩, ih a y h4 (fun t q1 q2 => hfg t q1 (by omega))⟩)
    · have hl := zEx_lt n a m h5
      have hl2 := zEx_lt n m y h6
      exact Or.inr (Or.inr ⟨y, m, o, h1, h2, h3, by rw [← hfg y (by omega) (by omega)]; exact h4, ih a m h5 (fun t q1 q2 => hfg t q1 (by omega)), ih m y h6 (fun t q1 q2 => hfg t (by omega) (by omega))⟩)
theorem zEx_mono {f : Nat → Int32} : ∀ (n k a z : Nat), zEx f n a z → n ≤ k → zEx f k a z := by
  intro n
  induction n with
  | zero => intro k a z h; exact h.elim
  | succ n ih =>
    intro k a z h hk
    obtain ⟨k, rfl⟩ : ∃ q, k = q + 1 := ⟨k - 1, by omega⟩
    rcases h with h | ⟨y, h1, h2, h4⟩ | ⟨y, m, o, h1, h2, h3, h4, h5, h6⟩
    · exact Or.inl h
    · exact Or.inr (Or.inl ⟨y, h1, h2, ih k a y h4 (by omega)⟩)
    · exact Or.inr (Or.inr ⟨y, m, o, h1, h2, h3, h4, ih k a m h5 (by omega), ih k m y h6 (by omega)⟩)
set_option maxHeartbeats 400000 in
theorem zXp_zEx {f : Nat → Int32} : ∀ (fl : Nat) (e : List (Int32 × Int32)) (a : Nat), zXp fl e → (∀ j, j < e.length → f (a + j) = (e.getD j (0, 0)).1) → zEx f e.length a (a + e.length) := by
  intro fl
  induction fl with
  | zero => intro e a h; exact h.elim
  | succ fl ih =>
    intro e a h hf
    rcases h with ⟨it, o, rfl, h1, h2⟩ | ⟨e1, it, o, rfl, h1, h2, h3⟩ | ⟨e1, e2, it, o, rfl, h1, h2, h3, h4, h5⟩
    · exact Or.inl ⟨rfl, o, h1, (hf 0 (by show 0 < 1; omega)).trans h2⟩
    · have hl : (e1 ++ [it]).length = e1.length + 1 := by rw [List.length_append, List.length_singleton]
      rw [hl] at hf ⊢
      refine Or.inr (Or.inl ⟨a + e1.length, rfl, ⟨o, h1, ?_⟩, ih e1 a h3 (fun j hj => ?_)⟩)
      · rw [hf e1.length (by omega), gD_r (Nat.le_refl _), Nat.sub_self]; exact h2
      · rw [hf j (by omega), gD_l hj]
    · have hl : (e1 ++ e2 ++ [it]).length = e1.length + e2.length + 1 := by rw [List.length_append, List.length_append, List.length_singleton]
      have hl2 : (e1 ++ e2).length = e1.length + e2.length := List.length_append
      rw [hl] at hf ⊢
      refine Or.inr (Or.inr ⟨a + (e1.length + e2.length), a + e1.length, o, rfl, h1, h2, ?_, zEx_mono _ _ _ _ (ih e1 a h4 (fun j hj => ?_)) (by omega), ?_⟩)
      · rw [hf (e1.length + e2.length) (by omega), gD_r (by omega), hl2, Nat.sub_self]; exact h3
      · rw [hf j (by omega), gD_l (by omega), gD_l hj]
      · have h9 := ih e2 (a + e1.length) h5 (fun j hj => by
          rw [show a + e1.length + j = a + (e1.length + j) by omega, hf (e1.length + j) (by omega), gD_l (by omega), gD_r (by omega), show e1.length + j - e1.length = j by omega])
        rw [show a + e1.length + e2.length = a + (e1.length + e2.length) by omega] at h9
        exact zEx_mono _ _ _ _ h9 (by omega)
theorem zsum_ext {f g : Nat → Nat} : ∀ n, (∀ t, t < n → f t = g t) → zsum f n = zsum g n
  | 0, _ => rfl
  | n + 1, h => by
    show zsum f n + f n = zsum g n + g n
    rw [zsum_ext n (fun t ht => h t (by omega)), h n (by omega)]
theorem zsum_app (f : Nat → Nat) (a : Nat) : ∀ k, zsum f (a + k) = zsum f a + zsum (fun t => f (a + t)) k
  | 0 => rfl
  | k + 1 => by
    show zsum f (a + k) + f (a + k) = zsum f a + (zsum (fun t => f (a + t)) k + f (a + k))
    rw [zsum_app f a k]
    omega
theorem zsum_one (f : Nat → Nat) : ∀ k, zsum f (k + 1) = f 0 + zsum (fun t => f (t + 1)) k
  | 0 => by show 0 + f 0 = f 0 + 0; omega
  | k + 1 => by
    show zsum f (k + 1) + f (k + 1) = f 0 + (zsum (fun t => f (t + 1)) k + f (k + 1))
    rw [zsum_one f k]
    omega
theorem zsum_list : ∀ (el : List ((Int32 × Int32) × Nat)), zsum (fun t => (el.getD t ((0, 0), 0)).2) el.length = (el.map Prod.snd).sum
  | [] => rfl
  | q :: el => by
    rw [List.length_cons, zsum_one, List.map_cons, List.sum_cons]
    have h := zsum_list el
    show q.2 + zsum (fun t => (el.getD t ((0, 0), 0)).2) el.length = _
    rw [h]
def zWB (W b n0 n1 n2 n3 : Nat) (c : zS) : Prop := ∃ ic oc fo : Nat → Nat, zsum ic n2 + zsum oc n1 ≤ W ∧ fo n1 = n2 ∧ (∀ j, j < n1 → fo (j + 1) ≤ n2) ∧ (∀ t, t < n2 → zItk b n3 c t (ic t)) ∧ (∀ j, j < n1 → zOpk b c fo j (oc j)) ∧ ∀ k, k < n0 → zStk b n1 n3 c k
theorem zItk_of {b n3 t x : Nat} {c : zS} {it : Int32 × Int32} (h : zItA b n3 c it x) (h1 : c.2.1 (b + 6) (t * 2 + 0) = it.1) (h2 : c.2.1 (b + 6) (t * 2 + 1) = it.2) : zItk b n3 c t x := by
  unfold zItk
  rw [h1, h2]
  exact h
theorem zItA_of {b n3 t x : Nat} {c : zS} {it : Int32 × Int32} (h : zItk b n3 c t x) (h1 : c.2.1 (b + 6) (t * 2 + 0) = it.1) (h2 : c.2.1 (b + 6) (t * 2 + 1) = it.2) : zItA b n3 c it x := by
  unfold zItk at h
  rw [h1, h2] at h
  exact h
set_option maxHeartbeats 1000000 in
theorem zWB_op {W b n0 n1 n3 n3' nb x : Nat} {lc : List (Int32 × Int32)} {el : List ((Int32 × Int32) × Nat)} {c m c' m' : zS} (h : zWB W b n0 n1 lc.length n3 c) (hI : zIC b lc c) (hI' : zIC b (lc ++ el.map Prod.fst) c') (hF : zFo b n1 n3 nb c m c' m') (hb : zBk b) (hO : zOw b n1 lc.length c' el x) (hA : ∀ q, q ∈ el → zItA b n3' c' q.1 q.2) (h3 : n3 ≤ n3') : zWB (W + ((el.map Prod.snd).sum + x)) b n0 (n1 + 1) (lc ++ el.map Prod.fst).length n3' c' := by
  obtain ⟨ic, oc, fo, a1, a2, a3, a4, a5, a6⟩ := h
  have hll : (lc ++ el.map Prod.fst).length = lc.length + el.length := by rw [List.length_append, List.length_map]
  have hbb := zb_lt hb
  obtain ⟨F1, F2, F3, F4, -, -, -⟩ := hF
  have e2 : c'.2.1 (b + 2) = c.2.1 (b + 2) := F1.2.1 _ (by simp only [List.mem_cons, List.not_mem_nil, or_false]; omega)
  have it0 : ∀ t, t < lc.length → c'.2.1 (b + 6) (t * 2 + 0) = c.2.1 (b + 6) (t * 2 + 0) ∧ c'.2.1 (b + 6) (t * 2 + 1) = c.2.1 (b + 6) (t * 2 + 1) := by
    intro t ht
    obtain ⟨p1, p2⟩ := hI.2 t ht
    obtain ⟨q1, q2⟩ := hI'.2 t (by omega)
    rw [gD_l ht] at q1 q2
    exact ⟨q1.trans p1.symm, q2.trans p2.symm⟩
  have it1 : ∀ j, j < el.length → c'.2.1 (b + 6) ((lc.length + j) * 2 + 0) = (el.getD j ((0, 0), 0)).1.1 ∧ c'.2.1 (b + 6) ((lc.length + j) * 2 + 1) = (el.getD j ((0, 0), 0)).1.2 := by
    intro j hj
    obtain ⟨q1, q2⟩ := hI'.2 (lc.length + j) (by omega)
    rw [gD_r (by omega), show lc.length + j - lc.length = j by omega, gD_m hj] at q1 q2
    exact ⟨q1, q2⟩
  refine ⟨fun t => if t < lc.length then ic t else (el.getD (t - lc.length) ((0, 0), 0)).2, fun j => if j < n1 then oc j else x, fun j => if j ≤ n1 then fo j else lc.length + el.length, ?_, ?_, ?_, ?_, ?_, ?_⟩
  · rw [hll, zsum_app]
    have s1 : zsum (fun t => if t < lc.length then ic t else (el.getD (t - lc.length) ((0, 0), 0)).2) lc.length = zsum ic lc.length := zsum_ext _ (fun t ht => if_pos ht)
    have s2 : zsum (fun t => (fun t => if t < lc.length then ic t else (el.getD (t - lc.length) ((0, 0), 0)).2) (lc.length + t)) el.length = (el.map Prod.snd).sum := by
      rw [← zsum_list el]
      refine zsum_ext _ (fun t ht => ?_)
      show (if lc.length + t < lc.length then ic (lc.length + t) else (el.getD (lc.length + t - lc.length) ((0, 0), 0)).2) = _
      rw [if_neg (by omega), show lc.length + t - lc.length = t by omega]
    have s3 : zsum (fun j => if j < n1 then oc j else x) (n1 + 1) = zsum oc n1 + x := by
      show zsum (fun j => if j < n1 then oc j else x) n1 + (if n1 < n1 then oc n1 else x) = _
      rw [zsum_ext (g := oc) n1 (fun t ht => if_pos ht), if_neg (by omega)]
    rw [s1, s2, s3]
    omega
  · show (if n1 + 1 ≤ n1 then fo (n1 + 1) else lc.length + el.length) = _
    rw [if_neg (by omega), hll]
  · intro j hj
    show (if j + 1 ≤ n1 then fo (j + 1) else lc.length + el.length) ≤ _
    rw [hll]
    split
    · have := a3 j (by omega); omega
    · omega
  · intro t ht
    rw [hll] at ht
    show zItk b n3' c' t (if t < lc.length then ic t else (el.getD (t - lc.length) ((0, 0), 0)).2)
    by_cases q : t < lc.length
    · rw [if_pos q]
      have h9 := zItA_of (it := (c.2.1 (b + 6) (t * 2 + 0), c.2.1 (b + 6) (t * 2 + 1))) (a4 t q) rfl rfl
      exact zItk_of (zItA_mono h9 h3 F3) (it0 t q).1 (it0 t q).2
    · rw [if_neg q]
      obtain ⟨j, rfl⟩ : ∃ j, t = lc.length + j := ⟨t - lc.length, by omega⟩
      rw [show lc.length + j - lc.length = j by omega]
      exact zItk_of (hA _ (gD_mem (show j < el.length by omega))) (it1 j (by omega)).1 (it1 j (by omega)).2
  · intro j hj
    show zOpk b c' (fun j => if j ≤ n1 then fo j else lc.length + el.length) j (if j < n1 then oc j else x)
    by_cases q : j < n1
    · rw [if_pos q]
      obtain ⟨so, mk, o1, o2, o3, o4, o5, o6, o7, o8, o9, o10, o11, o12, o13, o14⟩ := a5 j q
      have f1 : (fun j => if j ≤ n1 then fo j else lc.length + el.length) j = fo j := if_pos (by omega)
      have f2 : (fun j => if j ≤ n1 then fo j else lc.length + el.length) (j + 1) = fo (j + 1) := if_pos (by omega)
      have r : ∀ y, y < 8 → c'.2.1 (b + 4) (j * 8 + y) = c.2.1 (b + 4) (j * 8 + y) := fun y hy => F2 _ (by omega)
      unfold zOpk
      rw [f1, f2, r 0 (by omega), r 1 (by omega), r 2 (by omega), r 3 (by omega), r 4 (by omega), r 6 (by omega)]
      have h9 := a3 j q
      exact ⟨so, mk, o1, o2, o3, o4, o5, o6, o7, o8, o9, o10, fun z => zEx_congr _ _ _ (o11 z) (fun t _ ht => ((it0 t (by omega)).1).symm), o12, o13, o14⟩
    · have ej : j = n1 := by omega
      subst ej
      rw [if_neg (by omega)]
      obtain ⟨so, mk, o1, o2, o3, o4, o5, o6, o7, o8, o9, o10, o11, o12, o13⟩ := hO
      have f1 : (fun i => if i ≤ j then fo i else lc.length + el.length) j = lc.length := (if_pos (Nat.le_refl _)).trans a2
      have f2 : (fun i => if i ≤ j then fo i else lc.length + el.length) (j + 1) = lc.length + el.length := if_neg (by omega)
      unfold zOpk
      rw [f1, f2]
      refine ⟨so, mk, o1, o2, o3, o4, o5, by rw [o6, show lc.length + el.length - lc.length = el.length by omega], by omega, by omega, o8, fun z => ?_, fun z => ?_, o11, o12, o13⟩
      · rw [o9 z]; rfl
      · obtain ⟨fl, hfl⟩ := o10 z
        have h9 := zXp_zEx (f := fun t => c'.2.1 (b + 6) (t * 2 + 0)) fl (el.map Prod.fst) lc.length hfl (fun i hi => by
          rw [List.length_map] at hi
          show c'.2.1 (b + 6) ((lc.length + i) * 2 + 0) = _
          rw [(it1 i hi).1, gD_m hi])
        rw [List.length_map] at h9
        exact zEx_mono _ _ _ _ h9 o7
  · intro k hk
    obtain ⟨so, v, f, g, p1, p2, p3, p4, p5, p6, p7, p8⟩ := a6 k hk
    unfold zStk
    rw [e2]
    exact ⟨so, v, f, g, p1, p2, fun z => by have := p3 z; omega, by omega, p5, p6, p7, p8⟩
set_option maxHeartbeats 400000 in
theorem zWB_fx {W b n0 n1 n2 n3 n3' nb : Nat} {c m c' m' : zS} (h : zWB W b n0 n1 n2 n3 c) (hF : zFx2 b n3 nb c m c' m') (h6 : ∀ t j, t < n2 → j < 2 → c'.2.1 (b + 6) (t * 2 + j) = c.2.1 (b + 6) (t * 2 + j)) (hb : zBk b) (h3 : n3 ≤ n3') : zWB W b n0 n1 n2 n3' c' := by
  obtain ⟨ic, oc, fo, a1, a2, a3, a4, a5, a6⟩ := h
  have hbb := zb_lt hb
  obtain ⟨F1, F2, F3, -, -, -⟩ := hF
  have e2 : c'.2.1 (b + 2) = c.2.1 (b + 2) := F1.2.1 _ (by simp only [List.mem_cons, List.not_mem_nil, or_false]; omega)
  have e4 : c'.2.1 (b + 4) = c.2.1 (b + 4) := F1.2.1 _ (by simp only [List.mem_cons, List.not_mem_nil, or_false]; omega)
  refine ⟨ic, oc, fo, a1, a2, a3, fun t ht => ?_, fun j hj => ?_, fun k hk => ?_⟩
  · have h9 := zItA_of (it := (c.2.1 (b + 6) (t * 2 + 0), c.2.1 (b + 6) (t * 2 + 1))) (a4 t ht) rfl rfl
    exact zItk_of (zItA_mono h9 h3 F2) (h6 t 0 ht (by omega)) (h6 t 1 ht (by omega))
  · obtain ⟨so, mk, o1, o2, o3, o4, o5, o6, o7, o8, o9, o10, o11, o12⟩ := a5 j hj
    unfold zOpk
    rw [e4]
    have h9 := a3 j hj
    exact ⟨so, mk, o1, o2, o3, o4, o5, o6, o7, o8, o9, o10, fun z => zEx_congr _ _ _ (o11 z) (fun t _ ht => (h6 t 0 (by omega) (by omega)).symm), o12⟩
  · obtain ⟨so, v, f, g, p1, p2, p3, p4, p5, p6, p7, p8⟩ := a6 k hk
    unfold zStk
    rw [e2]
    exact ⟨so, v, f, g, p1, p2, fun z => by have := p3 z; omega, p4, p5, p6, p7, p8⟩
set_option maxHeartbeats 400000 in
theorem zWB_st {W b n0 n1 n2 n3 so v f g : Nat} {c c' : zS} (h : zWB W b n0 n1 n2 n3 c) (ha : ∀ a, a ≠ b + 2 → c'.2.1 a = c.2.1 a) (h2 : ∀ y, y < n0 * 6 → c'.2.1 (b + 2) y = c.2.1 (b + 2) y) (hso : so ≤ 2) (hv1 : so = 1 → v < 10) (hv2 : so ≠ 1 → v < n3) (hfg : f + g ≤ n1) (r0 : c'.2.1 (b + 2) (n0 * 6 + 0) = nI so) (r1 : c'.2.1 (b + 2) (n0 * 6 + 1) = nI v) (r2 : c'.2.1 (b + 2) (n0 * 6 + 2) = nI f) (r3 : c'.2.1 (b + 2) (n0 * 6 + 3) = nI g) : zWB W b (n0 + 1) n1 n2 n3 c' := by
  obtain ⟨ic, oc, fo, a1, a2, a3, a4, a5, a6⟩ := h
  refine ⟨ic, oc, fo, a1, a2, a3, fun t ht => ?_, fun j hj => ?_, fun k hk => ?_⟩
  · have h9 := a4 t ht
    unfold zItk at h9 ⊢
    rw [ha (b + 6) (by omega), ha (b + 8) (by omega)]
    exact h9
  · have h9 := a5 j hj
    unfold zOpk at h9 ⊢
    rw [ha (b + 4) (by omega), ha (b + 6) (by omega)]
    exact h9
  · by_cases e : k = n0
    · subst e
      exact ⟨so, v, f, g, hso, hv1, hv2, hfg, r0, r1, r2, r3⟩
    · obtain ⟨so, v, f, g, p1, p2, p3, p4, p5, p6, p7, p8⟩ := a6 k (by omega)
      unfold zStk
      rw [h2 _ (by omega), h2 _ (by omega), h2 _ (by omega), h2 _ (by omega)]
      exact ⟨so, v, f, g, p1, p2, p3, p4, p5, p6, p7, p8⟩
