def zHp (s : zS) : List zE := [.inr (6, [.ref 1, .ref 2, .ref 3, .ref 28, .ref 30]),
  .inl (0, 20, .inl (s.2.1 1)),
  .inl (0, 16, .inl (s.2.1 2)),
  .inr (1, [.ref 4, .ref (s.2.2.1 301), .ref (s.2.2.1 302), .int (s.1 303), .int (s.1 304), .int (s.1 305), .int (s.1 306), .int (s.1 307), .int (s.1 308), .int (s.1 309), .int (s.1 310)]),
  .inr (5, [.ref 5, .ref 6, .int (s.1 402), .int (s.1 403), .int (s.1 404), .int (s.1 405)]),
  .inl (0, 3000, .inl (s.2.1 5)),
  .inr (3, [.ref 7, .int (s.1 601), .int (s.1 602), .int (s.1 603)]),
  .inl (0, 9003, .inl (s.2.1 7)),
  .inr (0, [.ref 9, .ref 11, .ref 13, .ref 15, .ref 17, .int (s.1 805)]),
  .inr (3, [.ref 10, .int (s.1 901), .int (s.1 902), .int (s.1 903)]),
  .inl (0, 2400, .inl (s.2.1 10)),
  .inr (3, [.ref 12, .int (s.1 1101), .int (s.1 1102), .int (s.1 1103)]),
  .inl (0, 6400, .inl (s.2.1 12)),
  .inr (3, [.ref 14, .int (s.1 1301), .int (s.1 1302), .int (s.1 1303)]),
  .inl (0, 4000, .inl (s.2.1 14)),
  .inr (3, [.ref 16, .int (s.1 1501), .int (s.1 1502), .int (s.1 1503)]),
  .inl (0, 300, .inl (s.2.1 16)),
  .inl (0, 3000, .inl (s.2.1 17)),
  .inr (0, [.ref 19, .ref 21, .ref 23, .ref 25, .ref 27, .int (s.1 1805)]),
  .inr (3, [.ref 20, .int (s.1 1901), .int (s.1 1902), .int (s.1 1903)]),
  .inl (0, 2400, .inl (s.2.1 20)),
  .inr (3, [.ref 22, .int (s.1 2101), .int (s.1 2102), .int (s.1 2103)]),
  .inl (0, 6400, .inl (s.2.1 22)),
  .inr (3, [.ref 24, .int (s.1 2301), .int (s.1 2302), .int (s.1 2303)]),
  .inl (0, 4000, .inl (s.2.1 24)),
  .inr (3, [.ref 26, .int (s.1 2501), .int (s.1 2502), .int (s.1 2503)]),
  .inl (0, 300, .inl (s.2.1 26)),
  .inl (0, 3000, .inl (s.2.1 27)),
  .inr (2, [.ref 29]),
  .inl (0, 60, .inl (s.2.1 29)),
  .inr (4, [.ref 31, .int (s.1 3001), .ref 32, .int (s.1 3003), .int (s.1 3004)]),
  .inl (0, 6000, .inl (s.2.1 31)),
  .inl (0, 60, .inl (s.2.1 32)),
  .inr (7, [.int (s.1 3300), .ref 34, .ref 35, .int (s.1 3303), .ref 36, .ref 37, .ref 38, .ref 39, .ref 40, .ref 41, .ref 42, .int (s.1 3311), .int (s.1 3312), .int (s.1 3313), .int (s.1 3314), .int (s.1 3315), .int (s.1 3316), .int (s.1 3317), .int (s.1 3318), .int (s.1 3319), .int (s.1 3320), .int (s.1 3321), .ref 43, .int (s.1 3323), .int (s.1 3324), .int (s.1 3325), .int (s.1 3326), .int (s.1 3327), .ref 44, .int (s.1 3329), .ref 45, .ref 46, .ref 47, .ref 48, .ref 49, .int (s.1 3335)]),
  .inl (0, 20, .inl (s.2.1 34)),
  .inl (0, 3000, .inl (s.2.1 35)),
  .inl (0, 8, .inl (s.2.1 36)),
  .inl (0, 4800, .inl (s.2.1 37)),
  .inl (0, 11200, .inl (s.2.1 38)),
  .inl (0, 8000, .inl (s.2.1 39)),
  .inl (0, 4800, .inl (s.2.1 40)),
  .inl (0, 300, .inl (s.2.1 41)),
  .inl (0, 6000, .inl (s.2.1 42)),
  .inl (0, 2100, .inl (s.2.1 43)),
  .inl (0, 24000, .inl (s.2.1 44)),
  .inl (0, 2001, .inl (s.2.1 45)),
  .inl (0, 8100, .inl (s.2.1 46)),
  .inl (0, 2001, .inl (s.2.1 47)),
  .inl (0, 3001, .inl (s.2.1 48)),
  .inl (0, 1600, .inl (s.2.1 49)),
  .inl (1, 1, .inr (.inl s.2.2.2))]
theorem zHp_len (s : zS) : (zHp s).length = 51 := rfl
def zlen (a : Nat) : Nat := match a with
  | 1 => 20
  | 2 => 16
  | 5 => 3000
  | 7 => 9003
  | 10 => 2400
  | 12 => 6400
  | 14 => 4000
  | 16 => 300
  | 17 => 3000
  | 20 => 2400
  | 22 => 6400
  | 24 => 4000
  | 26 => 300
  | 27 => 3000
  | 29 => 60
  | 31 => 6000
  | 32 => 60
  | 34 => 20
  | 35 => 3000
  | 36 => 8
  | 37 => 4800
  | 38 => 11200
  | 39 => 8000
  | 40 => 4800
  | 41 => 300
  | 42 => 6000
  | 43 => 2100
  | 44 => 24000
  | 45 => 2001
  | 46 => 8100
  | 47 => 2001
  | 48 => 3001
  | 49 => 1600
  | _ => 0
abbrev zTb (t : Nat) : Prop := t = 6 ∨ t = 9 ∨ t = 11 ∨ t = 13 ∨ t = 15 ∨ t = 19 ∨ t = 21 ∨ t = 23 ∨ t = 25
abbrev zBk (b : Nat) : Prop := b = 8 ∨ b = 18
abbrev zAr (a : Nat) : Prop := a < 51 ∧ zlen a ≠ 0
theorem at_arr (s : zS) (a : Nat) (ha : zAr a) : (zHp s)[a]? = some (.inl (0, zlen a, .inl (s.2.1 a))) := by
  obtain ⟨h1, h2⟩ := ha
  match a, h1, h2 with
  | 0, _, h2 => exact absurd rfl h2
  | 1, _, h2 => rfl
  | 2, _, h2 => rfl
  | 3, _, h2 => exact absurd rfl h2
  | 4, _, h2 => exact absurd rfl h2
  | 5, _, h2 => rfl
  | 6, _, h2 => exact absurd rfl h2
  | 7, _, h2 => rfl
  | 8, _, h2 => exact absurd rfl h2
  | 9, _, h2 => exact absurd rfl h2
  | 10, _, h2 => rfl
  | 11, _, h2 => exact absurd rfl h2
  | 12, _, h2 => rfl
  | 13, _, h2 => exact absurd rfl h2
  | 14, _, h2 => rfl
  | 15, _, h2 => exact absurd rfl h2
  | 16, _, h2 => rfl
  | 17, _, h2 => rfl
  | 18, _, h2 => exact absurd rfl h2
  | 19, _, h2 => exact absurd rfl h2
  | 20, _, h2 => rfl
  | 21, _, h2 => exact absurd rfl h2
  | 22, _, h2 => rfl
  | 23, _, h2 => exact absurd rfl h2
  | 24, _, h2 => rfl
  | 25, _, h2 => exact absurd rfl h2
  | 26, _, h2 => rfl
  | 27, _, h2 => rfl
  | 28, _, h2 => exact absurd rfl h2
  | 29, _, h2 => rfl
  | 30, _, h2 => exact absurd rfl h2
  | 31, _, h2 => rfl
  | 32, _, h2 => rfl
  | 33, _, h2 => exact absurd rfl h2
  | 34, _, h2 => rfl
  | 35, _, h2 => rfl
  | 36, _, h2 => rfl
  | 37, _, h2 => rfl
  | 38, _, h2 => rfl
  | 39, _, h2 => rfl
  | 40, _, h2 => rfl
  | 41, _, h2 => rfl
  | 42, _, h2 => rfl
  | 43, _, h2 => rfl
  | 44, _, h2 => rfl
  | 45, _, h2 => rfl
  | 46, _, h2 => rfl
  | 47, _, h2 => rfl
  | 48, _, h2 => rfl
  | 49, _, h2 => rfl
  | 50, _, h2 => exact absurd rfl h2
  | n + 51, h1, _ => exact absurd h1 (by omega)
theorem st_arr (s : zS) (a : Nat) (ha : zAr a) (i : Int32) (x : Int32) : (zHp s).set a (.inl (0, zlen a, .inl (upd (s.2.1 a) i.toNatClampNeg x))) = zHp (zsr s a i x) := by
  obtain ⟨h1, h2⟩ := ha
  match a, h1, h2 with
  | 0, _, h2 => exact absurd rfl h2
  | 1, _, h2 => rfl
  | 2, _, h2 => rfl
  | 3, _, h2 => exact absurd rfl h2
  | 4, _, h2 => exact absurd rfl h2
  | 5, _, h2 => rfl
  | 6, _, h2 => exact absurd rfl h2
  | 7, _, h2 => rfl
  | 8, _, h2 => exact absurd rfl h2
  | 9, _, h2 => exact absurd rfl h2
  | 10, _, h2 => rfl
  | 11, _, h2 => exact absurd rfl h2
  | 12, _, h2 => rfl
  | 13, _, h2 => exact absurd rfl h2
  | 14, _, h2 => rfl
  | 15, _, h2 => exact absurd rfl h2
  | 16, _, h2 => rfl
  | 17, _, h2 => rfl
  | 18, _, h2 => exact absurd rfl h2
  | 19, _, h2 => exact absurd rfl h2
  | 20, _, h2 => rfl
  | 21, _, h2 => exact absurd rfl h2
  | 22, _, h2 => rfl
  | 23, _, h2 => exact absurd rfl h2
  | 24, _, h2 => rfl
  | 25, _, h2 => exact absurd rfl h2
  | 26, _, h2 => rfl
  | 27, _, h2 => rfl
  | 28, _, h2 => exact absurd rfl h2
  | 29, _, h2 => rfl
  | 30, _, h2 => exact absurd rfl h2
  | 31, _, h2 => rfl
  | 32, _, h2 => rfl
  | 33, _, h2 => exact absurd rfl h2
  | 34, _, h2 => rfl
  | 35, _, h2 => rfl
  | 36, _, h2 => rfl
  | 37, _, h2 => rfl
  | 38, _, h2 => rfl
  | 39, _, h2 => rfl
  | 40, _, h2 => rfl
  | 41, _, h2 => rfl
  | 42, _, h2 => rfl
  | 43, _, h2 => rfl
  | 44, _, h2 => rfl
  | 45, _, h2 => rfl
  | 46, _, h2 => rfl
  | 47, _, h2 => rfl
  | 48, _, h2 => rfl
  | 49, _, h2 => rfl
  | 50, _, h2 => exact absurd rfl h2
  | n + 51, h1, _ => exact absurd h1 (by omega)
theorem at_UnitText (s : zS) : (zHp s)[0]? = some (.inr (6, [.ref 1, .ref 2, .ref 3, .ref 28, .ref 30])) := rfl
theorem at_Reader (s : zS) : (zHp s)[3]? = some (.inr (1, [.ref 4, .ref (s.2.2.1 301), .ref (s.2.2.1 302), .int (s.1 303), .int (s.1 304), .int (s.1 305), .int (s.1 306), .int (s.1 307), .int (s.1 308), .int (s.1 309), .int (s.1 310)])) := rfl
theorem st_Reader_1 (s : zS) (x : Nat) : (zHp s).set 3 (.inr (1, ([.ref 4, .ref (s.2.2.1 301), .ref (s.2.2.1 302), .int (s.1 303), .int (s.1 304), .int (s.1 305), .int (s.1 306), .int (s.1 307), .int (s.1 308), .int (s.1 309), .int (s.1 310)] : List Value).set 1 (.ref x))) = zHp (zse s 301 x) := rfl
theorem st_Reader_2 (s : zS) (x : Nat) : (zHp s).set 3 (.inr (1, ([.ref 4, .ref (s.2.2.1 301), .ref (s.2.2.1 302), .int (s.1 303), .int (s.1 304), .int (s.1 305), .int (s.1 306), .int (s.1 307), .int (s.1 308), .int (s.1 309), .int (s.1 310)] : List Value).set 2 (.ref x))) = zHp (zse s 302 x) := rfl
theorem st_Reader_3 (s : zS) (x : Int32) : (zHp s).set 3 (.inr (1, ([.ref 4, .ref (s.2.2.1 301), .ref (s.2.2.1 302), .int (s.1 303), .int (s.1 304), .int (s.1 305), .int (s.1 306), .int (s.1 307), .int (s.1 308), .int (s.1 309), .int (s.1 310)] : List Value).set 3 (.int x))) = zHp (zsc s 303 x) := rfl
theorem st_Reader_4 (s : zS) (x : Int32) : (zHp s).set 3 (.inr (1, ([.ref 4, .ref (s.2.2.1 301), .ref (s.2.2.1 302), .int (s.1 303), .int (s.1 304), .int (s.1 305), .int (s.1 306), .int (s.1 307), .int (s.1 308), .int (s.1 309), .int (s.1 310)] : List Value).set 4 (.int x))) = zHp (zsc s 304 x) := rfl
theorem st_Reader_5 (s : zS) (x : Int32) : (zHp s).set 3 (.inr (1, ([.ref 4, .ref (s.2.2.1 301), .ref (s.2.2.1 302), .int (s.1 303), .int (s.1 304), .int (s.1 305), .int (s.1 306), .int (s.1 307), .int (s.1 308), .int (s.1 309), .int (s.1 310)] : List Value).set 5 (.int x))) = zHp (zsc s 305 x) := rfl
theorem st_Reader_6 (s : zS) (x : Int32) : (zHp s).set 3 (.inr (1, ([.ref 4, .ref (s.2.2.1 301), .ref (s.2.2.1 302), .int (s.1 303), .int (s.1 304), .int (s.1 305), .int (s.1 306), .int (s.1 307), .int (s.1 308), .int (s.1 309), .int (s.1 310)] : List Value).set 6 (.int x))) = zHp (zsc s 306 x) := rfl
theorem st_Reader_7 (s : zS) (x : Int32) : (zHp s).set 3 (.inr (1, ([.ref 4, .ref (s.2.2.1 301), .ref (s.2.2.1 302), .int (s.1 303), .int (s.1 304), .int (s.1 305), .int (s.1 306), .int (s.1 307), .int (s.1 308), .int (s.1 309), .int (s.1 310)] : List Value).set 7 (.int x))) = zHp (zsc s 307 x) := rfl
theorem st_Reader_8 (s : zS) (x : Int32) : (zHp s).set 3 (.inr (1, ([.ref 4, .ref (s.2.2.1 301), .ref (s.2.2.1 302), .int (s.1 303), .int (s.1 304), .int (s.1 305), .int (s.1 306), .int (s.1 307), .int (s.1 308), .int (s.1 309), .int (s.1 310)] : List Value).set 8 (.int x))) = zHp (zsc s 308 x) := rfl
theorem st_Reader_9 (s : zS) (x : Int32) : (zHp s).set 3 (.inr (1, ([.ref 4, .ref (s.2.2.1 301), .ref (s.2.2.1 302), .int (s.1 303), .int (s.1 304), .int (s.1 305), .int (s.1 306), .int (s.1 307), .int (s.1 308), .int (s.1 309), .int (s.1 310)] : List Value).set 9 (.int x))) = zHp (zsc s 309 x) := rfl
theorem st_Reader_10 (s : zS) (x : Int32) : (zHp s).set 3 (.inr (1, ([.ref 4, .ref (s.2.2.1 301), .ref (s.2.2.1 302), .int (s.1 303), .int (s.1 304), .int (s.1 305), .int (s.1 306), .int (s.1 307), .int (s.1 308), .int (s.1 309), .int (s.1 310)] : List Value).set 10 (.int x))) = zHp (zsc s 310 x) := rfl
theorem at_Words (s : zS) : (zHp s)[4]? = some (.inr (5, [.ref 5, .ref 6, .int (s.1 402), .int (s.1 403), .int (s.1 404), .int (s.1 405)])) := rfl
theorem st_Words_2 (s : zS) (x : Int32) : (zHp s).set 4 (.inr (5, ([.ref 5, .ref 6, .int (s.1 402), .int (s.1 403), .int (s.1 404), .int (s.1 405)] : List Value).set 2 (.int x))) = zHp (zsc s 402 x) := rfl
theorem st_Words_3 (s : zS) (x : Int32) : (zHp s).set 4 (.inr (5, ([.ref 5, .ref 6, .int (s.1 402), .int (s.1 403), .int (s.1 404), .int (s.1 405)] : List Value).set 3 (.int x))) = zHp (zsc s 403 x) := rfl
theorem st_Words_4 (s : zS) (x : Int32) : (zHp s).set 4 (.inr (5, ([.ref 5, .ref 6, .int (s.1 402), .int (s.1 403), .int (s.1 404), .int (s.1 405)] : List Value).set 4 (.int x))) = zHp (zsc s 404 x) := rfl
theorem st_Words_5 (s : zS) (x : Int32) : (zHp s).set 4 (.inr (5, ([.ref 5, .ref 6, .int (s.1 402), .int (s.1 403), .int (s.1 404), .int (s.1 405)] : List Value).set 5 (.int x))) = zHp (zsc s 405 x) := rfl
theorem at_Reckoner (s : zS) : (zHp s)[28]? = some (.inr (2, [.ref 29])) := rfl
theorem at_Teller (s : zS) : (zHp s)[30]? = some (.inr (4, [.ref 31, .int (s.1 3001), .ref 32, .int (s.1 3003), .int (s.1 3004)])) := rfl
theorem st_Teller_1 (s : zS) (x : Int32) : (zHp s).set 30 (.inr (4, ([.ref 31, .int (s.1 3001), .ref 32, .int (s.1 3003), .int (s.1 3004)] : List Value).set 1 (.int x))) = zHp (zsc s 3001 x) := rfl
theorem st_Teller_3 (s : zS) (x : Int32) : (zHp s).set 30 (.inr (4, ([.ref 31, .int (s.1 3001), .ref 32, .int (s.1 3003), .int (s.1 3004)] : List Value).set 3 (.int x))) = zHp (zsc s 3003 x) := rfl
theorem st_Teller_4 (s : zS) (x : Int32) : (zHp s).set 30 (.inr (4, ([.ref 31, .int (s.1 3001), .ref 32, .int (s.1 3003), .int (s.1 3004)] : List Value).set 4 (.int x))) = zHp (zsc s 3004 x) := rfl
theorem at_Model (s : zS) : (zHp s)[33]? = some (.inr (7, [.int (s.1 3300), .ref 34, .ref 35, .int (s.1 3303), .ref 36, .ref 37, .ref 38, .ref 39, .ref 40, .ref 41, .ref 42, .int (s.1 3311), .int (s.1 3312), .int (s.1 3313), .int (s.1 3314), .int (s.1 3315), .int (s.1 3316), .int (s.1 3317), .int (s.1 3318), .int (s.1 3319), .int (s.1 3320), .int (s.1 3321), .ref 43, .int (s.1 3323), .int (s.1 3324), .int (s.1 3325), .int (s.1 3326), .int (s.1 3327), .ref 44, .int (s.1 3329), .ref 45, .ref 46, .ref 47, .ref 48, .ref 49, .int (s.1 3335)])) := rfl
theorem st_Model_0 (s : zS) (x : Int32) : (zHp s).set 33 (.inr (7, ([.int (s.1 3300), .ref 34, .ref 35, .int (s.1 3303), .ref 36, .ref 37, .ref 38, .ref 39, .ref 40, .ref 41, .ref 42, .int (s.1 3311), .int (s.1 3312), .int (s.1 3313), .int (s.1 3314), .int (s.1 3315), .int (s.1 3316), .int (s.1 3317), .int (s.1 3318), .int (s.1 3319), .int (s.1 3320), .int (s.1 3321), .ref 43, .int (s.1 3323), .int (s.1 3324), .int (s.1 3325), .int (s.1 3326), .int (s.1 3327), .ref 44, .int (s.1 3329), .ref 45, .ref 46, .ref 47, .ref 48, .ref 49, .int (s.1 3335)] : List Value).set 0 (.int x))) = zHp (zsc s 3300 x) := rfl
theorem st_Model_3 (s : zS) (x : Int32) : (zHp s).set 33 (.inr (7, ([.int (s.1 3300), .ref 34, .ref 35, .int (s.1 3303), .ref 36, .ref 37, .ref 38, .ref 39, .ref 40, .ref 41, .ref 42, .int (s.1 3311), .int (s.1 3312), .int (s.1 3313), .int (s.1 3314), .int (s.1 3315), .int (s.1 3316), .int (s.1 3317), .int (s.1 3318), .int (s.1 3319), .int (s.1 3320), .int (s.1 3321), .ref 43, .int (s.1 3323), .int (s.1 3324), .int (s.1 3325), .int (s.1 3326), .int (s.1 3327), .ref 44, .int (s.1 3329), .ref 45, .ref 46, .ref 47, .ref 48, .ref 49, .int (s.1 3335)] : List Value).set 3 (.int x))) = zHp (zsc s 3303 x) := rfl
theorem st_Model_11 (s : zS) (x : Int32) : (zHp s).set 33 (.inr (7, ([.int (s.1 3300), .ref 34, .ref 35, .int (s.1 3303), .ref 36, .ref 37, .ref 38, .ref 39, .ref 40, .ref 41, .ref 42, .int (s.1 3311), .int (s.1 3312), .int (s.1 3313), .int (s.1 3314), .int (s.1 3315), .int (s.1 3316), .int (s.1 3317), .int (s.1 3318), .int (s.1 3319), .int (s.1 3320), .int (s.1 3321), .ref 43, .int (s.1 3323), .int (s.1 3324), .int (s.1 3325), .int (s.1 3326), .int (s.1 3327), .ref 44, .int (s.1 3329), .ref 45, .ref 46, .ref 47, .ref 48, .ref 49, .int (s.1 3335)] : List Value).set 11 (.int x))) = zHp (zsc s 3311 x) := rfl
theorem st_Model_12 (s : zS) (x : Int32) : (zHp s).set 33 (.inr (7, ([.int (s.1 3300), .ref 34, .ref 35, .int (s.1 3303), .ref 36, .ref 37, .ref 38, .ref 39, .ref 40, .ref 41, .ref 42, .int (s.1 3311), .int (s.1 3312), .int (s.1 3313), .int (s.1 3314), .int (s.1 3315), .int (s.1 3316), .int (s.1 3317), .int (s.1 3318), .int (s.1 3319), .int (s.1 3320), .int (s.1 3321), .ref 43, .int (s.1 3323), .int (s.1 3324), .int (s.1 3325), .int (s.1 3326), .int (s.1 3327), .ref 44, .int (s.1 3329), .ref 45, .ref 46, .ref 47, .ref 48, .ref 49, .int (s.1 3335)] : List Value).set 12 (.int x))) = zHp (zsc s 3312 x) := rfl
theorem st_Model_13 (s : zS) (x : Int32) : (zHp s).set 33 (.inr (7, ([.int (s.1 3300), .ref 34, .ref 35, .int (s.1 3303), .ref 36, .ref 37, .ref 38, .ref 39, .ref 40, .ref 41, .ref 42, .int (s.1 3311), .int (s.1 3312), .int (s.1 3313), .int (s.1 3314), .int (s.1 3315), .int (s.1 3316), .int (s.1 3317), .int (s.1 3318), .int (s.1 3319), .int (s.1 3320), .int (s.1 3321), .ref 43, .int (s.1 3323), .int (s.1 3324), .int (s.1 3325), .int (s.1 3326), .int (s.1 3327), .ref 44, .int (s.1 3329), .ref 45, .ref 46, .ref 47, .ref 48, .ref 49, .int (s.1 3335)] : List Value).set 13 (.int x))) = zHp (zsc s 3313 x) := rfl
theorem st_Model_14 (s : zS) (x : Int32) : (zHp s).set 33 (.inr (7, ([.int (s.1 3300), .ref 34, .ref 35, .int (s.1 3303), .ref 36, .ref 37, .ref 38, .ref 39, .ref 40, .ref 41, .ref 42, .int (s.1 3311), .int (s.1 3312), .int (s.1 3313), .int (s.1 3314), .int (s.1 3315), .int (s.1 3316), .int (s.1 3317), .int (s.1 3318), .int (s.1 3319), .int (s.1 3320), .int (s.1 3321), .ref 43, .int (s.1 3323), .int (s.1 3324), .int (s.1 3325), .int (s.1 3326), .int (s.1 3327), .ref 44, .int (s.1 3329), .ref 45, .ref 46, .ref 47, .ref 48, .ref 49, .int (s.1 3335)] : List Value).set 14 (.int x))) = zHp (zsc s 3314 x) := rfl
theorem st_Model_15 (s : zS) (x : Int32) : (zHp s).set 33 (.inr (7, ([.int (s.1 3300), .ref 34, .ref 35, .int (s.1 3303), .ref 36, .ref 37, .ref 38, .ref 39, .ref 40, .ref 41, .ref 42, .int (s.1 3311), .int (s.1 3312), .int (s.1 3313), .int (s.1 3314), .int (s.1 3315), .int (s.1 3316), .int (s.1 3317), .int (s.1 3318), .int (s.1 3319), .int (s.1 3320), .int (s.1 3321), .ref 43, .int (s.1 3323), .int (s.1 3324), .int (s.1 3325), .int (s.1 3326), .int (s.1 3327), .ref 44, .int (s.1 3329), .ref 45, .ref 46, .ref 47, .ref 48, .ref 49, .int (s.1 3335)] : List Value).set 15 (.int x))) = zHp (zsc s 3315 x) := rfl
theorem st_Model_16 (s : zS) (x : Int32) : (zHp s).set 33 (.inr (7, ([.int (s.1 3300), .ref 34, .ref 35, .int (s.1 3303), .ref 36, .ref 37, .ref 38, .ref 39, .ref 40, .ref 41, .ref 42, .int (s.1 3311), .int (s.1 3312), .int (s.1 3313), .int (s.1 3314), .int (s.1 3315), .int (s.1 3316), .int (s.1 3317), .int (s.1 3318), .int (s.1 3319), .int (s.1 3320), .int (s.1 3321), .ref 43, .int (s.1 3323), .int (s.1 3324), .int (s.1 3325), .int (s.1 3326), .int (s.1 3327), .ref 44, .int (s.1 3329), .ref 45, .ref 46, .ref 47, .ref 48, .ref 49, .int (s.1 3335)] : List Value).set 16 (.int x))) = zHp (zsc s 3316 x) := rfl
theorem st_Model_17 (s : zS) (x : Int32) : (zHp s).set 33 (.inr (7, ([.int (s.1 3300), .ref 34, .ref 35, .int (s.1 3303), .ref 36, .ref 37, .ref 38, .ref 39, .ref 40, .ref 41, .ref 42, .int (s.1 3311), .int (s.1 3312), .int (s.1 3313), .int (s.1 3314), .int (s.1 3315), .int (s.1 3316), .int (s.1 3317), .int (s.1 3318), .int (s.1 3319), .int (s.1 3320), .int (s.1 3321), .ref 43, .int (s.1 3323), .int (s.1 3324), .int (s.1 3325), .int (s.1 3326), .int (s.1 3327), .ref 44, .int (s.1 3329), .ref 45, .ref 46, .ref 47, .ref 48, .ref 49, .int (s.1 3335)] : List Value).set 17 (.int x))) = zHp (zsc s 3317 x) := rfl
theorem st_Model_18 (s : zS) (x : Int32) : (zHp s).set 33 (.inr (7, ([.int (s.1 3300), .ref 34, .ref 35, .int (s.1 3303), .ref 36, .ref 37, .ref 38, .ref 39, .ref 40, .ref 41, .ref 42, .int (s.1 3311), .int (s.1 3312), .int (s.1 3313), .int (s.1 3314), .int (s.1 3315), .int (s.1 3316), .int (s.1 3317), .int (s.1 3318), .int (s.1 3319), .int (s.1 3320), .int (s.1 3321), .ref 43, .int (s.1 3323), .int (s.1 3324), .int (s.1 3325), .int (s.1 3326), .int (s.1 3327), .ref 44, .int (s.1 3329), .ref 45, .ref 46, .ref 47, .ref 48, .ref 49, .int (s.1 3335)] : List Value).set 18 (.int x))) = zHp (zsc s 3318 x) := rfl
theorem st_Model_19 (s : zS) (x : Int32) : (zHp s).set 33 (.inr (7, ([.int (s.1 3300), .ref 34, .ref 35, .int (s.1 3303), .ref 36, .ref 37, .ref 38, .ref 39, .ref 40, .ref 41, .ref 42, .int (s.1 3311), .int (s.1 3312), .int (s.1 3313), .int (s.1 3314), .int (s.1 3315), .int (s.1 3316), .int (s.1 3317), .int (s.1 3318), .int (s.1 3319), .int (s.1 3320), .int (s.1 3321), .ref 43, .int (s.1 3323), .int (s.1 3324), .int (s.1 3325), .int (s.1 3326), .int (s.1 3327), .ref 44, .int (s.1 3329), .ref 45, .ref 46, .ref 47, .ref 48, .ref 49, .int (s.1 3335)] : List Value).set 19 (.int x))) = zHp (zsc s 3319 x) := rfl
theorem st_Model_20 (s : zS) (x : Int32) : (zHp s).set 33 (.inr (7, ([.int (s.1 3300), .ref 34, .ref 35, .int (s.1 3303), .ref 36, .ref 37, .ref 38, .ref 39, .ref 40, .ref 41, .ref 42, .int (s.1 3311), .int (s.1 3312), .int (s.1 3313), .int (s.1 3314), .int (s.1 3315), .int (s.1 3316), .int (s.1 3317), .int (s.1 3318), .int (s.1 3319), .int (s.1 3320), .int (s.1 3321), .ref 43, .int (s.1 3323), .int (s.1 3324), .int (s.1 3325), .int (s.1 3326), .int (s.1 3327), .ref 44, .int (s.1 3329), .ref 45, .ref 46, .ref 47, .ref 48, .ref 49, .int (s.1 3335)] : List Value).set 20 (.int x))) = zHp (zsc s 3320 x) := rfl
theorem st_Model_21 (s : zS) (x : Int32) : (zHp s).set 33 (.inr (7, ([.int (s.1 3300), .ref 34, .ref 35, .int (s.1 3303), .ref 36, .ref 37, .ref 38, .ref 39, .ref 40, .ref 41, .ref 42, .int (s.1 3311), .int (s.1 3312), .int (s.1 3313), .int (s.1 3314), .int (s.1 3315), .int (s.1 3316), .int (s.1 3317), .int (s.1 3318), .int (s.1 3319), .int (s.1 3320), .int (s.1 3321), .ref 43, .int (s.1 3323), .int (s.1 3324), .int (s.1 3325), .int (s.1 3326), .int (s.1 3327), .ref 44, .int (s.1 3329), .ref 45, .ref 46, .ref 47, .ref 48, .ref 49, .int (s.1 3335)] : List Value).set 21 (.int x))) = zHp (zsc s 3321 x) := rfl
theorem st_Model_23 (s : zS) (x : Int32) : (zHp s).set 33 (.inr (7, ([.int (s.1 3300), .ref 34, .ref 35, .int (s.1 3303), .ref 36, .ref 37, .ref 38, .ref 39, .ref 40, .ref 41, .ref 42, .int (s.1 3311), .int (s.1 3312), .int (s.1 3313), .int (s.1 3314), .int (s.1 3315), .int (s.1 3316), .int (s.1 3317), .int (s.1 3318), .int (s.1 3319), .int (s.1 3320), .int (s.1 3321), .ref 43, .int (s.1 3323), .int (s.1 3324), .int (s.1 3325), .int (s.1 3326), .int (s.1 3327), .ref 44, .int (s.1 3329), .ref 45, .ref 46, .ref 47, .ref 48, .ref 49, .int (s.1 3335)] : List Value).set 23 (.int x))) = zHp (zsc s 3323 x) := rfl
theorem st_Model_24 (s : zS) (x : Int32) : (zHp s).set 33 (.inr (7, ([.int (s.1 3300), .ref 34, .ref 35, .int (s.1 3303), .ref 36, .ref 37, .ref 38, .ref 39, .ref 40, .ref 41, .ref 42, .int (s.1 3311), .int (s.1 3312), .int (s.1 3313), .int (s.1 3314), .int (s.1 3315), .int (s.1 3316), .int (s.1 3317), .int (s.1 3318), .int (s.1 3319), .int (s.1 3320), .int (s.1 3321), .ref 43, .int (s.1 3323), .int (s.1 3324), .int (s.1 3325), .int (s.1 3326), .int (s.1 3327), .ref 44, .int (s.1 3329), .ref 45, .ref 46, .ref 47, .ref 48, .ref 49, .int (s.1 3335)] : List Value).set 24 (.int x))) = zHp (zsc s 3324 x) := rfl
theorem st_Model_25 (s : zS) (x : Int32) : (zHp s).set 33 (.inr (7, ([.int (s.1 3300), .ref 34, .ref 35, .int (s.1 3303), .ref 36, .ref 37, .ref 38, .ref 39, .ref 40, .ref 41, .ref 42, .int (s.1 3311), .int (s.1 3312), .int (s.1 3313), .int (s.1 3314), .int (s.1 3315), .int (s.1 3316), .int (s.1 3317), .int (s.1 3318), .int (s.1 3319), .int (s.1 3320), .int (s.1 3321), .ref 43, .int (s.1 3323), .int (s.1 3324), .int (s.1 3325), .int (s.1 3326), .int (s.1 3327), .ref 44, .int (s.1 3329), .ref 45, .ref 46, .ref 47, .ref 48, .ref 49, .int (s.1 3335)] : List Value).set 25 (.int x))) = zHp (zsc s 3325 x) := rfl
theorem st_Model_26 (s : zS) (x : Int32) : (zHp s).set 33 (.inr (7, ([.int (s.1 3300), .ref 34, .ref 35, .int (s.1 3303), .ref 36, .ref 37, .ref 38, .ref 39, .ref 40, .ref 41, .ref 42, .int (s.1 3311), .int (s.1 3312), .int (s.1 3313), .int (s.1 3314), .int (s.1 3315), .int (s.1 3316), .int (s.1 3317), .int (s.1 3318), .int (s.1 3319), .int (s.1 3320), .int (s.1 3321), .ref 43, .int (s.1 3323), .int (s.1 3324), .int (s.1 3325), .int (s.1 3326), .int (s.1 3327), .ref 44, .int (s.1 3329), .ref 45, .ref 46, .ref 47, .ref 48, .ref 49, .int (s.1 3335)] : List Value).set 26 (.int x))) = zHp (zsc s 3326 x) := rfl
theorem st_Model_27 (s : zS) (x : Int32) : (zHp s).set 33 (.inr (7, ([.int (s.1 3300), .ref 34, .ref 35, .int (s.1 3303), .ref 36, .ref 37, .ref 38, .ref 39, .ref 40, .ref 41, .ref 42, .int (s.1 3311), .int (s.1 3312), .int (s.1 3313), .int (s.1 3314), .int (s.1 3315), .int (s.1 3316), .int (s.1 3317), .int (s.1 3318), .int (s.1 3319), .int (s.1 3320), .int (s.1 3321), .ref 43, .int (s.1 3323), .int (s.1 3324), .int (s.1 3325), .int (s.1 3326), .int (s.1 3327), .ref 44, .int (s.1 3329), .ref 45, .ref 46, .ref 47, .ref 48, .ref 49, .int (s.1 3335)] : List Value).set 27 (.int x))) = zHp (zsc s 3327 x) := rfl
theorem st_Model_29 (s : zS) (x : Int32) : (zHp s).set 33 (.inr (7, ([.int (s.1 3300), .ref 34, .ref 35, .int (s.1 3303), .ref 36, .ref 37, .ref 38, .ref 39, .ref 40, .ref 41, .ref 42, .int (s.1 3311), .int (s.1 3312), .int (s.1 3313), .int (s.1 3314), .int (s.1 3315), .int (s.1 3316), .int (s.1 3317), .int (s.1 3318), .int (s.1 3319), .int (s.1 3320), .int (s.1 3321), .ref 43, .int (s.1 3323), .int (s.1 3324), .int (s.1 3325), .int (s.1 3326), .int (s.1 3327), .ref 44, .int (s.1 3329), .ref 45, .ref 46, .ref 47, .ref 48, .ref 49, .int (s.1 3335)] : List Value).set 29 (.int x))) = zHp (zsc s 3329 x) := rfl
theorem st_Model_35 (s : zS) (x : Int32) : (zHp s).set 33 (.inr (7, ([.int (s.1 3300), .ref 34, .ref 35, .int (s.1 3303), .ref 36, .ref 37, .ref 38, .ref 39, .ref 40, .ref 41, .ref 42, .int (s.1 3311), .int (s.1 3312), .int (s.1 3313), .int (s.1 3314), .int (s.1 3315), .int (s.1 3316), .int (s.1 3317), .int (s.1 3318), .int (s.1 3319), .int (s.1 3320), .int (s.1 3321), .ref 43, .int (s.1 3323), .int (s.1 3324), .int (s.1 3325), .int (s.1 3326), .int (s.1 3327), .ref 44, .int (s.1 3329), .ref 45, .ref 46, .ref 47, .ref 48, .ref 49, .int (s.1 3335)] : List Value).set 35 (.int x))) = zHp (zsc s 3335 x) := rfl
theorem at_Book (s : zS) (a : Nat) (ha : zBk a) : (zHp s)[a]? = some (.inr (0, [.ref (a + 1), .ref (a + 3), .ref (a + 5), .ref (a + 7), .ref (a + 9), .int (s.1 (100 * a + 5))])) := by
  rcases ha with rfl | rfl <;> rfl
theorem st_Book_5 (s : zS) (a : Nat) (ha : zBk a) (x : Int32) : (zHp s).set a (.inr (0, ([.ref (a + 1), .ref (a + 3), .ref (a + 5), .ref (a + 7), .ref (a + 9), .int (s.1 (100 * a + 5))] : List Value).set 5 (.int x))) = zHp (zsc s (100 * a + 5) x) := by
  rcases ha with rfl | rfl <;> rfl
theorem at_Table (s : zS) (a : Nat) (ha : zTb a) : (zHp s)[a]? = some (.inr (3, [.ref (a + 1), .int (s.1 (100 * a + 1)), .int (s.1 (100 * a + 2)), .int (s.1 (100 * a + 3))])) := by
  rcases ha with rfl | rfl | rfl | rfl | rfl | rfl | rfl | rfl | rfl <;> rfl
theorem st_Table_1 (s : zS) (a : Nat) (ha : zTb a) (x : Int32) : (zHp s).set a (.inr (3, ([.ref (a + 1), .int (s.1 (100 * a + 1)), .int (s.1 (100 * a + 2)), .int (s.1 (100 * a + 3))] : List Value).set 1 (.int x))) = zHp (zsc s (100 * a + 1) x) := by
  rcases ha with rfl | rfl | rfl | rfl | rfl | rfl | rfl | rfl | rfl <;> rfl
theorem st_Table_2 (s : zS) (a : Nat) (ha : zTb a) (x : Int32) : (zHp s).set a (.inr (3, ([.ref (a + 1), .int (s.1 (100 * a + 1)), .int (s.1 (100 * a + 2)), .int (s.1 (100 * a + 3))] : List Value).set 2 (.int x))) = zHp (zsc s (100 * a + 2) x) := by
  rcases ha with rfl | rfl | rfl | rfl | rfl | rfl | rfl | rfl | rfl <;> rfl
theorem st_Table_3 (s : zS) (a : Nat) (ha : zTb a) (x : Int32) : (zHp s).set a (.inr (3, ([.ref (a + 1), .int (s.1 (100 * a + 1)), .int (s.1 (100 * a + 2)), .int (s.1 (100 * a + 3))] : List Value).set 3 (.int x))) = zHp (zsc s (100 * a + 3) x) := by
  rcases ha with rfl | rfl | rfl | rfl | rfl | rfl | rfl | rfl | rfl <;> rfl
theorem zBk_t (b : Nat) (h : zBk b) : zTb (b + 1) ∧ zTb (b + 3) ∧ zTb (b + 5) ∧ zTb (b + 7) ∧ zAr (b + 9) := by
  rcases h with rfl | rfl <;> decide
theorem zTb_a (t : Nat) (h : zTb t) : zAr (t + 1) := by
  rcases h with rfl | rfl | rfl | rfl | rfl | rfl | rfl | rfl | rfl <;> decide
