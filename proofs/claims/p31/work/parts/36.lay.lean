/-! THE LAYOUT of the heap behind the constructors (wip/p2/lay.py), and ranges of its places. -/
def sLay : List sCl := [(11, [(2, 1), (0, 0), (0, 0), (0, 0), (2, 54), (3, 0), (3, 0), (2, 58), (2, 63), (2, 68), (2, 72), (2, 77), (2, 84), (2, 86), (2, 88), (0, 0), (0, 0), (2, 90), (0, 0)]),
  (21, List.replicate 700 (0, 0)),
  (8, [(2, 3), (2, 4), (2, 5), (2, 6), (2, 7), (2, 8), (2, 9), (2, 11), (0, 0), (0, 0), (0, 0), (0, 0), (0, 0), (0, 0), (0, 0), (0, 0), (0, 0), (0, 0)]),
  (24, [(2, 13), (2, 14), (2, 15), (2, 16), (2, 17), (2, 18), (2, 19), (2, 20), (2, 21)]),
  (25, [(2, 22), (2, 23), (2, 24), (2, 25), (2, 26), (2, 27)]),
  (20, List.replicate 3 (0, 0)),
  (20, List.replicate 3 (0, 0)),
  (20, List.replicate 3 (0, 0)),
  (20, List.replicate 24 (0, 0)),
  (5, [(2, 10), (0, 0)]),
  (20, List.replicate 64 (0, 0)),
  (5, [(2, 12), (0, 0)]),
  (20, List.replicate 64 (0, 0)),
  (1, List.replicate 6 (0, 0)),
  (1, List.replicate 6 (0, 0)),
  (1, List.replicate 6 (0, 0)),
  (1, List.replicate 6 (0, 0)),
  (1, List.replicate 6 (0, 0)),
  (1, List.replicate 6 (0, 0)),
  (1, List.replicate 6 (0, 0)),
  (1, List.replicate 6 (0, 0)),
  (1, List.replicate 6 (0, 0)),
  (4, List.replicate 4 (0, 0)),
  (4, List.replicate 4 (0, 0)),
  (4, List.replicate 4 (0, 0)),
  (4, List.replicate 4 (0, 0)),
  (4, List.replicate 4 (0, 0)),
  (4, List.replicate 4 (0, 0)),
  (8, [(2, 29), (2, 30), (2, 31), (2, 32), (2, 33), (2, 34), (2, 35), (2, 37), (0, 0), (0, 0), (0, 0), (0, 0), (0, 0), (0, 0), (0, 0), (0, 0), (0, 0), (0, 0)]),
  (24, [(2, 39), (2, 40), (2, 41), (2, 42), (2, 43), (2, 44), (2, 45), (2, 46), (2, 47)]),
  (25, [(2, 48), (2, 49), (2, 50), (2, 51), (2, 52), (2, 53)]),
  (20, List.replicate 3 (0, 0)),
  (20, List.replicate 3 (0, 0)),
  (20, List.replicate 3 (0, 0)),
  (20, List.replicate 24 (0, 0)),
  (5, [(2, 36), (0, 0)]),
  (20, List.replicate 64 (0, 0)),
  (5, [(2, 38), (0, 0)]),
  (20, List.replicate 64 (0, 0)),
  (1, List.replicate 6 (0, 0)),
  (1, List.replicate 6 (0, 0)),
  (1, List.replicate 6 (0, 0)),
  (1, List.replicate 6 (0, 0)),
  (1, List.replicate 6 (0, 0)),
  (1, List.replicate 6 (0, 0)),
  (1, List.replicate 6 (0, 0)),
  (1, List.replicate 6 (0, 0)),
  (1, List.replicate 6 (0, 0)),
  (4, List.replicate 4 (0, 0)),
  (4, List.replicate 4 (0, 0)),
  (4, List.replicate 4 (0, 0)),
  (4, List.replicate 4 (0, 0)),
  (4, List.replicate 4 (0, 0)),
  (4, List.replicate 4 (0, 0)),
  (7, [(2, 56), (2, 55), (0, 0), (0, 0), (3, 0), (0, 0), (0, 0), (0, 0), (0, 0), (0, 0), (0, 0)]),
  (20, List.replicate 72 (0, 0)),
  (10, [(2, 1), (2, 57), (0, 0), (0, 0), (0, 0), (0, 0), (0, 0)]),
  (20, List.replicate 24 (0, 0)),
  (3, [(2, 59), (2, 60), (2, 61), (2, 62), (3, 0), (0, 0), (0, 0), (0, 0)]),
  (20, List.replicate 648 (0, 0)),
  (20, List.replicate 216 (0, 0)),
  (23, List.replicate 6 (1, 0)),
  (23, List.replicate 64 (1, 0)),
  (3, [(2, 64), (2, 65), (2, 66), (2, 67), (3, 0), (0, 0), (0, 0), (0, 0)]),
  (20, List.replicate 648 (0, 0)),
  (20, List.replicate 216 (0, 0)),
  (23, List.replicate 6 (1, 0)),
  (23, List.replicate 64 (1, 0)),
  (6, [(2, 69), (2, 70), (2, 71), (3, 0), (0, 0), (0, 0), (0, 0), (0, 0), (0, 0)]),
  (20, List.replicate 64 (0, 0)),
  (20, List.replicate 64 (0, 0)),
  (20, List.replicate 64 (0, 0)),
  (0, [(2, 73), (2, 74), (2, 75), (2, 76)]),
  (20, List.replicate 90 (0, 0)),
  (20, List.replicate 9 (0, 0)),
  (20, List.replicate 9 (0, 0)),
  (20, List.replicate 9 (0, 0)),
  (9, [(2, 78), (2, 79), (2, 80), (2, 81), (2, 82), (2, 83), (0, 0), (0, 0)]),
  (20, List.replicate 24 (0, 0)),
  (20, List.replicate 24 (0, 0)),
  (20, List.replicate 24 (0, 0)),
  (20, List.replicate 24 (0, 0)),
  (22, List.replicate 24 (0, 0)),
  (20, List.replicate 24 (0, 0)),
  (2, [(2, 85), (0, 0), (0, 0), (0, 0), (0, 0), (0, 0), (0, 0), (1, 0)]),
  (20, List.replicate 9 (0, 0)),
  (2, [(2, 87), (0, 0), (0, 0), (0, 0), (0, 0), (0, 0), (0, 0), (1, 0)]),
  (20, List.replicate 9 (0, 0)),
  (2, [(2, 89), (0, 0), (0, 0), (0, 0), (0, 0), (0, 0), (0, 0), (1, 0)]),
  (20, List.replicate 9 (0, 0)),
  (20, List.replicate 100 (0, 0)),
  (12, [(0, 0), (2, 92), (0, 0), (2, 93), (2, 94), (2, 95), (2, 96), (2, 97), (2, 98), (2, 99), (2, 100), (2, 101), (2, 102), (2, 103), (2, 104), (2, 105), (2, 106), (2, 107), (2, 108), (2, 109), (2, 110), (2, 111), (0, 0), (0, 0), (0, 0), (0, 0), (0, 0), (0, 0), (0, 0), (0, 0), (0, 0), (0, 0), (0, 0), (0, 0), (0, 0), (0, 0), (0, 0), (2, 112), (2, 113), (2, 114), (2, 115), (2, 116), (2, 117), (2, 118), (2, 119), (0, 0), (0, 0), (2, 120), (2, 121), (0, 0), (0, 0), (2, 122), (2, 123), (0, 0), (0, 0), (0, 0), (0, 0), (0, 0), (0, 0), (2, 124), (0, 0), (0, 0), (0, 0), (2, 125), (2, 126), (2, 127), (2, 128), (2, 129), (2, 130), (0, 0), (0, 0), (0, 0), (0, 0), (0, 0), (0, 0), (0, 0)]),
  (20, List.replicate 700 (0, 0)),
  (20, List.replicate 18 (0, 0)),
  (20, List.replicate 18 (0, 0)),
  (20, List.replicate 18 (0, 0)),
  (22, List.replicate 18 (0, 0)),
  (20, List.replicate 18 (0, 0)),
  (20, List.replicate 18 (0, 0)),
  (20, List.replicate 18 (0, 0)),
  (20, List.replicate 12 (0, 0)),
  (20, List.replicate 12 (0, 0)),
  (20, List.replicate 12 (0, 0)),
  (20, List.replicate 12 (0, 0)),
  (20, List.replicate 6 (0, 0)),
  (20, List.replicate 6 (0, 0)),
  (20, List.replicate 6 (0, 0)),
  (20, List.replicate 48 (0, 0)),
  (20, List.replicate 4 (0, 0)),
  (20, List.replicate 4 (0, 0)),
  (20, List.replicate 128 (0, 0)),
  (20, List.replicate 128 (0, 0)),
  (20, List.replicate 23 (0, 0)),
  (20, List.replicate 23 (0, 0)),
  (20, List.replicate 23 (0, 0)),
  (20, List.replicate 23 (0, 0)),
  (20, List.replicate 23 (0, 0)),
  (20, List.replicate 23 (0, 0)),
  (20, List.replicate 23 (0, 0)),
  (20, List.replicate 207 (0, 0)),
  (23, List.replicate 6 (1, 0)),
  (23, List.replicate 64 (1, 0)),
  (20, List.replicate 648 (0, 0)),
  (20, List.replicate 216 (0, 0)),
  (20, List.replicate 90 (0, 0)),
  (20, List.replicate 24 (0, 0)),
  (20, List.replicate 24 (0, 0)),
  (20, List.replicate 24 (0, 0)),
  (20, List.replicate 24 (0, 0)),
  (20, List.replicate 24 (0, 0)),
  (22, List.replicate 24 (0, 0)),
  (23, [(1, 0)])]
def sRl : List (Nat × Nat × List (Option (Int × Int))) := [(19, 19, [none, some (0, 700), some ((-2147483648), 2147483647), some ((-2147483648), 2147483647), none, none, none, none, none, none, none, none, none, none, none, some (0, 1), some ((-1), 24), none, some (0, 20)]),
  (700, 1, [some ((-128), 127)]),
  (18, 18, [none, none, none, none, none, none, none, none, some (0, 9), some (0, 6), some (0, 3), none, none, none, none, none, some (0, 64), none]),
  (0, 1, []),
  (0, 1, []),
  (3, 1, [some ((-2147483648), 2147483647)]),
  (0, 1, []),
  (0, 1, []),
  (0, 1, []),
  (2, 2, [none, some (0, 64)]),
  (0, 1, []),
  (2, 2, [none, some (0, 64)]),
  (0, 1, []),
  (6, 6, [some ((-2147483648), 2147483647), some (0, 99), some (0, 1), some ((-9), 9), some (0, 9), some (0, 99)]),
  (6, 6, [some ((-2147483648), 2147483647), some (0, 99), some (0, 1), some ((-9), 9), some (0, 9), some (0, 99)]),
  (6, 6, [some ((-2147483648), 2147483647), some (0, 99), some (0, 1), some ((-9), 9), some (0, 9), some (0, 99)]),
  (6, 6, [some ((-2147483648), 2147483647), some (0, 99), some (0, 1), some ((-9), 9), some (0, 9), some (0, 99)]),
  (6, 6, [some ((-2147483648), 2147483647), some (0, 99), some (0, 1), some ((-9), 9), some (0, 9), some (0, 99)]),
  (6, 6, [some ((-2147483648), 2147483647), some (0, 99), some (0, 1), some ((-9), 9), some (0, 9), some (0, 99)]),
  (6, 6, [some ((-2147483648), 2147483647), some (0, 99), some (0, 1), some ((-9), 9), some (0, 9), some (0, 99)]),
  (6, 6, [some ((-2147483648), 2147483647), some (0, 99), some (0, 1), some ((-9), 9), some (0, 9), some (0, 99)]),
  (6, 6, [some ((-2147483648), 2147483647), some (0, 99), some (0, 1), some ((-9), 9), some (0, 9), some (0, 99)]),
  (4, 4, [some ((-2147483648), 2147483647), none, none, none]),
  (4, 4, [some ((-2147483648), 2147483647), none, none, none]),
  (4, 4, [some ((-2147483648), 2147483647), none, none, none]),
  (4, 4, [some ((-2147483648), 2147483647), none, none, none]),
  (4, 4, [some ((-2147483648), 2147483647), none, none, none]),
  (4, 4, [some ((-2147483648), 2147483647), none, none, none]),
  (18, 18, [none, none, none, none, none, none, none, none, some (0, 9), some (0, 6), some (0, 3), none, none, none, none, none, some (0, 64), none]),
  (0, 1, []),
  (0, 1, []),
  (3, 1, [some ((-2147483648), 2147483647)]),
  (0, 1, []),
  (0, 1, []),
  (0, 1, []),
  (2, 2, [none, some (0, 64)]),
  (0, 1, []),
  (2, 2, [none, some (0, 64)]),
  (0, 1, []),
  (6, 6, [some ((-2147483648), 2147483647), some (0, 99), some (0, 1), some ((-9), 9), some (0, 9), some (0, 99)]),
  (6, 6, [some ((-2147483648), 2147483647), some (0, 99), some (0, 1), some ((-9), 9), some (0, 9), some (0, 99)]),
  (6, 6, [some ((-2147483648), 2147483647), some (0, 99), some (0, 1), some ((-9), 9), some (0, 9), some (0, 99)]),
  (6, 6, [some ((-2147483648), 2147483647), some (0, 99), some (0, 1), some ((-9), 9), some (0, 9), some (0, 99)]),
  (6, 6, [some ((-2147483648), 2147483647), some (0, 99), some (0, 1), some ((-9), 9), some (0, 9), some (0, 99)]),
  (6, 6, [some ((-2147483648), 2147483647), some (0, 99), some (0, 1), some ((-9), 9), some (0, 9), some (0, 99)]),
  (6, 6, [some ((-2147483648), 2147483647), some (0, 99), some (0, 1), some ((-9), 9), some (0, 9), some (0, 99)]),
  (6, 6, [some ((-2147483648), 2147483647), some (0, 99), some (0, 1), some ((-9), 9), some (0, 9), some (0, 99)]),
  (6, 6, [some ((-2147483648), 2147483647), some (0, 99), some (0, 1), some ((-9), 9), some (0, 9), some (0, 99)]),
  (4, 4, [some ((-2147483648), 2147483647), none, none, none]),
  (4, 4, [some ((-2147483648), 2147483647), none, none, none]),
  (4, 4, [some ((-2147483648), 2147483647), none, none, none]),
  (4, 4, [some ((-2147483648), 2147483647), none, none, none]),
  (4, 4, [some ((-2147483648), 2147483647), none, none, none]),
  (4, 4, [some ((-2147483648), 2147483647), none, none, none]),
  (11, 11, [none, none, some (0, 72), some (0, 8), none, some ((-2147483648), 2147483647), some ((-2147483648), 2147483647), some ((-2147483648), 2147483647), some ((-2147483648), 2147483647), some ((-2147483648), 2147483647), some ((-2147483648), 2147483647)]),
  (72, 1, [some (0, 41)]),
  (7, 7, [none, none, some (0, 700), some (0, 700), some (0, 41), some ((-2147483648), 2147483647), some (0, 700)]),
  (24, 1, [some (0, 1073741824)]),
  (8, 8, [none, none, none, none, none, some (0, 1), some (0, 1), none]),
  (0, 1, []),
  (0, 1, []),
  (0, 1, []),
  (0, 1, []),
  (8, 8, [none, none, none, none, none, some (0, 1), some (0, 1), none]),
  (0, 1, []),
  (0, 1, []),
  (0, 1, []),
  (0, 1, []),
  (9, 9, [none, none, none, none, some (0, 64), some (0, 64), none, none, none]),
  (0, 1, []),
  (0, 1, []),
  (0, 1, []),
  (0, 1, []),
  (0, 1, []),
  (0, 1, []),
  (0, 1, []),
  (0, 1, []),
  (8, 8, [none, none, none, none, none, none, some (0, 24), some ((-1), 24)]),
  (24, 1, [some (0, 8)]),
  (24, 1, [some (0, 23)]),
  (0, 1, []),
  (0, 1, []),
  (24, 1, [some (0, 1)]),
  (24, 1, [some ((-1), 23)]),
  (8, 8, [none, none, none, some (0, 9), some (0, 8), some (0, 23), none, none]),
  (0, 1, []),
  (8, 8, [none, none, none, some (0, 9), some (0, 8), some (0, 23), none, none]),
  (0, 1, []),
  (8, 8, [none, none, none, some (0, 9), some (0, 8), some (0, 23), none, none]),
  (0, 1, []),
  (100, 5, [none, none, some (0, 9), some (0, 23), none]),
  (76, 76, [none, none, some (0, 700), none, none, none, none, none, none, none, none, none, none, none, none, none, none, none, none, none, none, none, some ((-2147483648), 2147483647), some ((-2147483648), 2147483647), some ((-2147483648), 2147483647), none, some (0, 700), some (0, 700), some (0, 700), some (0, 5), some ((-2147483648), 2147483647), some (0, 4), some ((-2147483648), 2147483647), some (0, 4), some ((-2147483648), 2147483647), some (0, 8), some (0, 64), none, none, none, none, none, none, none, none, some (0, 1), some (0, 20), none, none, some (0, 64), none, none, none, none, none, none, none, none, none, none, none, some (0, 24), some ((-1), 24), none, none, none, none, none, none, none, none, none, none, none, none, none]),
  (700, 1, [some (0, 255)]),
  (18, 18, [some (0, 9), some (0, 6), some (0, 3), none, none, none, none, none, some (0, 64), some (0, 9), some (0, 6), some (0, 3), none, none, none, none, none, some (0, 64)]),
  (18, 1, [some ((-2147483648), 2147483647)]),
  (18, 1, [some (0, 99)]),
  (18, 1, [some (0, 1)]),
  (0, 1, []),
  (0, 1, []),
  (0, 1, []),
  (12, 1, [some ((-2147483648), 2147483647)]),
  (12, 1, [some (0, 60)]),
  (12, 1, [some (0, 99)]),
  (12, 1, [some (0, 99)]),
  (6, 1, [some ((-2147483648), 2147483647)]),
  (0, 1, []),
  (0, 1, []),
  (0, 1, []),
  (4, 1, [some (0, 64)]),
  (4, 1, [some (0, 64)]),
  (128, 1, [some (0, 2)]),
  (128, 1, [some ((-2147483648), 2147483647)]),
  (23, 1, [some (0, 23)]),
  (23, 1, [some (0, 8)]),
  (23, 1, [some (0, 3)]),
  (0, 1, []),
  (0, 1, []),
  (23, 1, [some (0, 9)]),
  (0, 1, []),
  (0, 1, []),
  (0, 1, []),
  (0, 1, []),
  (0, 1, []),
  (0, 1, []),
  (90, 1, [some (0, 1000)]),
  (24, 1, [some (0, 8)]),
  (24, 1, [some (0, 23)]),
  (0, 1, []),
  (0, 1, []),
  (24, 1, [some ((-1), 23)]),
  (24, 1, [some (0, 1)]),
  (0, 1, [])]
def sRg (o k : Nat) : Option (Int × Int) := match sRl[o]? with
  | some (len, m, l) => cond (Nat.blt k len) ((l[k % m]?).getD none) none
  | none => none
abbrev sSt : Type := List (Nat × Nat × Nat)
/-- may place k of cell o be changed -/
def sIn (S : sSt) (o k : Nat) : Bool := S.any (fun p => Nat.ble p.1 o && (Nat.ble o p.2.1 && (Nat.beq p.2.2 999 || Nat.beq p.2.2 k)))
def sInC (S : sSt) (o : Nat) : Bool := S.any (fun p => Nat.ble p.1 o && Nat.ble o p.2.1)
theorem sinc_ok {S : sSt} {o : Nat} (h : sInC S o = false) (k : Nat) : sIn S o k = false := by
  cases hs : sIn S o k with
  | false => rfl
  | true =>
    obtain ⟨p, hp, h1⟩ := List.any_eq_true.mp hs
    rw [Bool.and_eq_true, Bool.and_eq_true] at h1
    have : sInC S o = true := List.any_eq_true.mpr ⟨p, hp, by rw [Bool.and_eq_true]; exact ⟨h1.1, h1.2.1⟩⟩
    rw [h] at this
    cases this
/-! WHAT ALWAYS HOLDS BESIDE RANGES. Places of a cell beyond its length aren't in the heap: they keep what is known of it (998 of 54: how many '(' wait; 997: how many below the last). -/
def xC (M : sM) : Nat → Int
  | 0 => 0
  | t + 1 => xC M t + (if M 55 t = 6 then 1 else 0)
def XI2 (M : sM) : Prop := M 54 998 = xC M (M 54 2).toNat ∧ M 54 997 = xC M ((M 54 2).toNat - 1)
/-- the byte that the reference looks at -/
def xH (M : sM) : Int := if M 91 27 < M 91 26 then M 92 (M 91 27).toNat else -1
def XI3 (M : sM) : Prop := M 91 990 = xH M
def zPl0 : sSt := [(54, 54, 2), (54, 54, 998), (54, 54, 997), (55, 55, 999), (91, 91, 26), (91, 91, 27), (91, 91, 990), (92, 92, 999)]
theorem xc_congr {M M' : sM} (h : ∀ k, M' 55 k = M 55 k) : ∀ t, xC M' t = xC M t
  | 0 => rfl
  | t + 1 => by
    show xC M' t + (if M' 55 t = 6 then 1 else 0) = xC M t + (if M 55 t = 6 then 1 else 0)
    rw [xc_congr h t, h]
theorem xi2_congr {M M' : sM} (h : ∀ o k, sIn zPl0 o k = true → o < 60 → M' o k = M o k) (hx : XI2 M) : XI2 M' := by
  have h1 : M' 54 2 = M 54 2 := h _ _ rfl (by decide)
  have h2 : M' 54 998 = M 54 998 := h _ _ rfl (by decide)
  have h3 : M' 54 997 = M 54 997 := h _ _ rfl (by decide)
  have h4 : ∀ k, M' 55 k = M 55 k := fun k => h _ _ rfl (by decide)
  unfold XI2
  rw [h1, h2, h3, xc_congr h4, xc_congr h4]
  exact hx
theorem xi3_congr {M M' : sM} (h : ∀ o k, sIn zPl0 o k = true → 60 ≤ o → M' o k = M o k) (hx : XI3 M) : XI3 M' := by
  have h1 : M' 91 27 = M 91 27 := h _ _ rfl (by decide)
  have h2 : M' 91 26 = M 91 26 := h _ _ rfl (by decide)
  have h3 : M' 91 990 = M 91 990 := h _ _ rfl (by decide)
  have h4 : ∀ k, M' 92 k = M 92 k := fun k => h _ _ rfl (by decide)
  unfold XI3 xH
  rw [h1, h2, h3, h4]
  exact hx
/-- which carts are looked at, and what holds of one (91/991: whether it is claimed, 992: of which it isn't, 993: bends or 2, 984: one more that is looked at; 985, 986: its bend and state) -/
def xV (M : sM) (i : Nat) : Prop := i = 0 ∨ (i = 2 ∧ M 91 45 = 1) ∨ (3 ≤ i ∧ (i : Int) < 3 + M 91 46) ∨ (i : Int) = M 91 984
def xB (M : sM) (i : Nat) : Prop := M 113 i + 2 ≤ M 91 993 + 9 * M 114 i
/-- a knot of a law: what it does to the depth, which depth it needs, whether it is one -/
def xkE (s v : Int) : Int := if s = 2 then (if v = 260 then 0 else -1) else 1
def xkN (s v : Int) : Int := if s = 2 then (if v = 260 then 1 else 2) else 0
def xkV (s v : Int) : Prop := s = 2 ∨ s = 0 ∨ (0 ≤ v ∧ v ≤ 5)
def xkD (M : sM) (f : Nat) : Nat → Int
  | 0 => 0
  | n + 1 => xkD M f n + xkE (M 110 (f + n)) (M 111 (f + n))
def xkO (M : sM) (f n : Nat) : Prop := ∀ j, j < n → xkN (M 110 (f + j)) (M 111 (f + j)) ≤ xkD M f j ∧ xkV (M 110 (f + j)) (M 111 (f + j))
theorem dp_congr {M M' : sM} {f : Nat} : ∀ {n : Nat}, (∀ k, f ≤ k → k < f + n → M' 110 k = M 110 k ∧ M' 111 k = M 111 k) → xkD M' f n = xkD M f n
  | 0, _ => rfl
  | n + 1, h => by
    have h1 := h (f + n) (by omega) (by omega)
    show xkD M' f n + xkE (M' 110 (f + n)) (M' 111 (f + n)) = xkD M f n + xkE (M 110 (f + n)) (M 111 (f + n))
    rw [dp_congr (fun k h2 h3 => h k h2 (by omega)), h1.1, h1.2]
theorem ol_congr {M M' : sM} {f n : Nat} (h : ∀ k, f ≤ k → k < f + n → M' 110 k = M 110 k ∧ M' 111 k = M 111 k) (ho : xkO M f n) : xkO M' f n := by
  intro j hj
  have h1 := h (f + j) (by omega) (by omega)
  rw [h1.1, h1.2, dp_congr (fun k h2 h3 => h k h2 (by omega))]
  exact ho j hj
theorem dp_le (M : sM) (f : Nat) : ∀ n : Nat, xkD M f n ≤ n
  | 0 => Int.le_refl 0
  | n + 1 => by
    have h := dp_le M f n
    show xkD M f n + xkE (M 110 (f + n)) (M 111 (f + n)) ≤ ((n + 1 : Nat) : Int)
    unfold xkE
    split
    · split <;> omega
    · omega
theorem en_ge (s v : Int) : 0 ≤ xkN s v := by
  unfold xkN
  split
  · split <;> omega
  · omega
/-! what the reference works out of bits -/
def xlt (a b : Int) : Int := if Int32.ofInt a < Int32.ofInt b then 1 else 0
def xpS (M : sM) (x : Int) : Nat → Int
  | 0 => 0
  | g + 1 => xpS M x g + (if xop 1 (xop 0 x g) 1 = 1 then M 101 g else 0)
def xbB (M : sM) (x b h : Int) : Nat → Int
  | 0 => 0
  | s + 1 => xbB M x b h s + xop 1 (xop 0 x (2 * s)) 3 * M 122 (72 * b + 24 * s + h).toNat
def xnV (M : sM) (x y st b h : Int) : Int := st * M 93 6 + xpS M x (M 93 1).toNat - xbB M y b h (M 93 2).toNat
def xhV (M : sM) (st b fr : Int) : Int := 1 - xlt (xnV M (M 115 0) (M 116 0) st b (xop 3 (fr + b) 24)) (-(M 93 4))
def xcO (M : sM) (st b fr : Int) : Int := if xhV M st b fr = 1 ∧ xhV M st (b + 1) fr = 1 ∧ xlt (M 123 (24 * (b + 1) + xop 3 (fr + b + 1) 24).toNat) (xnV M (M 115 0) (M 116 0) st (b + 1) (xop 3 (fr + b + 1) 24)) = 0 then 1 else 0
def xe1 (had st : Int) : Int := if had = st then 0 else 1
def xe2 (M : sM) (b st : Int) : Int := if b + 2 = M 93 0 then 0 else M 124 (10 * (b + 1) + st).toNat
def xcB (M : sM) (b had st fr : Int) : Int := if (0 < b ∧ xlt (M 119 b.toNat) (st - had) = 1) ∨ xcO M st b fr = 0 then 1000 else xe1 had st + xe2 M b st
theorem xps_c {M M' : sM} (h : ∀ k, M' 101 k = M 101 k) (x : Int) : ∀ n, xpS M' x n = xpS M x n
  | 0 => rfl
  | n + 1 => by
    show xpS M' x n + (if xop 1 (xop 0 x n) 1 = 1 then M' 101 n else 0) = xpS M x n + (if xop 1 (xop 0 x n) 1 = 1 then M 101 n else 0)
    rw [xps_c h x n, h]
theorem xbb_c {M M' : sM} (h : ∀ k, M' 122 k = M 122 k) (x b y : Int) : ∀ n, xbB M' x b y n = xbB M x b y n
  | 0 => rfl
  | n + 1 => by
    show xbB M' x b y n + _ * M' 122 _ = xbB M x b y n + _ * M 122 _
    rw [xbb_c h x b y n, h]
theorem xnv_c {M M' : sM} (a1 : M' 93 1 = M 93 1) (a2 : M' 93 2 = M 93 2) (a6 : M' 93 6 = M 93 6) (h1 : ∀ k, M' 101 k = M 101 k) (h2 : ∀ k, M' 122 k = M 122 k) (x y st b h : Int) : xnV M' x y st b h = xnV M x y st b h := by
  unfold xnV
  rw [a1, a2, a6, xps_c h1, xbb_c h2]
theorem xhv_c {M M' : sM} (a1 : M' 93 1 = M 93 1) (a2 : M' 93 2 = M 93 2) (a4 : M' 93 4 = M 93 4) (a6 : M' 93 6 = M 93 6) (h1 : ∀ k, M' 101 k = M 101 k) (h2 : ∀ k, M' 122 k = M 122 k) (h5 : M' 115 0 = M 115 0) (h6 : M' 116 0 = M 116 0) (st b fr : Int) : xhV M' st b fr = xhV M st b fr := by
  unfold xhV
  rw [xnv_c a1 a2 a6 h1 h2, a4, h5, h6]
theorem xco_c {M M' : sM} (a1 : M' 93 1 = M 93 1) (a2 : M' 93 2 = M 93 2) (a4 : M' 93 4 = M 93 4) (a6 : M' 93 6 = M 93 6) (h1 : ∀ k, M' 101 k = M 101 k) (h2 : ∀ k, M' 122 k = M 122 k) (h5 : M' 115 0 = M 115 0) (h6 : M' 116 0 = M 116 0) (h3 : ∀ k, M' 123 k = M 123 k) (st b fr : Int) : xcO M' st b fr = xcO M st b fr := by
  unfold xcO
  rw [xhv_c a1 a2 a4 a6 h1 h2 h5 h6, xhv_c a1 a2 a4 a6 h1 h2 h5 h6, xnv_c a1 a2 a6 h1 h2, h3, h5, h6]
theorem xcb_c {M M' : sM} (b had st fr : Int) (hO : xcO M' st b fr = xcO M st b fr) (h9 : M' 119 b.toNat = M 119 b.toNat) (a0 : M' 93 0 = M 93 0) (h4 : M' 124 (10 * (b + 1) + st).toNat = M 124 (10 * (b + 1) + st).toNat) : xcB M' b had st fr = xcB M b had st fr := by
  unfold xcB xe2
  rw [hO, h9, a0, h4]
/-! the text: bytes as the class holds them; the registers; names that are told -/
def tSn (x : Int) : Int := if x < 128 then x else x - 256
def tCf (M : sM) : tC := fun i => if i < 70 then M 3 (20 + i) else 0
def tN1 (M : sM) (r : Int) (j : Nat) : Int := if r = 2 then M (13 + j) 0 else M (39 + j) 0
def tN2 (M : sM) (r : Int) (j : Nat) : Int := if r = 2 then M (22 + j) 0 else M (48 + j) 0
def tN3 (M : sM) (r : Int) (j : Nat) : Int := if r = 2 then M 5 j else M 31 j
/-- what waits: whether a comparison waits, those of the levels below; whether 'not' may come -/
def xWs (M : sM) : Nat → Int × Int
  | 0 => (0, 0)
  | t + 1 => if M 55 t = 6 then (0, 2 * (xWs M t).2 + (xWs M t).1) else if 12 ≤ M 55 t ∧ M 55 t ≤ 17 then (1, (xWs M t).2) else if 33 ≤ M 55 t ∧ M 55 t ≤ 35 then (0, (xWs M t).2) else xWs M t
/-- what is on top: 0 nothing or '(', 1 or, and, not, 2 a comparison, 3 one of + - * / -/
def xKn (k : Int) : Int := if k = 6 then 0 else if 33 ≤ k ∧ k ≤ 35 then 1 else if 12 ≤ k ∧ k ≤ 17 then 2 else 3
def xWn (M : sM) : Nat → Int
  | 0 => 0
  | t + 1 => xKn (M 55 t)
def xKo (k : Int) : Prop := k = 6 ∨ (8 ≤ k ∧ k ≤ 17) ∨ (33 ≤ k ∧ k ≤ 35)
theorem xws_c {M M' : sM} (h : ∀ k, M' 55 k = M 55 k) : ∀ t, xWs M' t = xWs M t
  | 0 => rfl
  | t + 1 => by
    show (if M' 55 t = 6 then (0, 2 * (xWs M' t).2 + (xWs M' t).1) else if 12 ≤ M' 55 t ∧ M' 55 t ≤ 17 then (1, (xWs M' t).2) else if 33 ≤ M' 55 t ∧ M' 55 t ≤ 35 then (0, (xWs M' t).2) else xWs M' t) = (if M 55 t = 6 then (0, 2 * (xWs M t).2 + (xWs M t).1) else if 12 ≤ M 55 t ∧ M 55 t ≤ 17 then (1, (xWs M t).2) else if 33 ≤ M 55 t ∧ M 55 t ≤ 35 then (0, (xWs M t).2) else xWs M t)
    rw [xws_c h t, h]
theorem xwn_c {M M' : sM} (h : ∀ k, M' 55 k = M 55 k) : ∀ t, xWn M' t = xWn M t
  | 0 => rfl
  | t + 1 => by
    show xKn (M' 55 t) = xKn (M 55 t)
    rw [h]
/-- a byte of four, and as the class holds it -/
def tBy (x : Int) (j : Nat) : Int := xop 1 (xop 0 x (24 - 8 * (j % 4 : Nat))) 255
theorem sin_sub {S S' : sSt} (h : S.all (fun p => S'.any (fun q => Nat.ble q.1 p.1 && (Nat.ble p.2.1 q.2.1 && (Nat.beq q.2.2 999 || Nat.beq q.2.2 p.2.2)))) = true) {o k : Nat} (hs : sIn S o k = true) : sIn S' o k = true := by
  obtain ⟨p, hp, h1⟩ := List.any_eq_true.mp hs
  obtain ⟨q, hq, h2⟩ := List.any_eq_true.mp (List.all_eq_true.mp h p hp)
  rw [Bool.and_eq_true, Bool.and_eq_true] at h1 h2
  refine List.any_eq_true.mpr ⟨q, hq, ?_⟩
  rw [Bool.and_eq_true, Bool.and_eq_true]
  refine ⟨Nat.ble_eq_true_of_le (Nat.le_trans (Nat.le_of_ble_eq_true h2.1) (Nat.le_of_ble_eq_true h1.1)), Nat.ble_eq_true_of_le (Nat.le_trans (Nat.le_of_ble_eq_true h1.2.1) (Nat.le_of_ble_eq_true h2.2.1)), ?_⟩
  have h3 := h1.2.2
  have h4 := h2.2.2
  rw [Bool.or_eq_true] at h3 h4 ⊢
  rcases h4 with h4 | h4
  · exact Or.inl h4
  · rcases h3 with h3 | h3
    · refine Or.inl ?_
      rw [Nat.eq_of_beq_eq_true h4]
      exact h3
    · refine Or.inr ?_
      rw [Nat.eq_of_beq_eq_true h4]
      exact h3
def xS1 (M : sM) : Prop := M 4 100 ≠ 0 → 0 ≤ M 4 101 ∧ M 4 101 ≤ 700 ∧ ∀ i : Nat, (i : Int) < M 4 101 → M 1 i = tSn (M 92 i)
def zxS1 : sSt := [(4, 4, 100), (4, 4, 101), (1, 1, 999), (92, 92, 999)]
theorem cxS1 {M M' : sM} (h : ∀ o k, sIn zxS1 o k = true → M' o k = M o k) (hx : xS1 M) : xS1 M' := by
  have h0 : M' 4 100 = M 4 100 := h _ _ rfl
  have h1 : M' 4 101 = M 4 101 := h _ _ rfl
  have h2 : ∀ k, M' 1 k = M 1 k := fun k => h _ _ rfl
  have h3 : ∀ k, M' 92 k = M 92 k := fun k => h _ _ rfl
  have e2 : M' 1 = M 1 := funext h2
  have e3 : M' 92 = M 92 := funext h3
  unfold xS1 at hx ⊢
  simp only [e2, e3, h0, h1, h2, h3]
  exact hx
theorem uxS1 {M : sM} {o k : Nat} {v : Int} (hp : sIn zxS1 o k = false) (h : xS1 M) : xS1 (sU M o k v) := cxS1 (fun o' k' h' => sU_ne (fun z => by rw [z.1, z.2, hp] at h'; cases h')) h
def xS2 (M : sM) : Prop := M 4 100 ≠ 0 → 0 ≤ M 4 102 ∧ M 4 102 ≤ M 4 101 ∧ (M 3 44, M 3 45, M 3 46, M 3 47, M 3 50, M 3 51) = tTo (M 92) (M 4 101).toNat (M 4 102).toNat (M 4 107) (M 4 108)
def zxS2 : sSt := [(4, 4, 100), (4, 4, 101), (4, 4, 102), (4, 4, 107), (4, 4, 108), (3, 3, 999), (92, 92, 999)]
theorem cxS2 {M M' : sM} (h : ∀ o k, sIn zxS2 o k = true → M' o k = M o k) (hx : xS2 M) : xS2 M' := by
  have h0 : M' 4 100 = M 4 100 := h _ _ rfl
  have h1 : M' 4 101 = M 4 101 := h _ _ rfl
  have h2 : M' 4 102 = M 4 102 := h _ _ rfl
  have h3 : M' 4 107 = M 4 107 := h _ _ rfl
  have h4 : M' 4 108 = M 4 108 := h _ _ rfl
  have h5 : ∀ k, M' 3 k = M 3 k := fun k => h _ _ rfl
  have h6 : ∀ k, M' 92 k = M 92 k := fun k => h _ _ rfl
  have e5 : M' 3 = M 3 := funext h5
  have e6 : M' 92 = M 92 := funext h6
  unfold xS2 at hx ⊢
  simp only [e5, e6, h0, h1, h2, h3, h4, h5, h6]
  exact hx
theorem uxS2 {M : sM} {o k : Nat} {v : Int} (hp : sIn zxS2 o k = false) (h : xS2 M) : xS2 (sU M o k v) := cxS2 (fun o' k' h' => sU_ne (fun z => by rw [z.1, z.2, hp] at h'; cases h')) h
def xS3 (M : sM) : Prop := M 4 100 ≠ 0 → tRe (M 92) (M 4 101).toNat (M 4 207) (M 4 208) (tCf M)
def zxS3 : sSt := [(4, 4, 100), (4, 4, 101), (4, 4, 207), (4, 4, 208), (3, 3, 999), (92, 92, 999)]
theorem cxS3 {M M' : sM} (h : ∀ o k, sIn zxS3 o k = true → M' o k = M o k) (hx : xS3 M) : xS3 M' := by
  have h0 : M' 4 100 = M 4 100 := h _ _ rfl
  have h1 : M' 4 101 = M 4 101 := h _ _ rfl
  have h2 : M' 4 207 = M 4 207 := h _ _ rfl
  have h3 : M' 4 208 = M 4 208 := h _ _ rfl
  have h4 : ∀ k, M' 3 k = M 3 k := fun k => h _ _ rfl
  have h5 : ∀ k, M' 92 k = M 92 k := fun k => h _ _ rfl
  have e4 : M' 3 = M 3 := funext h4
  have e5 : M' 92 = M 92 := funext h5
  unfold xS3 at hx ⊢
  unfold tCf at hx ⊢
  simp only [e4, e5, h0, h1, h2, h3, h4, h5]
  exact hx
theorem uxS3 {M : sM} {o k : Nat} {v : Int} (hp : sIn zxS3 o k = false) (h : xS3 M) : xS3 (sU M o k v) := cxS3 (fun o' k' h' => sU_ne (fun z => by rw [z.1, z.2, hp] at h'; cases h')) h
def xS4 (M : sM) : Prop := M 4 100 = 1 → (∀ j : Nat, j < 9 → (j : Int) < M 4 104 → tN1 M (M 4 103) j = M 3 (60 + j)) ∧ (∀ j : Nat, j < 6 → (j : Int) < M 4 105 → tN2 M (M 4 103) j = M 3 (70 + j)) ∧ (∀ j : Nat, j < 3 → (j : Int) < M 4 106 → tN3 M (M 4 103) j = M 3 (80 + j))
def zxS4 : sSt := [(4, 4, 100), (4, 4, 103), (4, 4, 104), (4, 4, 105), (4, 4, 106), (3, 3, 999), (5, 5, 999), (31, 31, 999), (13, 27, 0), (39, 53, 0)]
theorem cxS4 {M M' : sM} (h : ∀ o k, sIn zxS4 o k = true → M' o k = M o k) (hx : xS4 M) : xS4 M' := by
  have h0 : M' 4 100 = M 4 100 := h _ _ rfl
  have h1 : M' 4 103 = M 4 103 := h _ _ rfl
  have h2 : M' 4 104 = M 4 104 := h _ _ rfl
  have h3 : M' 4 105 = M 4 105 := h _ _ rfl
  have h4 : M' 4 106 = M 4 106 := h _ _ rfl
  have h5 : ∀ k, M' 3 k = M 3 k := fun k => h _ _ rfl
  have h6 : ∀ k, M' 5 k = M 5 k := fun k => h _ _ rfl
  have h7 : ∀ k, M' 31 k = M 31 k := fun k => h _ _ rfl
  have h8 : ∀ c, 13 ≤ c → c ≤ 27 → M' c 0 = M c 0 := fun c a b => h c 0 (List.any_eq_true.mpr ⟨(13, 27, 0), by decide, by show (Nat.ble 13 c && (Nat.ble c 27 && (Nat.beq 0 999 || Nat.beq 0 0))) = true; rw [Nat.ble_eq_true_of_le a, Nat.ble_eq_true_of_le b]; rfl⟩)
  have h9 : ∀ c, 39 ≤ c → c ≤ 53 → M' c 0 = M c 0 := fun c a b => h c 0 (List.any_eq_true.mpr ⟨(39, 53, 0), by decide, by show (Nat.ble 39 c && (Nat.ble c 53 && (Nat.beq 0 999 || Nat.beq 0 0))) = true; rw [Nat.ble_eq_true_of_le a, Nat.ble_eq_true_of_le b]; rfl⟩)
  have e3 : M' 3 = M 3 := funext h5
  have h6b := h6
  have h7b := h7
  unfold xS4 at hx ⊢
  rw [h0, h1, h2, h3, h4, e3]
  intro hr
  obtain ⟨a1, a2, a3⟩ := hx hr
  refine ⟨fun j hj ht => ?_, fun j hj ht => ?_, fun j hj ht => ?_⟩
  · rw [← a1 j hj ht]
    unfold tN1
    rw [h8 (13 + j) (by omega) (by omega), h9 (39 + j) (by omega) (by omega)]
  · rw [← a2 j hj ht]
    unfold tN2
    rw [h8 (22 + j) (by omega) (by omega), h9 (48 + j) (by omega) (by omega)]
  · rw [← a3 j hj ht]
    unfold tN3
    rw [h6, h7]
theorem uxS4 {M : sM} {o k : Nat} {v : Int} (hp : sIn zxS4 o k = false) (h : xS4 M) : xS4 (sU M o k v) := cxS4 (fun o' k' h' => sU_ne (fun z => by rw [z.1, z.2, hp] at h'; cases h')) h
def xS5 (M : sM) : Prop := M 4 100 = 2 → (∀ j : Nat, j < 9 → (j : Int) < M 4 104 → M 94 (9 + j) = M 3 (60 + j)) ∧ (∀ j : Nat, j < 6 → (j : Int) < M 4 105 → M 100 (6 + j) = M 3 (70 + j)) ∧ (∀ j : Nat, j < 3 → (j : Int) < M 4 106 → M 104 (3 + j) = M 3 (80 + j))
def zxS5 : sSt := [(4, 4, 100), (4, 4, 104), (4, 4, 105), (4, 4, 106), (3, 3, 999), (94, 94, 999), (100, 100, 999), (104, 104, 999)]
theorem cxS5 {M M' : sM} (h : ∀ o k, sIn zxS5 o k = true → M' o k = M o k) (hx : xS5 M) : xS5 M' := by
  have h0 : M' 4 100 = M 4 100 := h _ _ rfl
  have h1 : M' 4 104 = M 4 104 := h _ _ rfl
  have h2 : M' 4 105 = M 4 105 := h _ _ rfl
  have h3 : M' 4 106 = M 4 106 := h _ _ rfl
  have h4 : ∀ k, M' 3 k = M 3 k := fun k => h _ _ rfl
  have h5 : ∀ k, M' 94 k = M 94 k := fun k => h _ _ rfl
  have h6 : ∀ k, M' 100 k = M 100 k := fun k => h _ _ rfl
  have h7 : ∀ k, M' 104 k = M 104 k := fun k => h _ _ rfl
  have e4 : M' 3 = M 3 := funext h4
  have e5 : M' 94 = M 94 := funext h5
  have e6 : M' 100 = M 100 := funext h6
  have e7 : M' 104 = M 104 := funext h7
  unfold xS5 at hx ⊢
  simp only [e4, e5, e6, e7, h0, h1, h2, h3, h4, h5, h6, h7]
  exact hx
theorem uxS5 {M : sM} {o k : Nat} {v : Int} (hp : sIn zxS5 o k = false) (h : xS5 M) : xS5 (sU M o k v) := cxS5 (fun o' k' h' => sU_ne (fun z => by rw [z.1, z.2, hp] at h'; cases h')) h
def xS6 (M : sM) : Prop := M 4 230 = 1 → 0 ≤ M 4 231 ∧ tFi (fun j => M 3 ((M 4 232).toNat + j)) (M 3 45) (M 4 231).toNat = -1
def zxS6 : sSt := [(4, 4, 230), (4, 4, 231), (4, 4, 232), (3, 3, 999)]
theorem cxS6 {M M' : sM} (h : ∀ o k, sIn zxS6 o k = true → M' o k = M o k) (hx : xS6 M) : xS6 M' := by
  have h0 : M' 4 230 = M 4 230 := h _ _ rfl
  have h1 : M' 4 231 = M 4 231 := h _ _ rfl
  have h2 : M' 4 232 = M 4 232 := h _ _ rfl
  have h3 : ∀ k, M' 3 k = M 3 k := fun k => h _ _ rfl
  have e3 : M' 3 = M 3 := funext h3
  unfold xS6 at hx ⊢
  simp only [e3, h0, h1, h2, h3]
  exact hx
theorem uxS6 {M : sM} {o k : Nat} {v : Int} (hp : sIn zxS6 o k = false) (h : xS6 M) : xS6 (sU M o k v) := cxS6 (fun o' k' h' => sU_ne (fun z => by rw [z.1, z.2, hp] at h'; cases h')) h
def xS7 (M : sM) : Prop := M 4 200 = 1 → tFn (M 92) (M 4 101).toNat (M 4 207) (M 4 208) (M 4 201, M 4 202, M 4 203, M 4 204, M 4 205, M 4 206)
def zxS7 : sSt := [(4, 4, 200), (4, 4, 201), (4, 4, 202), (4, 4, 203), (4, 4, 204), (4, 4, 205), (4, 4, 206), (4, 4, 101), (4, 4, 207), (4, 4, 208), (92, 92, 999)]
theorem cxS7 {M M' : sM} (h : ∀ o k, sIn zxS7 o k = true → M' o k = M o k) (hx : xS7 M) : xS7 M' := by
  have h0 : M' 4 200 = M 4 200 := h _ _ rfl
  have h1 : M' 4 201 = M 4 201 := h _ _ rfl
  have h2 : M' 4 202 = M 4 202 := h _ _ rfl
  have h3 : M' 4 203 = M 4 203 := h _ _ rfl
  have h4 : M' 4 204 = M 4 204 := h _ _ rfl
  have h5 : M' 4 205 = M 4 205 := h _ _ rfl
  have h6 : M' 4 206 = M 4 206 := h _ _ rfl
  have h7 : M' 4 101 = M 4 101 := h _ _ rfl
  have h8 : M' 4 207 = M 4 207 := h _ _ rfl
  have h9 : M' 4 208 = M 4 208 := h _ _ rfl
  have h10 : ∀ k, M' 92 k = M 92 k := fun k => h _ _ rfl
  have e10 : M' 92 = M 92 := funext h10
  unfold xS7 at hx ⊢
  simp only [e10, h0, h1, h2, h3, h4, h5, h6, h7, h8, h9, h10]
  exact hx
theorem uxS7 {M : sM} {o k : Nat} {v : Int} (hp : sIn zxS7 o k = false) (h : xS7 M) : xS7 (sU M o k v) := cxS7 (fun o' k' h' => sU_ne (fun z => by rw [z.1, z.2, hp] at h'; cases h')) h
def xS8 (M : sM) : Prop := M 4 210 = 1 → 0 ≤ M 4 211 ∧ M 4 211 ≤ M 4 101 ∧ tTo (M 92) (M 4 101).toNat (M 4 211).toNat (M 4 107) (M 4 108) = tTo (M 92) (M 4 101).toNat (M 4 102).toNat (M 4 107) (M 4 108)
def zxS8 : sSt := [(4, 4, 210), (4, 4, 211), (4, 4, 101), (4, 4, 102), (4, 4, 107), (4, 4, 108), (92, 92, 999)]
theorem cxS8 {M M' : sM} (h : ∀ o k, sIn zxS8 o k = true → M' o k = M o k) (hx : xS8 M) : xS8 M' := by
  have h0 : M' 4 210 = M 4 210 := h _ _ rfl
  have h1 : M' 4 211 = M 4 211 := h _ _ rfl
  have h2 : M' 4 101 = M 4 101 := h _ _ rfl
  have h3 : M' 4 102 = M 4 102 := h _ _ rfl
  have h4 : M' 4 107 = M 4 107 := h _ _ rfl
  have h5 : M' 4 108 = M 4 108 := h _ _ rfl
  have h6 : ∀ k, M' 92 k = M 92 k := fun k => h _ _ rfl
  have e6 : M' 92 = M 92 := funext h6
  unfold xS8 at hx ⊢
  simp only [e6, h0, h1, h2, h3, h4, h5, h6]
  exact hx
theorem uxS8 {M : sM} {o k : Nat} {v : Int} (hp : sIn zxS8 o k = false) (h : xS8 M) : xS8 (sU M o k v) := cxS8 (fun o' k' h' => sU_ne (fun z => by rw [z.1, z.2, hp] at h'; cases h')) h
def xS9 (M : sM) : Prop := M 4 212 = 1 → M 4 213 = M 92 (M 4 211).toNat
def zxS9 : sSt := [(4, 4, 212), (4, 4, 213), (4, 4, 211), (92, 92, 999)]
theorem cxS9 {M M' : sM} (h : ∀ o k, sIn zxS9 o k = true → M' o k = M o k) (hx : xS9 M) : xS9 M' := by
  have h0 : M' 4 212 = M 4 212 := h _ _ rfl
  have h1 : M' 4 213 = M 4 213 := h _ _ rfl
  have h2 : M' 4 211 = M 4 211 := h _ _ rfl
  have h3 : ∀ k, M' 92 k = M 92 k := fun k => h _ _ rfl
  have e3 : M' 92 = M 92 := funext h3
  unfold xS9 at hx ⊢
  simp only [e3, h0, h1, h2, h3]
  exact hx
theorem uxS9 {M : sM} {o k : Nat} {v : Int} (hp : sIn zxS9 o k = false) (h : xS9 M) : xS9 (sU M o k v) := cxS9 (fun o' k' h' => sU_ne (fun z => by rw [z.1, z.2, hp] at h'; cases h')) h
def xSA (M : sM) : Prop := M 4 214 = 1 → 0 ≤ M 4 215 ∧ M 4 215 ≤ M 4 216 ∧ M 4 216 ≤ M 4 217 ∧ M 4 217 ≤ M 4 101 ∧ M 4 217 = (tEn (M 92) 97 122 (M 4 101).toNat (M 4 216).toNat : Int) ∧ M 4 217 = (tEn (M 92) 97 122 (M 4 101).toNat (M 4 215).toNat : Int) ∧ M 4 219 = tPk (M 92) (M 4 215).toNat (M 4 217 - M 4 215).toNat
def zxSA : sSt := [(4, 4, 214), (4, 4, 215), (4, 4, 216), (4, 4, 217), (4, 4, 219), (4, 4, 101), (92, 92, 999)]
theorem cxSA {M M' : sM} (h : ∀ o k, sIn zxSA o k = true → M' o k = M o k) (hx : xSA M) : xSA M' := by
  have h0 : M' 4 214 = M 4 214 := h _ _ rfl
  have h1 : M' 4 215 = M 4 215 := h _ _ rfl
  have h2 : M' 4 216 = M 4 216 := h _ _ rfl
  have h3 : M' 4 217 = M 4 217 := h _ _ rfl
  have h4 : M' 4 219 = M 4 219 := h _ _ rfl
  have h5 : M' 4 101 = M 4 101 := h _ _ rfl
  have h6 : ∀ k, M' 92 k = M 92 k := fun k => h _ _ rfl
  have e6 : M' 92 = M 92 := funext h6
  unfold xSA at hx ⊢
  simp only [e6, h0, h1, h2, h3, h4, h5, h6]
  exact hx
theorem uxSA {M : sM} {o k : Nat} {v : Int} (hp : sIn zxSA o k = false) (h : xSA M) : xSA (sU M o k v) := cxSA (fun o' k' h' => sU_ne (fun z => by rw [z.1, z.2, hp] at h'; cases h')) h
def xSG (M : sM) : Prop := M 4 235 = 1 → M 4 218 = tPk (M 92) (M 4 215).toNat (M 4 216 - M 4 215).toNat
def zxSG : sSt := [(4, 4, 235), (4, 4, 218), (4, 4, 215), (4, 4, 216), (92, 92, 999)]
theorem cxSG {M M' : sM} (h : ∀ o k, sIn zxSG o k = true → M' o k = M o k) (hx : xSG M) : xSG M' := by
  have h0 : M' 4 235 = M 4 235 := h _ _ rfl
  have h1 : M' 4 218 = M 4 218 := h _ _ rfl
  have h2 : M' 4 215 = M 4 215 := h _ _ rfl
  have h3 : M' 4 216 = M 4 216 := h _ _ rfl
  have h4 : ∀ k, M' 92 k = M 92 k := fun k => h _ _ rfl
  have e4 : M' 92 = M 92 := funext h4
  unfold xSG at hx ⊢
  simp only [e4, h0, h1, h2, h3, h4]
  exact hx
theorem uxSG {M : sM} {o k : Nat} {v : Int} (hp : sIn zxSG o k = false) (h : xSG M) : xSG (sU M o k v) := cxSG (fun o' k' h' => sU_ne (fun z => by rw [z.1, z.2, hp] at h'; cases h')) h
def xSF (M : sM) : Prop := M 4 233 = 1 → M 4 234 = M 92 ((M 4 211).toNat + 1)
def zxSF : sSt := [(4, 4, 233), (4, 4, 234), (4, 4, 211), (92, 92, 999)]
theorem cxSF {M M' : sM} (h : ∀ o k, sIn zxSF o k = true → M' o k = M o k) (hx : xSF M) : xSF M' := by
  have h0 : M' 4 233 = M 4 233 := h _ _ rfl
  have h1 : M' 4 234 = M 4 234 := h _ _ rfl
  have h2 : M' 4 211 = M 4 211 := h _ _ rfl
  have h3 : ∀ k, M' 92 k = M 92 k := fun k => h _ _ rfl
  have e3 : M' 92 = M 92 := funext h3
  unfold xSF at hx ⊢
  simp only [e3, h0, h1, h2, h3]
  exact hx
theorem uxSF {M : sM} {o k : Nat} {v : Int} (hp : sIn zxSF o k = false) (h : xSF M) : xSF (sU M o k v) := cxSF (fun o' k' h' => sU_ne (fun z => by rw [z.1, z.2, hp] at h'; cases h')) h
def xSB (M : sM) : Prop := M 4 220 = 1 → 0 ≤ M 4 221 ∧ M 4 221 ≤ M 4 222 ∧ M 4 222 ≤ M 4 223 ∧ M 4 223 ≤ M 4 101 ∧ M 4 223 = (tEn (M 92) 48 57 (M 4 101).toNat (M 4 222).toNat : Int) ∧ M 4 223 = (tEn (M 92) 48 57 (M 4 101).toNat (M 4 221).toNat : Int) ∧ M 4 224 = tNu (M 92) (M 4 221).toNat (M 4 222 - M 4 221).toNat ∧ M 4 225 = tNu (M 92) (M 4 221).toNat (M 4 223 - M 4 221).toNat ∧ M 4 228 = tNr (M 92) (M 4 221).toNat (M 4 222 - M 4 221).toNat ∧ M 4 229 = tNr (M 92) (M 4 221).toNat (M 4 223 - M 4 221).toNat
def zxSB : sSt := [(4, 4, 220), (4, 4, 221), (4, 4, 222), (4, 4, 223), (4, 4, 224), (4, 4, 225), (4, 4, 228), (4, 4, 229), (4, 4, 101), (92, 92, 999)]
theorem cxSB {M M' : sM} (h : ∀ o k, sIn zxSB o k = true → M' o k = M o k) (hx : xSB M) : xSB M' := by
  have h0 : M' 4 220 = M 4 220 := h _ _ rfl
  have h1 : M' 4 221 = M 4 221 := h _ _ rfl
  have h2 : M' 4 222 = M 4 222 := h _ _ rfl
  have h3 : M' 4 223 = M 4 223 := h _ _ rfl
  have h4 : M' 4 224 = M 4 224 := h _ _ rfl
  have h5 : M' 4 225 = M 4 225 := h _ _ rfl
  have h6 : M' 4 228 = M 4 228 := h _ _ rfl
  have h7 : M' 4 229 = M 4 229 := h _ _ rfl
  have h8 : M' 4 101 = M 4 101 := h _ _ rfl
  have h9 : ∀ k, M' 92 k = M 92 k := fun k => h _ _ rfl
  have e9 : M' 92 = M 92 := funext h9
  unfold xSB at hx ⊢
  simp only [e9, h0, h1, h2, h3, h4, h5, h6, h7, h8, h9]
  exact hx
theorem uxSB {M : sM} {o k : Nat} {v : Int} (hp : sIn zxSB o k = false) (h : xSB M) : xSB (sU M o k v) := cxSB (fun o' k' h' => sU_ne (fun z => by rw [z.1, z.2, hp] at h'; cases h')) h
def xSC (M : sM) : Prop := M 4 226 = 1 → 0 ≤ M 4 227 ∧ M 4 227 ≤ 24 ∧ tKi (M 4 219) (M 4 227).toNat = tKi (M 4 219) 0
def zxSC : sSt := [(4, 4, 226), (4, 4, 227), (4, 4, 219)]
theorem cxSC {M M' : sM} (h : ∀ o k, sIn zxSC o k = true → M' o k = M o k) (hx : xSC M) : xSC M' := by
  have h0 : M' 4 226 = M 4 226 := h _ _ rfl
  have h1 : M' 4 227 = M 4 227 := h _ _ rfl
  have h2 : M' 4 219 = M 4 219 := h _ _ rfl
  unfold xSC at hx ⊢
  simp only [h0, h1, h2]
  exact hx
theorem uxSC {M : sM} {o k : Nat} {v : Int} (hp : sIn zxSC o k = false) (h : xSC M) : xSC (sU M o k v) := cxSC (fun o' k' h' => sU_ne (fun z => by rw [z.1, z.2, hp] at h'; cases h')) h
def xSD (M : sM) : Prop := M 91 240 = 1 → M 91 243 = xop 4 (M 91 241) (M 91 242) ∧ M 91 244 = xop 5 (M 91 246) (M 91 243) ∧ M 91 247 = xop 5 (M 91 243) (M 91 245)
def zxSD : sSt := [(91, 91, 240), (91, 91, 241), (91, 91, 242), (91, 91, 243), (91, 91, 244), (91, 91, 245), (91, 91, 246), (91, 91, 247)]
theorem cxSD {M M' : sM} (h : ∀ o k, sIn zxSD o k = true → M' o k = M o k) (hx : xSD M) : xSD M' := by
  have h0 : M' 91 240 = M 91 240 := h _ _ rfl
  have h1 : M' 91 241 = M 91 241 := h _ _ rfl
  have h2 : M' 91 242 = M 91 242 := h _ _ rfl
  have h3 : M' 91 243 = M 91 243 := h _ _ rfl
  have h4 : M' 91 244 = M 91 244 := h _ _ rfl
  have h5 : M' 91 245 = M 91 245 := h _ _ rfl
  have h6 : M' 91 246 = M 91 246 := h _ _ rfl
  have h7 : M' 91 247 = M 91 247 := h _ _ rfl
  unfold xSD at hx ⊢
  simp only [h0, h1, h2, h3, h4, h5, h6, h7]
  exact hx
theorem uxSD {M : sM} {o k : Nat} {v : Int} (hp : sIn zxSD o k = false) (h : xSD M) : xSD (sU M o k v) := cxSD (fun o' k' h' => sU_ne (fun z => by rw [z.1, z.2, hp] at h'; cases h')) h
def xSE (M : sM) : Prop := M 91 249 = 1 → M 91 252 = xop 0 (M 91 250) (M 91 251) ∧ M 91 253 = xop 1 (M 91 252) 1 ∧ M 91 256 = xop 1 (M 91 255) (M 91 243) ∧ M 91 257 = xop 1 (M 91 252) 255
def zxSE : sSt := [(91, 91, 249), (91, 91, 250), (91, 91, 251), (91, 91, 252), (91, 91, 253), (91, 91, 255), (91, 91, 256), (91, 91, 243), (91, 91, 257)]
theorem cxSE {M M' : sM} (h : ∀ o k, sIn zxSE o k = true → M' o k = M o k) (hx : xSE M) : xSE M' := by
  have h0 : M' 91 249 = M 91 249 := h _ _ rfl
  have h1 : M' 91 250 = M 91 250 := h _ _ rfl
  have h2 : M' 91 251 = M 91 251 := h _ _ rfl
  have h3 : M' 91 252 = M 91 252 := h _ _ rfl
  have h4 : M' 91 253 = M 91 253 := h _ _ rfl
  have h5 : M' 91 255 = M 91 255 := h _ _ rfl
  have h6 : M' 91 256 = M 91 256 := h _ _ rfl
  have h7 : M' 91 243 = M 91 243 := h _ _ rfl
  have h8 : M' 91 257 = M 91 257 := h _ _ rfl
  unfold xSE at hx ⊢
  simp only [h0, h1, h2, h3, h4, h5, h6, h7, h8]
  exact hx
theorem uxSE {M : sM} {o k : Nat} {v : Int} (hp : sIn zxSE o k = false) (h : xSE M) : xSE (sU M o k v) := cxSE (fun o' k' h' => sU_ne (fun z => by rw [z.1, z.2, hp] at h'; cases h')) h
def xSW (M : sM) : Prop := 0 ≤ M 4 276 ∧ (M 4 270, M 4 271) = xWs M (M 4 276).toNat ∧ (M 4 272, M 4 273) = xWs M ((M 4 276).toNat - 1) ∧ M 4 274 = xWn M (M 4 276).toNat ∧ (∀ i : Nat, (i : Int) < M 4 276 → xKo (M 55 i))
def zxSW : sSt := [(4, 4, 270), (4, 4, 271), (4, 4, 272), (4, 4, 273), (4, 4, 274), (4, 4, 276), (55, 55, 999)]
theorem cxSW {M M' : sM} (h : ∀ o k, sIn zxSW o k = true → M' o k = M o k) (hx : xSW M) : xSW M' := by
  have h0 : M' 4 270 = M 4 270 := h _ _ rfl
  have h1 : M' 4 271 = M 4 271 := h _ _ rfl
  have h2 : M' 4 272 = M 4 272 := h _ _ rfl
  have h3 : M' 4 273 = M 4 273 := h _ _ rfl
  have h4 : M' 4 274 = M 4 274 := h _ _ rfl
  have h5 : M' 4 276 = M 4 276 := h _ _ rfl
  have h6 : ∀ k, M' 55 k = M 55 k := fun k => h _ _ rfl
  unfold xSW at hx ⊢
  rw [h0, h1, h2, h3, h4, h5, xws_c h6, xws_c h6, xwn_c h6]
  exact ⟨hx.1, hx.2.1, hx.2.2.1, hx.2.2.2.1, fun i hi => by rw [h6]; exact hx.2.2.2.2 i hi⟩
theorem uxSW {M : sM} {o k : Nat} {v : Int} (hp : sIn zxSW o k = false) (h : xSW M) : xSW (sU M o k v) := cxSW (fun o' k' h' => sU_ne (fun z => by rw [z.1, z.2, hp] at h'; cases h')) h
def xST (M : sM) : Prop := ∀ i : Nat, (i : Int) < M 4 261 → M 1 i = tSn (M 92 i)
def zxST : sSt := [(4, 4, 261), (1, 1, 999), (92, 92, 999)]
theorem cxST {M M' : sM} (h : ∀ o k, sIn zxST o k = true → M' o k = M o k) (hx : xST M) : xST M' := by
  have h0 : M' 4 261 = M 4 261 := h _ _ rfl
  have h1 : ∀ k, M' 1 k = M 1 k := fun k => h _ _ rfl
  have h2 : ∀ k, M' 92 k = M 92 k := fun k => h _ _ rfl
  have e1 : M' 1 = M 1 := funext h1
  have e2 : M' 92 = M 92 := funext h2
  unfold xST at hx ⊢
  simp only [e1, e2, h0, h1, h2]
  exact hx
theorem uxST {M : sM} {o k : Nat} {v : Int} (hp : sIn zxST o k = false) (h : xST M) : xST (sU M o k v) := cxST (fun o' k' h' => sU_ne (fun z => by rw [z.1, z.2, hp] at h'; cases h')) h
def xSP (M : sM) : Prop := 0 ≤ M 4 263 ∧ (∀ j : Nat, j < 20 → (j : Int) < M 4 262 → M 1 ((M 4 263).toNat + j) = tSn (tBy (M 4 (265 + j / 4)) j)) ∧ (∀ j : Nat, j < 20 → (j : Int) < M 4 264 → M 92 ((M 4 263).toNat + j) = tBy (M 4 (265 + j / 4)) j)
def zxSP : sSt := [(4, 4, 262), (4, 4, 263), (4, 4, 264), (4, 4, 265), (4, 4, 266), (4, 4, 267), (4, 4, 268), (4, 4, 269), (1, 1, 999), (92, 92, 999)]
theorem cxSP {M M' : sM} (h : ∀ o k, sIn zxSP o k = true → M' o k = M o k) (hx : xSP M) : xSP M' := by
  have h0 : M' 4 262 = M 4 262 := h _ _ rfl
  have h1 : M' 4 263 = M 4 263 := h _ _ rfl
  have h2 : M' 4 264 = M 4 264 := h _ _ rfl
  have h3 : M' 4 265 = M 4 265 := h _ _ rfl
  have h4 : M' 4 266 = M 4 266 := h _ _ rfl
  have h5 : M' 4 267 = M 4 267 := h _ _ rfl
  have h6 : M' 4 268 = M 4 268 := h _ _ rfl
  have h7 : M' 4 269 = M 4 269 := h _ _ rfl
  have h8 : ∀ k, M' 1 k = M 1 k := fun k => h _ _ rfl
  have h9 : ∀ k, M' 92 k = M 92 k := fun k => h _ _ rfl
  have e1 : M' 1 = M 1 := funext h8
  have e92 : M' 92 = M 92 := funext h9
  have hq : ∀ j : Nat, j < 20 → M' 4 (265 + j / 4) = M 4 (265 + j / 4) := fun j hj => by
    have e : j / 4 = 0 ∨ j / 4 = 1 ∨ j / 4 = 2 ∨ j / 4 = 3 ∨ j / 4 = 4 := by omega
    rcases e with e | e | e | e | e <;> rw [e]
    · exact h3
    · exact h4
    · exact h5
    · exact h6
    · exact h7
  unfold xSP at hx ⊢
  rw [h0, h1, h2, e1, e92]
  obtain ⟨a0, a1, a2⟩ := hx
  exact ⟨a0, fun j hj ht => by rw [hq j hj]; exact a1 j hj ht, fun j hj ht => by rw [hq j hj]; exact a2 j hj ht⟩
theorem uxSP {M : sM} {o k : Nat} {v : Int} (hp : sIn zxSP o k = false) (h : xSP M) : xSP (sU M o k v) := cxSP (fun o' k' h' => sU_ne (fun z => by rw [z.1, z.2, hp] at h'; cases h')) h
def xSL (M : sM) : Prop := ∀ w : Nat, w < 24 → tLa[w]? = some (M 57 w)
def zxSL : sSt := [(57, 57, 999)]
theorem cxSL {M M' : sM} (h : ∀ o k, sIn zxSL o k = true → M' o k = M o k) (hx : xSL M) : xSL M' := by
  have h0 : ∀ k, M' 57 k = M 57 k := fun k => h _ _ rfl
  have e0 : M' 57 = M 57 := funext h0
  unfold xSL at hx ⊢
  simp only [e0, h0]
  exact hx
theorem uxSL {M : sM} {o k : Nat} {v : Int} (hp : sIn zxSL o k = false) (h : xSL M) : xSL (sU M o k v) := cxSL (fun o' k' h' => sU_ne (fun z => by rw [z.1, z.2, hp] at h'; cases h')) h
def xSM (M : sM) : Prop := M 4 283 = 1 → M 4 282 = xop 5 (M 4 280) (xop 4 1 (M 4 281))
def zxSM : sSt := [(4, 4, 280), (4, 4, 281), (4, 4, 282), (4, 4, 283)]
theorem cxSM {M M' : sM} (h : ∀ o k, sIn zxSM o k = true → M' o k = M o k) (hx : xSM M) : xSM M' := by
  have h0 : M' 4 280 = M 4 280 := h _ _ rfl
  have h1 : M' 4 281 = M 4 281 := h _ _ rfl
  have h2 : M' 4 282 = M 4 282 := h _ _ rfl
  have h3 : M' 4 283 = M 4 283 := h _ _ rfl
  unfold xSM at hx ⊢
  simp only [h0, h1, h2, h3]
  exact hx
theorem uxSM {M : sM} {o k : Nat} {v : Int} (hp : sIn zxSM o k = false) (h : xSM M) : xSM (sU M o k v) := cxSM (fun o' k' h' => sU_ne (fun z => by rw [z.1, z.2, hp] at h'; cases h')) h
def xSI (M : sM) : Prop := M 91 259 = 1 → M 91 258 = (Int32.ofInt (M 91 248)).toInt8.toInt32.toInt
def zxSI : sSt := [(91, 91, 259), (91, 91, 258), (91, 91, 248)]
theorem cxSI {M M' : sM} (h : ∀ o k, sIn zxSI o k = true → M' o k = M o k) (hx : xSI M) : xSI M' := by
  have h0 : M' 91 259 = M 91 259 := h _ _ rfl
  have h1 : M' 91 258 = M 91 258 := h _ _ rfl
  have h2 : M' 91 248 = M 91 248 := h _ _ rfl
  unfold xSI at hx ⊢
  simp only [h0, h1, h2]
  exact hx
theorem uxSI {M : sM} {o k : Nat} {v : Int} (hp : sIn zxSI o k = false) (h : xSI M) : xSI (sU M o k v) := cxSI (fun o' k' h' => sU_ne (fun z => by rw [z.1, z.2, hp] at h'; cases h')) h
def xY1 (M : sM) : Prop := M 91 993 = (if M 93 0 < 2 then 2 else M 93 0)
def zxY1 : sSt := [(91, 91, 993), (93, 93, 0)]
theorem cxY1 {M M' : sM} (h : ∀ o k, sIn zxY1 o k = true → M' o k = M o k) (hx : xY1 M) : xY1 M' := by
  have h0 : M' 91 993 = M 91 993 := h _ _ rfl
  have h1 : M' 93 0 = M 93 0 := h _ _ rfl
  unfold xY1 at hx ⊢
  simp only [h0, h1]
  exact hx
theorem uxY1 {M : sM} {o k : Nat} {v : Int} (hp : sIn zxY1 o k = false) (h : xY1 M) : xY1 (sU M o k v) := cxY1 (fun o' k' h' => sU_ne (fun z => by rw [z.1, z.2, hp] at h'; cases h')) h
def xY2 (M : sM) : Prop := M 91 991 = 1 → ∀ i : Nat, i < 23 → xV M i → (i : Int) ≠ M 91 992 → xB M i
def zxY2 : sSt := [(91, 91, 991), (91, 91, 992), (91, 91, 984), (91, 91, 993), (91, 91, 45), (91, 91, 46), (113, 113, 999), (114, 114, 999)]
theorem cxY2 {M M' : sM} (h : ∀ o k, sIn zxY2 o k = true → M' o k = M o k) (hx : xY2 M) : xY2 M' := by
  have h0 : M' 91 991 = M 91 991 := h _ _ rfl
  have h1 : M' 91 992 = M 91 992 := h _ _ rfl
  have h2 : M' 91 984 = M 91 984 := h _ _ rfl
  have h3 : M' 91 993 = M 91 993 := h _ _ rfl
  have h4 : M' 91 45 = M 91 45 := h _ _ rfl
  have h5 : M' 91 46 = M 91 46 := h _ _ rfl
  have h6 : ∀ k, M' 113 k = M 113 k := fun k => h _ _ rfl
  have h7 : ∀ k, M' 114 k = M 114 k := fun k => h _ _ rfl
  unfold xY2 xV xB at hx ⊢
  simp only [h0, h1, h2, h3, h4, h5, h6, h7]
  exact hx
theorem uxY2 {M : sM} {o k : Nat} {v : Int} (hp : sIn zxY2 o k = false) (h : xY2 M) : xY2 (sU M o k v) := cxY2 (fun o' k' h' => sU_ne (fun z => by rw [z.1, z.2, hp] at h'; cases h')) h
def xY3 (M : sM) : Prop := ∀ i : Nat, i < 23 → (i : Int) = M 91 984 → (i : Int) ≠ M 91 992 → M 91 985 = M 113 i ∧ M 91 986 = M 114 i
def zxY3 : sSt := [(91, 91, 984), (91, 91, 985), (91, 91, 986), (91, 91, 992), (113, 113, 999), (114, 114, 999)]
theorem cxY3 {M M' : sM} (h : ∀ o k, sIn zxY3 o k = true → M' o k = M o k) (hx : xY3 M) : xY3 M' := by
  have h0 : M' 91 984 = M 91 984 := h _ _ rfl
  have h1 : M' 91 985 = M 91 985 := h _ _ rfl
  have h2 : M' 91 986 = M 91 986 := h _ _ rfl
  have h3 : M' 91 992 = M 91 992 := h _ _ rfl
  have h4 : ∀ k, M' 113 k = M 113 k := fun k => h _ _ rfl
  have h5 : ∀ k, M' 114 k = M 114 k := fun k => h _ _ rfl
  unfold xY3 at hx ⊢
  simp only [h0, h1, h2, h3, h4, h5]
  exact hx
theorem uxY3 {M : sM} {o k : Nat} {v : Int} (hp : sIn zxY3 o k = false) (h : xY3 M) : xY3 (sU M o k v) := cxY3 (fun o' k' h' => sU_ne (fun z => by rw [z.1, z.2, hp] at h'; cases h')) h
def xZ1 (M : sM) : Prop := 0 ≤ M 91 970 ∧ M 91 970 ≤ M 93 17 ∧ xkO M (64 + (M 91 970).toNat) ((M 93 17).toNat - (M 91 970).toNat) ∧ M 91 971 = xkD M (64 + (M 91 970).toNat) ((M 93 17).toNat - (M 91 970).toNat)
def zxZ1 : sSt := [(91, 91, 970), (91, 91, 971), (93, 93, 17), (110, 110, 999), (111, 111, 999)]
theorem cxZ1 {M M' : sM} (h : ∀ o k, sIn zxZ1 o k = true → M' o k = M o k) (hx : xZ1 M) : xZ1 M' := by
  have h0 : M' 91 970 = M 91 970 := h _ _ rfl
  have h1 : M' 91 971 = M 91 971 := h _ _ rfl
  have h2 : M' 93 17 = M 93 17 := h _ _ rfl
  have h3 : ∀ k, M' 110 k = M 110 k := fun k => h _ _ rfl
  have h4 : ∀ k, M' 111 k = M 111 k := fun k => h _ _ rfl
  have hd : ∀ f n, xkD M' f n = xkD M f n := fun f n => dp_congr (fun k _ _ => ⟨h3 k, h4 k⟩)
  have ho : ∀ f n, xkO M f n → xkO M' f n := fun f n => ol_congr (fun k _ _ => ⟨h3 k, h4 k⟩)
  unfold xZ1 at hx ⊢
  simp only [h0, h1, h2, hd]
  exact ⟨hx.1, hx.2.1, ho _ _ hx.2.2.1, hx.2.2.2⟩
theorem uxZ1 {M : sM} {o k : Nat} {v : Int} (hp : sIn zxZ1 o k = false) (h : xZ1 M) : xZ1 (sU M o k v) := cxZ1 (fun o' k' h' => sU_ne (fun z => by rw [z.1, z.2, hp] at h'; cases h')) h
def xZ2 (M : sM) : Prop := M 91 972 = M 110 (64 + (M 93 17).toNat) ∧ M 91 973 = M 111 (64 + (M 93 17).toNat) ∧ M 91 987 = xkE (M 91 972) (M 91 973) ∧ M 91 988 = xkN (M 91 972) (M 91 973) ∧ (M 91 989 = 1 → xkV (M 91 972) (M 91 973))
def zxZ2 : sSt := [(91, 91, 972), (91, 91, 973), (91, 91, 987), (91, 91, 988), (91, 91, 989), (93, 93, 17), (110, 110, 999), (111, 111, 999)]
theorem cxZ2 {M M' : sM} (h : ∀ o k, sIn zxZ2 o k = true → M' o k = M o k) (hx : xZ2 M) : xZ2 M' := by
  have h0 : M' 91 972 = M 91 972 := h _ _ rfl
  have h1 : M' 91 973 = M 91 973 := h _ _ rfl
  have h2 : M' 91 987 = M 91 987 := h _ _ rfl
  have h3 : M' 91 988 = M 91 988 := h _ _ rfl
  have h4 : M' 91 989 = M 91 989 := h _ _ rfl
  have h5 : M' 93 17 = M 93 17 := h _ _ rfl
  have h6 : ∀ k, M' 110 k = M 110 k := fun k => h _ _ rfl
  have h7 : ∀ k, M' 111 k = M 111 k := fun k => h _ _ rfl
  unfold xZ2 at hx ⊢
  simp only [h0, h1, h2, h3, h4, h5, h6, h7]
  exact hx
theorem uxZ2 {M : sM} {o k : Nat} {v : Int} (hp : sIn zxZ2 o k = false) (h : xZ2 M) : xZ2 (sU M o k v) := cxZ2 (fun o' k' h' => sU_ne (fun z => by rw [z.1, z.2, hp] at h'; cases h')) h
def xZ3 (M : sM) : Prop := M 91 974 = 1 → ∀ k : Nat, 2 ≤ k → k < 4 → M 109 k ≤ M 93 17 ∧ xkO M (64 + (M 108 k).toNat) ((M 109 k).toNat - (M 108 k).toNat)
def zxZ3 : sSt := [(91, 91, 974), (93, 93, 17), (108, 108, 999), (109, 109, 999), (110, 110, 999), (111, 111, 999)]
theorem cxZ3 {M M' : sM} (h : ∀ o k, sIn zxZ3 o k = true → M' o k = M o k) (hx : xZ3 M) : xZ3 M' := by
  have h0 : M' 91 974 = M 91 974 := h _ _ rfl
  have h1 : M' 93 17 = M 93 17 := h _ _ rfl
  have h2 : ∀ k, M' 108 k = M 108 k := fun k => h _ _ rfl
  have h3 : ∀ k, M' 109 k = M 109 k := fun k => h _ _ rfl
  have h4 : ∀ k, M' 110 k = M 110 k := fun k => h _ _ rfl
  have h5 : ∀ k, M' 111 k = M 111 k := fun k => h _ _ rfl
  have hd : ∀ f n, xkD M' f n = xkD M f n := fun f n => dp_congr (fun k _ _ => ⟨h4 k, h5 k⟩)
  have ho : ∀ f n, xkO M f n → xkO M' f n := fun f n => ol_congr (fun k _ _ => ⟨h4 k, h5 k⟩)
  unfold xZ3 at hx ⊢
  simp only [h0, h1, h2, h3, hd]
  exact fun a k b c => ⟨(hx a k b c).1, ho _ _ (hx a k b c).2⟩
theorem uxZ3 {M : sM} {o k : Nat} {v : Int} (hp : sIn zxZ3 o k = false) (h : xZ3 M) : xZ3 (sU M o k v) := cxZ3 (fun o' k' h' => sU_ne (fun z => by rw [z.1, z.2, hp] at h'; cases h')) h
def xZ4 (M : sM) : Prop := M 91 975 = 1 → ∀ k : Nat, k < 2 → xkO M (M 108 k).toNat ((M 109 k).toNat - (M 108 k).toNat)
def zxZ4 : sSt := [(91, 91, 975), (108, 108, 999), (109, 109, 999), (110, 110, 999), (111, 111, 999)]
theorem cxZ4 {M M' : sM} (h : ∀ o k, sIn zxZ4 o k = true → M' o k = M o k) (hx : xZ4 M) : xZ4 M' := by
  have h0 : M' 91 975 = M 91 975 := h _ _ rfl
  have h1 : ∀ k, M' 108 k = M 108 k := fun k => h _ _ rfl
  have h2 : ∀ k, M' 109 k = M 109 k := fun k => h _ _ rfl
  have h3 : ∀ k, M' 110 k = M 110 k := fun k => h _ _ rfl
  have h4 : ∀ k, M' 111 k = M 111 k := fun k => h _ _ rfl
  have hd : ∀ f n, xkD M' f n = xkD M f n := fun f n => dp_congr (fun k _ _ => ⟨h3 k, h4 k⟩)
  have ho : ∀ f n, xkO M f n → xkO M' f n := fun f n => ol_congr (fun k _ _ => ⟨h3 k, h4 k⟩)
  unfold xZ4 at hx ⊢
  simp only [h0, h1, h2, hd]
  exact fun a k b => ho _ _ (hx a k b)
theorem uxZ4 {M : sM} {o k : Nat} {v : Int} (hp : sIn zxZ4 o k = false) (h : xZ4 M) : xZ4 (sU M o k v) := cxZ4 (fun o' k' h' => sU_ne (fun z => by rw [z.1, z.2, hp] at h'; cases h')) h
def xZ5 (M : sM) : Prop := ∀ j : Nat, (j : Int) < M 91 976 → M 108 j = M 108 (2 + j)
def zxZ5 : sSt := [(91, 91, 976), (108, 108, 999)]
theorem cxZ5 {M M' : sM} (h : ∀ o k, sIn zxZ5 o k = true → M' o k = M o k) (hx : xZ5 M) : xZ5 M' := by
  have h0 : M' 91 976 = M 91 976 := h _ _ rfl
  have h1 : ∀ k, M' 108 k = M 108 k := fun k => h _ _ rfl
  unfold xZ5 at hx ⊢
  simp only [h0, h1]
  exact hx
theorem uxZ5 {M : sM} {o k : Nat} {v : Int} (hp : sIn zxZ5 o k = false) (h : xZ5 M) : xZ5 (sU M o k v) := cxZ5 (fun o' k' h' => sU_ne (fun z => by rw [z.1, z.2, hp] at h'; cases h')) h
def xZ6 (M : sM) : Prop := ∀ j : Nat, (j : Int) < M 91 977 → M 109 j = M 109 (2 + j)
def zxZ6 : sSt := [(91, 91, 977), (109, 109, 999)]
theorem cxZ6 {M M' : sM} (h : ∀ o k, sIn zxZ6 o k = true → M' o k = M o k) (hx : xZ6 M) : xZ6 M' := by
  have h0 : M' 91 977 = M 91 977 := h _ _ rfl
  have h1 : ∀ k, M' 109 k = M 109 k := fun k => h _ _ rfl
  unfold xZ6 at hx ⊢
  simp only [h0, h1]
  exact hx
theorem uxZ6 {M : sM} {o k : Nat} {v : Int} (hp : sIn zxZ6 o k = false) (h : xZ6 M) : xZ6 (sU M o k v) := cxZ6 (fun o' k' h' => sU_ne (fun z => by rw [z.1, z.2, hp] at h'; cases h')) h
def xZ7 (M : sM) : Prop := ∀ j : Nat, (j : Int) < M 91 978 → M 110 j = M 110 (64 + j)
def zxZ7 : sSt := [(91, 91, 978), (110, 110, 999)]
theorem cxZ7 {M M' : sM} (h : ∀ o k, sIn zxZ7 o k = true → M' o k = M o k) (hx : xZ7 M) : xZ7 M' := by
  have h0 : M' 91 978 = M 91 978 := h _ _ rfl
  have h1 : ∀ k, M' 110 k = M 110 k := fun k => h _ _ rfl
  unfold xZ7 at hx ⊢
  simp only [h0, h1]
  exact hx
theorem uxZ7 {M : sM} {o k : Nat} {v : Int} (hp : sIn zxZ7 o k = false) (h : xZ7 M) : xZ7 (sU M o k v) := cxZ7 (fun o' k' h' => sU_ne (fun z => by rw [z.1, z.2, hp] at h'; cases h')) h
def xZ8 (M : sM) : Prop := ∀ j : Nat, (j : Int) < M 91 979 → M 111 j = M 111 (64 + j)
def zxZ8 : sSt := [(91, 91, 979), (111, 111, 999)]
theorem cxZ8 {M M' : sM} (h : ∀ o k, sIn zxZ8 o k = true → M' o k = M o k) (hx : xZ8 M) : xZ8 M' := by
  have h0 : M' 91 979 = M 91 979 := h _ _ rfl
  have h1 : ∀ k, M' 111 k = M 111 k := fun k => h _ _ rfl
  unfold xZ8 at hx ⊢
  simp only [h0, h1]
  exact hx
theorem uxZ8 {M : sM} {o k : Nat} {v : Int} (hp : sIn zxZ8 o k = false) (h : xZ8 M) : xZ8 (sU M o k v) := cxZ8 (fun o' k' h' => sU_ne (fun z => by rw [z.1, z.2, hp] at h'; cases h')) h
def xZ9 (M : sM) : Prop := M 91 964 = 1 → 0 ≤ M 91 980 ∧ M 91 980 ≤ M 91 981 ∧ M 91 982 = xkD M (M 91 980).toNat ((M 91 981).toNat - (M 91 980).toNat)
def zxZ9 : sSt := [(91, 91, 964), (91, 91, 980), (91, 91, 981), (91, 91, 982), (110, 110, 999), (111, 111, 999)]
theorem cxZ9 {M M' : sM} (h : ∀ o k, sIn zxZ9 o k = true → M' o k = M o k) (hx : xZ9 M) : xZ9 M' := by
  have h0 : M' 91 964 = M 91 964 := h _ _ rfl
  have h1 : M' 91 980 = M 91 980 := h _ _ rfl
  have h2 : M' 91 981 = M 91 981 := h _ _ rfl
  have h3 : M' 91 982 = M 91 982 := h _ _ rfl
  have h4 : ∀ k, M' 110 k = M 110 k := fun k => h _ _ rfl
  have h5 : ∀ k, M' 111 k = M 111 k := fun k => h _ _ rfl
  have hd : ∀ f n, xkD M' f n = xkD M f n := fun f n => dp_congr (fun k _ _ => ⟨h4 k, h5 k⟩)
  have ho : ∀ f n, xkO M f n → xkO M' f n := fun f n => ol_congr (fun k _ _ => ⟨h4 k, h5 k⟩)
  unfold xZ9 at hx ⊢
  simp only [h0, h1, h2, h3, hd]
  exact hx
theorem uxZ9 {M : sM} {o k : Nat} {v : Int} (hp : sIn zxZ9 o k = false) (h : xZ9 M) : xZ9 (sU M o k v) := cxZ9 (fun o' k' h' => sU_ne (fun z => by rw [z.1, z.2, hp] at h'; cases h')) h
def xZa (M : sM) : Prop := M 91 964 = 1 → M 91 960 = M 110 (M 91 981).toNat ∧ M 91 961 = M 111 (M 91 981).toNat ∧ M 91 962 = xkN (M 91 960) (M 91 961) ∧ M 91 963 = xkE (M 91 960) (M 91 961)
def zxZa : sSt := [(91, 91, 964), (91, 91, 981), (91, 91, 960), (91, 91, 961), (91, 91, 962), (91, 91, 963), (110, 110, 999), (111, 111, 999)]
theorem cxZa {M M' : sM} (h : ∀ o k, sIn zxZa o k = true → M' o k = M o k) (hx : xZa M) : xZa M' := by
  have h0 : M' 91 964 = M 91 964 := h _ _ rfl
  have h1 : M' 91 981 = M 91 981 := h _ _ rfl
  have h2 : M' 91 960 = M 91 960 := h _ _ rfl
  have h3 : M' 91 961 = M 91 961 := h _ _ rfl
  have h4 : M' 91 962 = M 91 962 := h _ _ rfl
  have h5 : M' 91 963 = M 91 963 := h _ _ rfl
  have h6 : ∀ k, M' 110 k = M 110 k := fun k => h _ _ rfl
  have h7 : ∀ k, M' 111 k = M 111 k := fun k => h _ _ rfl
  unfold xZa at hx ⊢
  simp only [h0, h1, h2, h3, h4, h5, h6, h7]
  exact hx
theorem uxZa {M : sM} {o k : Nat} {v : Int} (hp : sIn zxZa o k = false) (h : xZa M) : xZa (sU M o k v) := cxZa (fun o' k' h' => sU_ne (fun z => by rw [z.1, z.2, hp] at h'; cases h')) h
def xZb (M : sM) : Prop := 2 ≤ M 91 983 → M 91 983 ≤ 3 → M 108 (M 91 983).toNat = M 91 970
def zxZb : sSt := [(91, 91, 983), (91, 91, 970), (108, 108, 999)]
theorem cxZb {M M' : sM} (h : ∀ o k, sIn zxZb o k = true → M' o k = M o k) (hx : xZb M) : xZb M' := by
  have h0 : M' 91 983 = M 91 983 := h _ _ rfl
  have h1 : M' 91 970 = M 91 970 := h _ _ rfl
  have h2 : ∀ k, M' 108 k = M 108 k := fun k => h _ _ rfl
  unfold xZb at hx ⊢
  simp only [h0, h1, h2]
  exact hx
theorem uxZb {M : sM} {o k : Nat} {v : Int} (hp : sIn zxZb o k = false) (h : xZb M) : xZb (sU M o k v) := cxZb (fun o' k' h' => sU_ne (fun z => by rw [z.1, z.2, hp] at h'; cases h')) h
def xT1 (M : sM) : Prop := M 91 995 = 1 → (M 91 29 = 0 → M 91 30 ≤ 23) ∧ (M 91 29 = 3 → M 91 30 ≤ 258)
def zxT1 : sSt := [(91, 91, 995), (91, 91, 29), (91, 91, 30)]
theorem cxT1 {M M' : sM} (h : ∀ o k, sIn zxT1 o k = true → M' o k = M o k) (hx : xT1 M) : xT1 M' := by
  have h0 : M' 91 995 = M 91 995 := h _ _ rfl
  have h1 : M' 91 29 = M 91 29 := h _ _ rfl
  have h2 : M' 91 30 = M 91 30 := h _ _ rfl
  unfold xT1 at hx ⊢
  simp only [h0, h1, h2]
  exact hx
theorem uxT1 {M : sM} {o k : Nat} {v : Int} (hp : sIn zxT1 o k = false) (h : xT1 M) : xT1 (sU M o k v) := cxT1 (fun o' k' h' => sU_ne (fun z => by rw [z.1, z.2, hp] at h'; cases h')) h
def xN1 (M : sM) : Prop := M 91 949 = 1 → 0 ≤ M 91 951 ∧ M 91 952 = xop 0 (M 91 950) (M 91 951) ∧ M 91 953 = xop 1 (M 91 952) 1 ∧ M 91 954 = xpS M (M 91 950) (M 91 951).toNat ∧ M 91 955 = xpS M (M 91 950) (M 93 1).toNat
def zxN1 : sSt := [(91, 91, 949), (91, 91, 950), (91, 91, 951), (91, 91, 952), (91, 91, 953), (91, 91, 954), (91, 91, 955), (93, 93, 1), (101, 101, 999)]
theorem cxN1 {M M' : sM} (h : ∀ o k, sIn zxN1 o k = true → M' o k = M o k) (hx : xN1 M) : xN1 M' := by
  have h0 : M' 91 949 = M 91 949 := h _ _ rfl
  have h1 : M' 91 950 = M 91 950 := h _ _ rfl
  have h2 : M' 91 951 = M 91 951 := h _ _ rfl
  have h3 : M' 91 952 = M 91 952 := h _ _ rfl
  have h4 : M' 91 953 = M 91 953 := h _ _ rfl
  have h5 : M' 91 954 = M 91 954 := h _ _ rfl
  have h6 : M' 91 955 = M 91 955 := h _ _ rfl
  have h7 : M' 93 1 = M 93 1 := h _ _ rfl
  have h8 : ∀ k, M' 101 k = M 101 k := fun k => h _ _ rfl
  unfold xN1 at hx ⊢
  simp only [h0, h1, h2, h3, h4, h5, h6, h7, xps_c h8]
  exact hx
theorem uxN1 {M : sM} {o k : Nat} {v : Int} (hp : sIn zxN1 o k = false) (h : xN1 M) : xN1 (sU M o k v) := cxN1 (fun o' k' h' => sU_ne (fun z => by rw [z.1, z.2, hp] at h'; cases h')) h
def xN2 (M : sM) : Prop := M 91 930 = 1 → 0 ≤ M 91 934 ∧ M 91 935 = xop 0 (M 91 931) (2 * M 91 934) ∧ M 91 936 = xop 1 (M 91 935) 3 ∧ M 91 925 = M 122 (72 * M 91 932 + 24 * M 91 934 + M 91 933).toNat ∧ M 91 937 = xop 2 (M 91 936) (M 91 925) ∧ M 91 938 = xbB M (M 91 931) (M 91 932) (M 91 933) (M 91 934).toNat ∧ M 91 939 = xbB M (M 91 931) (M 91 932) (M 91 933) (M 93 2).toNat
def zxN2 : sSt := [(91, 91, 930), (91, 91, 931), (91, 91, 932), (91, 91, 933), (91, 91, 934), (91, 91, 935), (91, 91, 936), (91, 91, 925), (91, 91, 937), (91, 91, 938), (91, 91, 939), (93, 93, 2), (122, 122, 999)]
theorem cxN2 {M M' : sM} (h : ∀ o k, sIn zxN2 o k = true → M' o k = M o k) (hx : xN2 M) : xN2 M' := by
  have h0 : M' 91 930 = M 91 930 := h _ _ rfl
  have h1 : M' 91 931 = M 91 931 := h _ _ rfl
  have h2 : M' 91 932 = M 91 932 := h _ _ rfl
  have h3 : M' 91 933 = M 91 933 := h _ _ rfl
  have h4 : M' 91 934 = M 91 934 := h _ _ rfl
  have h5 : M' 91 935 = M 91 935 := h _ _ rfl
  have h6 : M' 91 936 = M 91 936 := h _ _ rfl
  have h7 : M' 91 925 = M 91 925 := h _ _ rfl
  have h8 : M' 91 937 = M 91 937 := h _ _ rfl
  have h9 : M' 91 938 = M 91 938 := h _ _ rfl
  have h10 : M' 91 939 = M 91 939 := h _ _ rfl
  have h11 : M' 93 2 = M 93 2 := h _ _ rfl
  have h12 : ∀ k, M' 122 k = M 122 k := fun k => h _ _ rfl
  unfold xN2 at hx ⊢
  simp only [h0, h1, h2, h3, h4, h5, h6, h7, h8, h9, h10, h11, h12, xbb_c h12]
  exact hx
theorem uxN2 {M : sM} {o k : Nat} {v : Int} (hp : sIn zxN2 o k = false) (h : xN2 M) : xN2 (sU M o k v) := cxN2 (fun o' k' h' => sU_ne (fun z => by rw [z.1, z.2, hp] at h'; cases h')) h
def xN3 (M : sM) : Prop := M 91 928 = 1 → M 91 929 = xop 2 (M 91 927) (M 93 6)
def zxN3 : sSt := [(91, 91, 928), (91, 91, 929), (91, 91, 927), (93, 93, 6)]
theorem cxN3 {M M' : sM} (h : ∀ o k, sIn zxN3 o k = true → M' o k = M o k) (hx : xN3 M) : xN3 M' := by
  have h0 : M' 91 928 = M 91 928 := h _ _ rfl
  have h1 : M' 91 929 = M 91 929 := h _ _ rfl
  have h2 : M' 91 927 = M 91 927 := h _ _ rfl
  have h3 : M' 93 6 = M 93 6 := h _ _ rfl
  unfold xN3 at hx ⊢
  simp only [h0, h1, h2, h3]
  exact hx
theorem uxN3 {M : sM} {o k : Nat} {v : Int} (hp : sIn zxN3 o k = false) (h : xN3 M) : xN3 (sU M o k v) := cxN3 (fun o' k' h' => sU_ne (fun z => by rw [z.1, z.2, hp] at h'; cases h')) h
def xN4 (M : sM) : Prop := M 91 915 = 1 → M 91 917 = xop 3 (M 91 916) 24
def zxN4 : sSt := [(91, 91, 915), (91, 91, 916), (91, 91, 917)]
theorem cxN4 {M M' : sM} (h : ∀ o k, sIn zxN4 o k = true → M' o k = M o k) (hx : xN4 M) : xN4 M' := by
  have h0 : M' 91 915 = M 91 915 := h _ _ rfl
  have h1 : M' 91 916 = M 91 916 := h _ _ rfl
  have h2 : M' 91 917 = M 91 917 := h _ _ rfl
  unfold xN4 at hx ⊢
  simp only [h0, h1, h2]
  exact hx
theorem uxN4 {M : sM} {o k : Nat} {v : Int} (hp : sIn zxN4 o k = false) (h : xN4 M) : xN4 (sU M o k v) := cxN4 (fun o' k' h' => sU_ne (fun z => by rw [z.1, z.2, hp] at h'; cases h')) h
def xN5 (M : sM) : Prop := M 91 907 = 1 → M 91 906 = xop 3 (M 91 908) 24
def zxN5 : sSt := [(91, 91, 907), (91, 91, 906), (91, 91, 908)]
theorem cxN5 {M M' : sM} (h : ∀ o k, sIn zxN5 o k = true → M' o k = M o k) (hx : xN5 M) : xN5 M' := by
  have h0 : M' 91 907 = M 91 907 := h _ _ rfl
  have h1 : M' 91 906 = M 91 906 := h _ _ rfl
  have h2 : M' 91 908 = M 91 908 := h _ _ rfl
  unfold xN5 at hx ⊢
  simp only [h0, h1, h2]
  exact hx
theorem uxN5 {M : sM} {o k : Nat} {v : Int} (hp : sIn zxN5 o k = false) (h : xN5 M) : xN5 (sU M o k v) := cxN5 (fun o' k' h' => sU_ne (fun z => by rw [z.1, z.2, hp] at h'; cases h')) h
def xN6 (M : sM) : Prop := M 91 876 = 1 → M 91 879 = xlt (M 91 877) (M 91 878)
def zxN6 : sSt := [(91, 91, 876), (91, 91, 877), (91, 91, 878), (91, 91, 879)]
theorem cxN6 {M M' : sM} (h : ∀ o k, sIn zxN6 o k = true → M' o k = M o k) (hx : xN6 M) : xN6 M' := by
  have h0 : M' 91 876 = M 91 876 := h _ _ rfl
  have h1 : M' 91 877 = M 91 877 := h _ _ rfl
  have h2 : M' 91 878 = M 91 878 := h _ _ rfl
  have h3 : M' 91 879 = M 91 879 := h _ _ rfl
  unfold xN6 at hx ⊢
  simp only [h0, h1, h2, h3]
  exact hx
theorem uxN6 {M : sM} {o k : Nat} {v : Int} (hp : sIn zxN6 o k = false) (h : xN6 M) : xN6 (sU M o k v) := cxN6 (fun o' k' h' => sU_ne (fun z => by rw [z.1, z.2, hp] at h'; cases h')) h
def xH1 (M : sM) : Prop := M 91 919 = 1 → M 91 920 = xhV M (M 91 921) (M 91 922) (M 91 923)
def zxH1 : sSt := [(91, 91, 919), (91, 91, 920), (91, 91, 921), (91, 91, 922), (91, 91, 923), (93, 93, 1), (93, 93, 2), (93, 93, 4), (93, 93, 6), (101, 101, 999), (122, 122, 999), (115, 115, 0), (116, 116, 0)]
theorem cxH1 {M M' : sM} (h : ∀ o k, sIn zxH1 o k = true → M' o k = M o k) (hx : xH1 M) : xH1 M' := by
  have h0 : M' 91 919 = M 91 919 := h _ _ rfl
  have h1 : M' 91 920 = M 91 920 := h _ _ rfl
  have h2 : M' 91 921 = M 91 921 := h _ _ rfl
  have h3 : M' 91 922 = M 91 922 := h _ _ rfl
  have h4 : M' 91 923 = M 91 923 := h _ _ rfl
  have h5 : M' 93 1 = M 93 1 := h _ _ rfl
  have h6 : M' 93 2 = M 93 2 := h _ _ rfl
  have h7 : M' 93 4 = M 93 4 := h _ _ rfl
  have h8 : M' 93 6 = M 93 6 := h _ _ rfl
  have h9 : ∀ k, M' 101 k = M 101 k := fun k => h _ _ rfl
  have h10 : ∀ k, M' 122 k = M 122 k := fun k => h _ _ rfl
  have h11 : M' 115 0 = M 115 0 := h _ _ rfl
  have h12 : M' 116 0 = M 116 0 := h _ _ rfl
  unfold xH1 at hx ⊢
  simp only [h0, h1, h2, h3, h4, xhv_c h5 h6 h7 h8 h9 h10 h11 h12]
  exact hx
theorem uxH1 {M : sM} {o k : Nat} {v : Int} (hp : sIn zxH1 o k = false) (h : xH1 M) : xH1 (sU M o k v) := cxH1 (fun o' k' h' => sU_ne (fun z => by rw [z.1, z.2, hp] at h'; cases h')) h
def xK1 (M : sM) : Prop := M 91 909 = 1 → M 91 910 = xcO M (M 91 911) (M 91 912) (M 91 913) ∧ (M 91 914 = 1 → xhV M (M 91 911) (M 91 912) (M 91 913) = 1)
def zxK1 : sSt := [(91, 91, 909), (91, 91, 910), (91, 91, 911), (91, 91, 912), (91, 91, 913), (91, 91, 914), (93, 93, 1), (93, 93, 2), (93, 93, 4), (93, 93, 6), (101, 101, 999), (122, 122, 999), (115, 115, 0), (116, 116, 0), (123, 123, 999)]
theorem cxK1 {M M' : sM} (h : ∀ o k, sIn zxK1 o k = true → M' o k = M o k) (hx : xK1 M) : xK1 M' := by
  have h0 : M' 91 909 = M 91 909 := h _ _ rfl
  have h1 : M' 91 910 = M 91 910 := h _ _ rfl
  have h2 : M' 91 911 = M 91 911 := h _ _ rfl
  have h3 : M' 91 912 = M 91 912 := h _ _ rfl
  have h4 : M' 91 913 = M 91 913 := h _ _ rfl
  have h5 : M' 91 914 = M 91 914 := h _ _ rfl
  have h6 : M' 93 1 = M 93 1 := h _ _ rfl
  have h7 : M' 93 2 = M 93 2 := h _ _ rfl
  have h8 : M' 93 4 = M 93 4 := h _ _ rfl
  have h9 : M' 93 6 = M 93 6 := h _ _ rfl
  have h10 : ∀ k, M' 101 k = M 101 k := fun k => h _ _ rfl
  have h11 : ∀ k, M' 122 k = M 122 k := fun k => h _ _ rfl
  have h12 : M' 115 0 = M 115 0 := h _ _ rfl
  have h13 : M' 116 0 = M 116 0 := h _ _ rfl
  have h14 : ∀ k, M' 123 k = M 123 k := fun k => h _ _ rfl
  unfold xK1 at hx ⊢
  simp only [h0, h1, h2, h3, h4, h5, xhv_c h6 h7 h8 h9 h10 h11 h12 h13, xco_c h6 h7 h8 h9 h10 h11 h12 h13 h14]
  exact hx
theorem uxK1 {M : sM} {o k : Nat} {v : Int} (hp : sIn zxK1 o k = false) (h : xK1 M) : xK1 (sU M o k v) := cxK1 (fun o' k' h' => sU_ne (fun z => by rw [z.1, z.2, hp] at h'; cases h')) h
def xC1 (M : sM) : Prop := M 91 900 = 1 → M 91 905 = xcB M (M 91 901) (M 91 902) (M 91 903) (M 91 904) ∧ M 91 897 = xe1 (M 91 902) (M 91 903) ∧ M 91 896 = xe2 M (M 91 901) (M 91 903) ∧ (M 91 898 = 1 → ¬ (0 < M 91 901 ∧ xlt (M 119 (M 91 901).toNat) (M 91 903 - M 91 902) = 1))
def zxC1 : sSt := [(91, 91, 900), (91, 91, 901), (91, 91, 902), (91, 91, 903), (91, 91, 904), (91, 91, 905), (91, 91, 896), (91, 91, 897), (91, 91, 898), (93, 93, 0), (93, 93, 1), (93, 93, 2), (93, 93, 4), (93, 93, 6), (101, 101, 999), (122, 122, 999), (115, 115, 0), (116, 116, 0), (123, 123, 999), (119, 119, 999), (124, 124, 999)]
theorem cxC1 {M M' : sM} (h : ∀ o k, sIn zxC1 o k = true → M' o k = M o k) (hx : xC1 M) : xC1 M' := by
  have h0 : M' 91 900 = M 91 900 := h _ _ rfl
  have h1 : M' 91 901 = M 91 901 := h _ _ rfl
  have h2 : M' 91 902 = M 91 902 := h _ _ rfl
  have h3 : M' 91 903 = M 91 903 := h _ _ rfl
  have h4 : M' 91 904 = M 91 904 := h _ _ rfl
  have h5 : M' 91 905 = M 91 905 := h _ _ rfl
  have h6 : M' 91 896 = M 91 896 := h _ _ rfl
  have h7 : M' 91 897 = M 91 897 := h _ _ rfl
  have h8 : M' 91 898 = M 91 898 := h _ _ rfl
  have h9 : M' 93 0 = M 93 0 := h _ _ rfl
  have h10 : M' 93 1 = M 93 1 := h _ _ rfl
  have h11 : M' 93 2 = M 93 2 := h _ _ rfl
  have h12 : M' 93 4 = M 93 4 := h _ _ rfl
  have h13 : M' 93 6 = M 93 6 := h _ _ rfl
  have h14 : ∀ k, M' 101 k = M 101 k := fun k => h _ _ rfl
  have h15 : ∀ k, M' 122 k = M 122 k := fun k => h _ _ rfl
  have h16 : M' 115 0 = M 115 0 := h _ _ rfl
  have h17 : M' 116 0 = M 116 0 := h _ _ rfl
  have h18 : ∀ k, M' 123 k = M 123 k := fun k => h _ _ rfl
  have h19 : ∀ k, M' 119 k = M 119 k := fun k => h _ _ rfl
  have h20 : ∀ k, M' 124 k = M 124 k := fun k => h _ _ rfl
  have hcb : ∀ b had st fr, xcB M' b had st fr = xcB M b had st fr := fun b had st fr => xcb_c b had st fr (xco_c h10 h11 h12 h13 h14 h15 h16 h17 h18 st b fr) (h19 _) h9 (h20 _)
  have he2 : ∀ b st, xe2 M' b st = xe2 M b st := fun b st => by unfold xe2; rw [h9, h20]
  unfold xC1 at hx ⊢
  simp only [h0, h1, h2, h3, h4, h5, h6, h7, h8, h19, hcb, he2]
  exact hx
theorem uxC1 {M : sM} {o k : Nat} {v : Int} (hp : sIn zxC1 o k = false) (h : xC1 M) : xC1 (sU M o k v) := cxC1 (fun o' k' h' => sU_ne (fun z => by rw [z.1, z.2, hp] at h'; cases h')) h
def xRW (M : sM) : Prop := M 91 889 = 1 → ∀ b had : Nat, had < 10 → (b : Int) + 2 ≤ M 93 0 → (M 91 890 ≤ b ∨ ((b : Int) + 1 = M 91 890 ∧ (had : Int) < M 91 893)) → M 124 (10 * b + had) < 1000 → ∃ st : Nat, st < 10 ∧ xcB M b had st (M 91 892) = M 124 (10 * b + had)
def zxRW : sSt := [(91, 91, 889), (91, 91, 890), (91, 91, 892), (91, 91, 893), (93, 93, 0), (93, 93, 1), (93, 93, 2), (93, 93, 4), (93, 93, 6), (101, 101, 999), (122, 122, 999), (115, 115, 0), (116, 116, 0), (123, 123, 999), (119, 119, 999), (124, 124, 999)]
theorem cxRW {M M' : sM} (h : ∀ o k, sIn zxRW o k = true → M' o k = M o k) (hx : xRW M) : xRW M' := by
  have h0 : M' 91 889 = M 91 889 := h _ _ rfl
  have h1 : M' 91 890 = M 91 890 := h _ _ rfl
  have h2 : M' 91 892 = M 91 892 := h _ _ rfl
  have h3 : M' 91 893 = M 91 893 := h _ _ rfl
  have h4 : M' 93 0 = M 93 0 := h _ _ rfl
  have h5 : M' 93 1 = M 93 1 := h _ _ rfl
  have h6 : M' 93 2 = M 93 2 := h _ _ rfl
  have h7 : M' 93 4 = M 93 4 := h _ _ rfl
  have h8 : M' 93 6 = M 93 6 := h _ _ rfl
  have h9 : ∀ k, M' 101 k = M 101 k := fun k => h _ _ rfl
  have h10 : ∀ k, M' 122 k = M 122 k := fun k => h _ _ rfl
  have h11 : M' 115 0 = M 115 0 := h _ _ rfl
  have h12 : M' 116 0 = M 116 0 := h _ _ rfl
  have h13 : ∀ k, M' 123 k = M 123 k := fun k => h _ _ rfl
  have h14 : ∀ k, M' 119 k = M 119 k := fun k => h _ _ rfl
  have h15 : ∀ k, M' 124 k = M 124 k := fun k => h _ _ rfl
  have hcb : ∀ b had st fr, xcB M' b had st fr = xcB M b had st fr := fun b had st fr => xcb_c b had st fr (xco_c h5 h6 h7 h8 h9 h10 h11 h12 h13 st b fr) (h14 _) h4 (h15 _)
  unfold xRW at hx ⊢
  simp only [h0, h1, h2, h3, h4, h15, hcb]
  exact hx
theorem uxRW {M : sM} {o k : Nat} {v : Int} (hp : sIn zxRW o k = false) (h : xRW M) : xRW (sU M o k v) := cxRW (fun o' k' h' => sU_ne (fun z => by rw [z.1, z.2, hp] at h'; cases h')) h
def xWT (M : sM) : Prop := M 91 888 = 1 → M 91 895 < 1000 → 0 ≤ M 91 894 ∧ M 91 894 < 10 ∧ xcB M (M 91 886) (M 91 887) (M 91 894) (M 91 892) = M 91 895
def zxWT : sSt := [(91, 91, 888), (91, 91, 886), (91, 91, 887), (91, 91, 892), (91, 91, 894), (91, 91, 895), (93, 93, 0), (93, 93, 1), (93, 93, 2), (93, 93, 4), (93, 93, 6), (101, 101, 999), (122, 122, 999), (115, 115, 0), (116, 116, 0), (123, 123, 999), (119, 119, 999), (124, 124, 999)]
theorem cxWT {M M' : sM} (h : ∀ o k, sIn zxWT o k = true → M' o k = M o k) (hx : xWT M) : xWT M' := by
  have h0 : M' 91 888 = M 91 888 := h _ _ rfl
  have h1 : M' 91 886 = M 91 886 := h _ _ rfl
  have h2 : M' 91 887 = M 91 887 := h _ _ rfl
  have h3 : M' 91 892 = M 91 892 := h _ _ rfl
  have h4 : M' 91 894 = M 91 894 := h _ _ rfl
  have h5 : M' 91 895 = M 91 895 := h _ _ rfl
  have h6 : M' 93 0 = M 93 0 := h _ _ rfl
  have h7 : M' 93 1 = M 93 1 := h _ _ rfl
  have h8 : M' 93 2 = M 93 2 := h _ _ rfl
  have h9 : M' 93 4 = M 93 4 := h _ _ rfl
  have h10 : M' 93 6 = M 93 6 := h _ _ rfl
  have h11 : ∀ k, M' 101 k = M 101 k := fun k => h _ _ rfl
  have h12 : ∀ k, M' 122 k = M 122 k := fun k => h _ _ rfl
  have h13 : M' 115 0 = M 115 0 := h _ _ rfl
  have h14 : M' 116 0 = M 116 0 := h _ _ rfl
  have h15 : ∀ k, M' 123 k = M 123 k := fun k => h _ _ rfl
  have h16 : ∀ k, M' 119 k = M 119 k := fun k => h _ _ rfl
  have h17 : ∀ k, M' 124 k = M 124 k := fun k => h _ _ rfl
  have hcb : ∀ b had st fr, xcB M' b had st fr = xcB M b had st fr := fun b had st fr => xcb_c b had st fr (xco_c h7 h8 h9 h10 h11 h12 h13 h14 h15 st b fr) (h16 _) h6 (h17 _)
  unfold xWT at hx ⊢
  simp only [h0, h1, h2, h3, h4, h5, hcb]
  exact hx
theorem uxWT {M : sM} {o k : Nat} {v : Int} (hp : sIn zxWT o k = false) (h : xWT M) : xWT (sU M o k v) := cxWT (fun o' k' h' => sU_ne (fun z => by rw [z.1, z.2, hp] at h'; cases h')) h
def xCU (M : sM) : Prop := M 91 884 = 1 → M 91 883 = M 124 (10 * M 91 881 + M 91 882).toNat
def zxCU : sSt := [(91, 91, 884), (91, 91, 881), (91, 91, 882), (91, 91, 883), (124, 124, 999)]
theorem cxCU {M M' : sM} (h : ∀ o k, sIn zxCU o k = true → M' o k = M o k) (hx : xCU M) : xCU M' := by
  have h0 : M' 91 884 = M 91 884 := h _ _ rfl
  have h1 : M' 91 881 = M 91 881 := h _ _ rfl
  have h2 : M' 91 882 = M 91 882 := h _ _ rfl
  have h3 : M' 91 883 = M 91 883 := h _ _ rfl
  have h4 : ∀ k, M' 124 k = M 124 k := fun k => h _ _ rfl
  unfold xCU at hx ⊢
  simp only [h0, h1, h2, h3, h4]
  exact hx
theorem uxCU {M : sM} {o k : Nat} {v : Int} (hp : sIn zxCU o k = false) (h : xCU M) : xCU (sU M o k v) := cxCU (fun o' k' h' => sU_ne (fun z => by rw [z.1, z.2, hp] at h'; cases h')) h
def xG2 (M : sM) : Prop := ∀ g : Nat, 6 ≤ g → g < 12 → M 103 g ≤ 99 * M 101 g
def zxG2 : sSt := [(101, 101, 999), (103, 103, 999)]
theorem cxG2 {M M' : sM} (h : ∀ o k, sIn zxG2 o k = true → M' o k = M o k) (hx : xG2 M) : xG2 M' := by
  have h0 : ∀ k, M' 101 k = M 101 k := fun k => h _ _ rfl
  have h1 : ∀ k, M' 103 k = M 103 k := fun k => h _ _ rfl
  unfold xG2 at hx ⊢
  simp only [h0, h1]
  exact hx
theorem uxG2 {M : sM} {o k : Nat} {v : Int} (hp : sIn zxG2 o k = false) (h : xG2 M) : xG2 (sU M o k v) := cxG2 (fun o' k' h' => sU_ne (fun z => by rw [z.1, z.2, hp] at h'; cases h')) h
def xG3 (M : sM) : Prop := 0 ≤ M 91 958 → M 91 958 < 12 → 1 ≤ M 101 (M 91 958).toNat
def zxG3 : sSt := [(91, 91, 958), (101, 101, 999)]
theorem cxG3 {M M' : sM} (h : ∀ o k, sIn zxG3 o k = true → M' o k = M o k) (hx : xG3 M) : xG3 M' := by
  have h0 : M' 91 958 = M 91 958 := h _ _ rfl
  have h1 : ∀ k, M' 101 k = M 101 k := fun k => h _ _ rfl
  unfold xG3 at hx ⊢
  simp only [h0, h1]
  exact hx
theorem uxG3 {M : sM} {o k : Nat} {v : Int} (hp : sIn zxG3 o k = false) (h : xG3 M) : xG3 (sU M o k v) := cxG3 (fun o' k' h' => sU_ne (fun z => by rw [z.1, z.2, hp] at h'; cases h')) h
def xG4 (M : sM) : Prop := ∀ j : Nat, (j : Int) < M 91 956 → M 101 j = M 101 (6 + j)
def zxG4 : sSt := [(91, 91, 956), (101, 101, 999)]
theorem cxG4 {M M' : sM} (h : ∀ o k, sIn zxG4 o k = true → M' o k = M o k) (hx : xG4 M) : xG4 M' := by
  have h0 : M' 91 956 = M 91 956 := h _ _ rfl
  have h1 : ∀ k, M' 101 k = M 101 k := fun k => h _ _ rfl
  unfold xG4 at hx ⊢
  simp only [h0, h1]
  exact hx
theorem uxG4 {M : sM} {o k : Nat} {v : Int} (hp : sIn zxG4 o k = false) (h : xG4 M) : xG4 (sU M o k v) := cxG4 (fun o' k' h' => sU_ne (fun z => by rw [z.1, z.2, hp] at h'; cases h')) h
def xG5 (M : sM) : Prop := ∀ j : Nat, (j : Int) < M 91 957 → M 103 j = M 103 (6 + j)
def zxG5 : sSt := [(91, 91, 957), (103, 103, 999)]
theorem cxG5 {M M' : sM} (h : ∀ o k, sIn zxG5 o k = true → M' o k = M o k) (hx : xG5 M) : xG5 M' := by
  have h0 : M' 91 957 = M 91 957 := h _ _ rfl
  have h1 : ∀ k, M' 103 k = M 103 k := fun k => h _ _ rfl
  unfold xG5 at hx ⊢
  simp only [h0, h1]
  exact hx
theorem uxG5 {M : sM} {o k : Nat} {v : Int} (hp : sIn zxG5 o k = false) (h : xG5 M) : xG5 (sU M o k v) := cxG5 (fun o' k' h' => sU_ne (fun z => by rw [z.1, z.2, hp] at h'; cases h')) h
def xG6 (M : sM) : Prop := M 91 975 = 1 → ∀ g : Nat, g < 6 → M 103 g ≤ 99 * M 101 g
def zxG6 : sSt := [(91, 91, 975), (101, 101, 999), (103, 103, 999)]
theorem cxG6 {M M' : sM} (h : ∀ o k, sIn zxG6 o k = true → M' o k = M o k) (hx : xG6 M) : xG6 M' := by
  have h0 : M' 91 975 = M 91 975 := h _ _ rfl
  have h1 : ∀ k, M' 101 k = M 101 k := fun k => h _ _ rfl
  have h2 : ∀ k, M' 103 k = M 103 k := fun k => h _ _ rfl
  unfold xG6 at hx ⊢
  simp only [h0, h1, h2]
  exact hx
theorem uxG6 {M : sM} {o k : Nat} {v : Int} (hp : sIn zxG6 o k = false) (h : xG6 M) : xG6 (sU M o k v) := cxG6 (fun o' k' h' => sU_ne (fun z => by rw [z.1, z.2, hp] at h'; cases h')) h
def XC (M : sM) : Prop := xS1 M ∧ xS2 M ∧ xS3 M ∧ xS4 M ∧ xS5 M ∧ xS6 M ∧ xS7 M ∧ xS8 M ∧ xS9 M ∧ xSA M ∧ xSG M ∧ xSF M ∧ xSB M ∧ xSC M ∧ xSD M ∧ xSE M ∧ xSW M ∧ xST M ∧ xSP M ∧ xSL M ∧ xSM M ∧ xSI M
def zXC : sSt := [(4, 4, 999), (1, 1, 999), (92, 92, 999), (3, 3, 999), (5, 5, 999), (31, 31, 999), (13, 27, 0), (39, 53, 0), (94, 94, 999), (100, 100, 999), (104, 104, 999), (91, 91, 240), (91, 91, 241), (91, 91, 242), (91, 91, 243), (91, 91, 244), (91, 91, 245), (91, 91, 246), (91, 91, 247), (91, 91, 249), (91, 91, 250), (91, 91, 251), (91, 91, 252), (91, 91, 253), (91, 91, 255), (91, 91, 256), (91, 91, 257), (55, 55, 999), (57, 57, 999), (91, 91, 259), (91, 91, 258), (91, 91, 248)]
theorem cXC {M M' : sM} (h : ∀ o k, sIn zXC o k = true → M' o k = M o k) (hx : XC M) : XC M' := ⟨cxS1 (fun o k z => h o k (sin_sub (S' := zXC) (by decide +kernel) z)) hx.1, cxS2 (fun o k z => h o k (sin_sub (S' := zXC) (by decide +kernel) z)) hx.2.1, cxS3 (fun o k z => h o k (sin_sub (S' := zXC) (by decide +kernel) z)) hx.2.2.1, cxS4 (fun o k z => h o k (sin_sub (S' := zXC) (by decide +kernel) z)) hx.2.2.2.1, cxS5 (fun o k z => h o k (sin_sub (S' := zXC) (by decide +kernel) z)) hx.2.2.2.2.1, cxS6 (fun o k z => h o k (sin_sub (S' := zXC) (by decide +kernel) z)) hx.2.2.2.2.2.1, cxS7 (fun o k z => h o k (sin_sub (S' := zXC) (by decide +kernel) z)) hx.2.2.2.2.2.2.1, cxS8 (fun o k z => h o k (sin_sub (S' := zXC) (by decide +kernel) z)) hx.2.2.2.2.2.2.2.1, cxS9 (fun o k z => h o k (sin_sub (S' := zXC) (by decide +kernel) z)) hx.2.2.2.2.2.2.2.2.1, cxSA (fun o k z => h o k (sin_sub (S' := zXC) (by decide +kernel) z)) hx.2.2.2.2.2.2.2.2.2.1, cxSG (fun o k z => h o k (sin_sub (S' := zXC) (by decide +kernel) z)) hx.2.2.2.2.2.2.2.2.2.2.1, cxSF (fun o k z => h o k (sin_sub (S' := zXC) (by decide +kernel) z)) hx.2.2.2.2.2.2.2.2.2.2.2.1, cxSB (fun o k z => h o k (sin_sub (S' := zXC) (by decide +kernel) z)) hx.2.2.2.2.2.2.2.2.2.2.2.2.1, cxSC (fun o k z => h o k (sin_sub (S' := zXC) (by decide +kernel) z)) hx.2.2.2.2.2.2.2.2.2.2.2.2.2.1, cxSD (fun o k z => h o k (sin_sub (S' := zXC) (by decide +kernel) z)) hx.2.2.2.2.2.2.2.2.2.2.2.2.2.2.1, cxSE (fun o k z => h o k (sin_sub (S' := zXC) (by decide +kernel) z)) hx.2.2.2.2.2.2.2.2.2.2.2.2.2.2.2.1, cxSW (fun o k z => h o k (sin_sub (S' := zXC) (by decide +kernel) z)) hx.2.2.2.2.2.2.2.2.2.2.2.2.2.2.2.2.1, cxST (fun o k z => h o k (sin_sub (S' := zXC) (by decide +kernel) z)) hx.2.2.2.2.2.2.2.2.2.2.2.2.2.2.2.2.2.1, cxSP (fun o k z => h o k (sin_sub (S' := zXC) (by decide +kernel) z)) hx.2.2.2.2.2.2.2.2.2.2.2.2.2.2.2.2.2.2.1, cxSL (fun o k z => h o k (sin_sub (S' := zXC) (by decide +kernel) z)) hx.2.2.2.2.2.2.2.2.2.2.2.2.2.2.2.2.2.2.2.1, cxSM (fun o k z => h o k (sin_sub (S' := zXC) (by decide +kernel) z)) hx.2.2.2.2.2.2.2.2.2.2.2.2.2.2.2.2.2.2.2.2.1, cxSI (fun o k z => h o k (sin_sub (S' := zXC) (by decide +kernel) z)) hx.2.2.2.2.2.2.2.2.2.2.2.2.2.2.2.2.2.2.2.2.2⟩
theorem uXC {M : sM} {o k : Nat} {v : Int} (hp : sIn zXC o k = false) (h : XC M) : XC (sU M o k v) := cXC (fun o' k' h' => sU_ne (fun z => by rw [z.1, z.2, hp] at h'; cases h')) h
def XA (M : sM) : Prop := xY1 M ∧ xY2 M ∧ xY3 M ∧ xZ1 M ∧ xZ2 M ∧ xZ3 M ∧ xZ4 M ∧ xZ5 M ∧ xZ6 M ∧ xZ7 M ∧ xZ8 M ∧ xZ9 M ∧ xZa M ∧ xZb M ∧ xT1 M
def zXA : sSt := [(91, 91, 993), (93, 93, 0), (91, 91, 991), (91, 91, 992), (91, 91, 984), (91, 91, 45), (91, 91, 46), (113, 113, 999), (114, 114, 999), (91, 91, 985), (91, 91, 986), (91, 91, 970), (91, 91, 971), (93, 93, 17), (110, 110, 999), (111, 111, 999), (91, 91, 972), (91, 91, 973), (91, 91, 987), (91, 91, 988), (91, 91, 989), (91, 91, 974), (108, 108, 999), (109, 109, 999), (91, 91, 975), (91, 91, 976), (91, 91, 977), (91, 91, 978), (91, 91, 979), (91, 91, 964), (91, 91, 980), (91, 91, 981), (91, 91, 982), (91, 91, 960), (91, 91, 961), (91, 91, 962), (91, 91, 963), (91, 91, 983), (91, 91, 995), (91, 91, 29), (91, 91, 30)]
def XB (M : sM) : Prop := xN1 M ∧ xN2 M ∧ xN3 M ∧ xN4 M ∧ xN5 M ∧ xN6 M ∧ xH1 M ∧ xK1 M ∧ xC1 M ∧ xRW M ∧ xWT M ∧ xCU M ∧ xG2 M ∧ xG3 M ∧ xG4 M ∧ xG5 M ∧ xG6 M ∧ XC M
def zXB : sSt := [(91, 91, 949), (91, 91, 950), (91, 91, 951), (91, 91, 952), (91, 91, 953), (91, 91, 954), (91, 91, 955), (93, 93, 1), (101, 101, 999), (91, 91, 930), (91, 91, 931), (91, 91, 932), (91, 91, 933), (91, 91, 934), (91, 91, 935), (91, 91, 936), (91, 91, 925), (91, 91, 937), (91, 91, 938), (91, 91, 939), (93, 93, 2), (122, 122, 999), (91, 91, 928), (91, 91, 929), (91, 91, 927), (93, 93, 6), (91, 91, 915), (91, 91, 916), (91, 91, 917), (91, 91, 907), (91, 91, 906), (91, 91, 908), (91, 91, 876), (91, 91, 877), (91, 91, 878), (91, 91, 879), (91, 91, 919), (91, 91, 920), (91, 91, 921), (91, 91, 922), (91, 91, 923), (93, 93, 4), (115, 115, 0), (116, 116, 0), (91, 91, 909), (91, 91, 910), (91, 91, 911), (91, 91, 912), (91, 91, 913), (91, 91, 914), (123, 123, 999), (91, 91, 900), (91, 91, 901), (91, 91, 902), (91, 91, 903), (91, 91, 904), (91, 91, 905), (91, 91, 896), (91, 91, 897), (91, 91, 898), (93, 93, 0), (119, 119, 999), (124, 124, 999), (91, 91, 889), (91, 91, 890), (91, 91, 892), (91, 91, 893), (91, 91, 888), (91, 91, 886), (91, 91, 887), (91, 91, 894), (91, 91, 895), (91, 91, 884), (91, 91, 881), (91, 91, 882), (91, 91, 883), (103, 103, 999), (91, 91, 958), (91, 91, 956), (91, 91, 957), (91, 91, 975), (4, 4, 999), (1, 1, 999), (92, 92, 999), (3, 3, 999), (5, 5, 999), (31, 31, 999), (13, 27, 0), (39, 53, 0), (94, 94, 999), (100, 100, 999), (104, 104, 999), (91, 91, 240), (91, 91, 241), (91, 91, 242), (91, 91, 243), (91, 91, 244), (91, 91, 245), (91, 91, 246), (91, 91, 247), (91, 91, 249), (91, 91, 250), (91, 91, 251), (91, 91, 252), (91, 91, 253), (91, 91, 255), (91, 91, 256), (91, 91, 257), (55, 55, 999), (57, 57, 999), (91, 91, 259), (91, 91, 258), (91, 91, 248)]
def XR (M : sM) : Prop := XA M ∧ XB M
def XI (M : sM) : Prop := XI2 M ∧ XI3 M ∧ XR M
def zR : sSt := [(91, 91, 993), (93, 93, 0), (91, 91, 991), (91, 91, 992), (91, 91, 984), (91, 91, 45), (91, 91, 46), (113, 113, 999), (114, 114, 999), (91, 91, 985), (91, 91, 986), (91, 91, 970), (91, 91, 971), (93, 93, 17), (110, 110, 999), (111, 111, 999), (91, 91, 972), (91, 91, 973), (91, 91, 987), (91, 91, 988), (91, 91, 989), (91, 91, 974), (108, 108, 999), (109, 109, 999), (91, 91, 975), (91, 91, 976), (91, 91, 977), (91, 91, 978), (91, 91, 979), (91, 91, 964), (91, 91, 980), (91, 91, 981), (91, 91, 982), (91, 91, 960), (91, 91, 961), (91, 91, 962), (91, 91, 963), (91, 91, 983), (91, 91, 995), (91, 91, 29), (91, 91, 30), (91, 91, 949), (91, 91, 950), (91, 91, 951), (91, 91, 952), (91, 91, 953), (91, 91, 954), (91, 91, 955), (93, 93, 1), (101, 101, 999), (91, 91, 930), (91, 91, 931), (91, 91, 932), (91, 91, 933), (91, 91, 934), (91, 91, 935), (91, 91, 936), (91, 91, 925), (91, 91, 937), (91, 91, 938), (91, 91, 939), (93, 93, 2), (122, 122, 999), (91, 91, 928), (91, 91, 929), (91, 91, 927), (93, 93, 6), (91, 91, 915), (91, 91, 916), (91, 91, 917), (91, 91, 907), (91, 91, 906), (91, 91, 908), (91, 91, 876), (91, 91, 877), (91, 91, 878), (91, 91, 879), (91, 91, 919), (91, 91, 920), (91, 91, 921), (91, 91, 922), (91, 91, 923), (93, 93, 4), (115, 115, 0), (116, 116, 0), (91, 91, 909), (91, 91, 910), (91, 91, 911), (91, 91, 912), (91, 91, 913), (91, 91, 914), (123, 123, 999), (91, 91, 900), (91, 91, 901), (91, 91, 902), (91, 91, 903), (91, 91, 904), (91, 91, 905), (91, 91, 896), (91, 91, 897), (91, 91, 898), (119, 119, 999), (124, 124, 999), (91, 91, 889), (91, 91, 890), (91, 91, 892), (91, 91, 893), (91, 91, 888), (91, 91, 886), (91, 91, 887), (91, 91, 894), (91, 91, 895), (91, 91, 884), (91, 91, 881), (91, 91, 882), (91, 91, 883), (103, 103, 999), (91, 91, 958), (91, 91, 956), (91, 91, 957), (4, 4, 999), (1, 1, 999), (92, 92, 999), (3, 3, 999), (5, 5, 999), (31, 31, 999), (13, 27, 0), (39, 53, 0), (94, 94, 999), (100, 100, 999), (104, 104, 999), (91, 91, 240), (91, 91, 241), (91, 91, 242), (91, 91, 243), (91, 91, 244), (91, 91, 245), (91, 91, 246), (91, 91, 247), (91, 91, 249), (91, 91, 250), (91, 91, 251), (91, 91, 252), (91, 91, 253), (91, 91, 255), (91, 91, 256), (91, 91, 257), (55, 55, 999), (57, 57, 999), (91, 91, 259), (91, 91, 258), (91, 91, 248)]
/-- the places that it speaks of -/
def zPl : sSt := [(54, 54, 2), (54, 54, 998), (54, 54, 997), (55, 55, 999), (91, 91, 26), (91, 91, 27), (91, 91, 990), (92, 92, 999), (91, 91, 993), (93, 93, 0), (91, 91, 991), (91, 91, 992), (91, 91, 984), (91, 91, 45), (91, 91, 46), (113, 113, 999), (114, 114, 999), (91, 91, 985), (91, 91, 986), (91, 91, 970), (91, 91, 971), (93, 93, 17), (110, 110, 999), (111, 111, 999), (91, 91, 972), (91, 91, 973), (91, 91, 987), (91, 91, 988), (91, 91, 989), (91, 91, 974), (108, 108, 999), (109, 109, 999), (91, 91, 975), (91, 91, 976), (91, 91, 977), (91, 91, 978), (91, 91, 979), (91, 91, 964), (91, 91, 980), (91, 91, 981), (91, 91, 982), (91, 91, 960), (91, 91, 961), (91, 91, 962), (91, 91, 963), (91, 91, 983), (91, 91, 995), (91, 91, 29), (91, 91, 30), (91, 91, 949), (91, 91, 950), (91, 91, 951), (91, 91, 952), (91, 91, 953), (91, 91, 954), (91, 91, 955), (93, 93, 1), (101, 101, 999), (91, 91, 930), (91, 91, 931), (91, 91, 932), (91, 91, 933), (91, 91, 934), (91, 91, 935), (91, 91, 936), (91, 91, 925), (91, 91, 937), (91, 91, 938), (91, 91, 939), (93, 93, 2), (122, 122, 999), (91, 91, 928), (91, 91, 929), (91, 91, 927), (93, 93, 6), (91, 91, 915), (91, 91, 916), (91, 91, 917), (91, 91, 907), (91, 91, 906), (91, 91, 908), (91, 91, 876), (91, 91, 877), (91, 91, 878), (91, 91, 879), (91, 91, 919), (91, 91, 920), (91, 91, 921), (91, 91, 922), (91, 91, 923), (93, 93, 4), (115, 115, 0), (116, 116, 0), (91, 91, 909), (91, 91, 910), (91, 91, 911), (91, 91, 912), (91, 91, 913), (91, 91, 914), (123, 123, 999), (91, 91, 900), (91, 91, 901), (91, 91, 902), (91, 91, 903), (91, 91, 904), (91, 91, 905), (91, 91, 896), (91, 91, 897), (91, 91, 898), (119, 119, 999), (124, 124, 999), (91, 91, 889), (91, 91, 890), (91, 91, 892), (91, 91, 893), (91, 91, 888), (91, 91, 886), (91, 91, 887), (91, 91, 894), (91, 91, 895), (91, 91, 884), (91, 91, 881), (91, 91, 882), (91, 91, 883), (103, 103, 999), (91, 91, 958), (91, 91, 956), (91, 91, 957), (4, 4, 999), (1, 1, 999), (92, 92, 999), (3, 3, 999), (5, 5, 999), (31, 31, 999), (13, 27, 0), (39, 53, 0), (94, 94, 999), (100, 100, 999), (104, 104, 999), (91, 91, 240), (91, 91, 241), (91, 91, 242), (91, 91, 243), (91, 91, 244), (91, 91, 245), (91, 91, 246), (91, 91, 247), (91, 91, 249), (91, 91, 250), (91, 91, 251), (91, 91, 252), (91, 91, 253), (91, 91, 255), (91, 91, 256), (91, 91, 257), (55, 55, 999), (57, 57, 999), (91, 91, 259), (91, 91, 258), (91, 91, 248)]
theorem cXA {M M' : sM} (h : ∀ o k, sIn zXA o k = true → M' o k = M o k) (hx : XA M) : XA M' := ⟨cxY1 (fun o k z => h o k (sin_sub (S' := zXA) (by decide +kernel) z)) hx.1, cxY2 (fun o k z => h o k (sin_sub (S' := zXA) (by decide +kernel) z)) hx.2.1, cxY3 (fun o k z => h o k (sin_sub (S' := zXA) (by decide +kernel) z)) hx.2.2.1, cxZ1 (fun o k z => h o k (sin_sub (S' := zXA) (by decide +kernel) z)) hx.2.2.2.1, cxZ2 (fun o k z => h o k (sin_sub (S' := zXA) (by decide +kernel) z)) hx.2.2.2.2.1, cxZ3 (fun o k z => h o k (sin_sub (S' := zXA) (by decide +kernel) z)) hx.2.2.2.2.2.1, cxZ4 (fun o k z => h o k (sin_sub (S' := zXA) (by decide +kernel) z)) hx.2.2.2.2.2.2.1, cxZ5 (fun o k z => h o k (sin_sub (S' := zXA) (by decide +kernel) z)) hx.2.2.2.2.2.2.2.1, cxZ6 (fun o k z => h o k (sin_sub (S' := zXA) (by decide +kernel) z)) hx.2.2.2.2.2.2.2.2.1, cxZ7 (fun o k z => h o k (sin_sub (S' := zXA) (by decide +kernel) z)) hx.2.2.2.2.2.2.2.2.2.1, cxZ8 (fun o k z => h o k (sin_sub (S' := zXA) (by decide +kernel) z)) hx.2.2.2.2.2.2.2.2.2.2.1, cxZ9 (fun o k z => h o k (sin_sub (S' := zXA) (by decide +kernel) z)) hx.2.2.2.2.2.2.2.2.2.2.2.1, cxZa (fun o k z => h o k (sin_sub (S' := zXA) (by decide +kernel) z)) hx.2.2.2.2.2.2.2.2.2.2.2.2.1, cxZb (fun o k z => h o k (sin_sub (S' := zXA) (by decide +kernel) z)) hx.2.2.2.2.2.2.2.2.2.2.2.2.2.1, cxT1 (fun o k z => h o k (sin_sub (S' := zXA) (by decide +kernel) z)) hx.2.2.2.2.2.2.2.2.2.2.2.2.2.2⟩
theorem uXA {M : sM} {o k : Nat} {v : Int} (hp : sIn zXA o k = false) (h : XA M) : XA (sU M o k v) := cXA (fun o' k' h' => sU_ne (fun z => by rw [z.1, z.2, hp] at h'; cases h')) h
theorem cXB {M M' : sM} (h : ∀ o k, sIn zXB o k = true → M' o k = M o k) (hx : XB M) : XB M' := ⟨cxN1 (fun o k z => h o k (sin_sub (S' := zXB) (by decide +kernel) z)) hx.1, cxN2 (fun o k z => h o k (sin_sub (S' := zXB) (by decide +kernel) z)) hx.2.1, cxN3 (fun o k z => h o k (sin_sub (S' := zXB) (by decide +kernel) z)) hx.2.2.1, cxN4 (fun o k z => h o k (sin_sub (S' := zXB) (by decide +kernel) z)) hx.2.2.2.1, cxN5 (fun o k z => h o k (sin_sub (S' := zXB) (by decide +kernel) z)) hx.2.2.2.2.1, cxN6 (fun o k z => h o k (sin_sub (S' := zXB) (by decide +kernel) z)) hx.2.2.2.2.2.1, cxH1 (fun o k z => h o k (sin_sub (S' := zXB) (by decide +kernel) z)) hx.2.2.2.2.2.2.1, cxK1 (fun o k z => h o k (sin_sub (S' := zXB) (by decide +kernel) z)) hx.2.2.2.2.2.2.2.1, cxC1 (fun o k z => h o k (sin_sub (S' := zXB) (by decide +kernel) z)) hx.2.2.2.2.2.2.2.2.1, cxRW (fun o k z => h o k (sin_sub (S' := zXB) (by decide +kernel) z)) hx.2.2.2.2.2.2.2.2.2.1, cxWT (fun o k z => h o k (sin_sub (S' := zXB) (by decide +kernel) z)) hx.2.2.2.2.2.2.2.2.2.2.1, cxCU (fun o k z => h o k (sin_sub (S' := zXB) (by decide +kernel) z)) hx.2.2.2.2.2.2.2.2.2.2.2.1, cxG2 (fun o k z => h o k (sin_sub (S' := zXB) (by decide +kernel) z)) hx.2.2.2.2.2.2.2.2.2.2.2.2.1, cxG3 (fun o k z => h o k (sin_sub (S' := zXB) (by decide +kernel) z)) hx.2.2.2.2.2.2.2.2.2.2.2.2.2.1, cxG4 (fun o k z => h o k (sin_sub (S' := zXB) (by decide +kernel) z)) hx.2.2.2.2.2.2.2.2.2.2.2.2.2.2.1, cxG5 (fun o k z => h o k (sin_sub (S' := zXB) (by decide +kernel) z)) hx.2.2.2.2.2.2.2.2.2.2.2.2.2.2.2.1, cxG6 (fun o k z => h o k (sin_sub (S' := zXB) (by decide +kernel) z)) hx.2.2.2.2.2.2.2.2.2.2.2.2.2.2.2.2.1, cXC (fun o k z => h o k (sin_sub (S' := zXB) (by decide +kernel) z)) hx.2.2.2.2.2.2.2.2.2.2.2.2.2.2.2.2.2⟩
theorem uXB {M : sM} {o k : Nat} {v : Int} (hp : sIn zXB o k = false) (h : XB M) : XB (sU M o k v) := cXB (fun o' k' h' => sU_ne (fun z => by rw [z.1, z.2, hp] at h'; cases h')) h
theorem xr_congr {M M' : sM} (h : ∀ o k, sIn zR o k = true → M' o k = M o k) (hx : XR M) : XR M' := ⟨cXA (fun o k z => h o k (sin_sub (S' := zR) (by decide +kernel) z)) hx.1, cXB (fun o k z => h o k (sin_sub (S' := zR) (by decide +kernel) z)) hx.2⟩
theorem xr_u {M : sM} {o k : Nat} {v : Int} (hp : sIn zR o k = false) (h : XR M) : XR (sU M o k v) := xr_congr (fun o' k' h' => sU_ne (fun z => by rw [z.1, z.2, hp] at h'; cases h')) h
theorem xi_congr {M M' : sM} (h : ∀ o k, sIn zPl o k = true → M' o k = M o k) (hx : XI M) : XI M' := ⟨xi2_congr (fun o k hz _ => h o k (sin_sub (S' := zPl) (by decide +kernel) hz)) hx.1, xi3_congr (fun o k hz _ => h o k (sin_sub (S' := zPl) (by decide +kernel) hz)) hx.2.1, xr_congr (fun o k hz => h o k (sin_sub (S' := zPl) (by decide +kernel) hz)) hx.2.2⟩
def sI0 (M : sM) : Prop := ∀ (o k : Nat) (r : Int × Int), sRg o k = some r → r.1 ≤ M o k ∧ M o k ≤ r.2
def sI (M : sM) : Prop := sI0 M ∧ XI M
def sF (S : sSt) (M0 M : sM) : Prop := ∀ o k, sIn S o k = false → M o k = M0 o k
theorem sf_r (S : sSt) (M : sM) : sF S M M := fun _ _ _ => rfl
theorem sf_u {S : sSt} {M0 M : sM} {o k : Nat} {v : Int} (h : sF S M0 M) (hs : sIn S o k = true) : sF S M0 (sU M o k v) := by
  intro o' k' h'
  by_cases hc : o' = o ∧ k' = k
  · obtain ⟨rfl, rfl⟩ := hc
    rw [hs] at h'
    cases h'
  · rw [sU_ne hc]
    exact h o' k' h'
theorem si_u0 {M : sM} {o k : Nat} {v : Int} (h : sI0 M) (hv : ∀ r, sRg o k = some r → r.1 ≤ v ∧ v ≤ r.2) : sI0 (sU M o k v) := by
  intro o' k' r hr
  by_cases hc : o' = o ∧ k' = k
  · obtain ⟨rfl, rfl⟩ := hc
    rw [sU_at]
    exact hv r hr
  · rw [sU_ne hc]
    exact h o' k' r hr
theorem xi_u {M : sM} {o k : Nat} {v : Int} (h : XI M) (hp : sIn zPl o k = false) : XI (sU M o k v) := xi_congr (fun o' k' h' => sU_ne (fun z => by rw [z.1, z.2, hp] at h'; cases h')) h
theorem si_u {M : sM} {o k : Nat} {v : Int} (h : sI M) (hp : sIn zPl o k = false) (hv : ∀ r, sRg o k = some r → r.1 ≤ v ∧ v ≤ r.2) : sI (sU M o k v) := ⟨si_u0 h.1 hv, xi_u h.2 hp⟩
def sSs (S S' : sSt) : Bool := S.all (fun p => S'.any (fun q => Nat.ble q.1 p.1 && (Nat.ble p.2.1 q.2.1 && (Nat.beq q.2.2 999 || (Nat.beq q.2.2 p.2.2 && !(Nat.beq p.2.2 999))))))
theorem sf_sub {S S' : sSt} (h : sSs S S' = true) {o k : Nat} (hs : sIn S' o k = false) : sIn S o k = false := by
  cases hi : sIn S o k with
  | false => rfl
  | true =>
    exfalso
    obtain ⟨p, hp, h1⟩ := List.any_eq_true.mp hi
    obtain ⟨q, hq, h2⟩ := List.any_eq_true.mp (List.all_eq_true.mp h p hp)
    rw [Bool.and_eq_true, Bool.and_eq_true] at h1 h2
    have : sIn S' o k = true := by
      refine List.any_eq_true.mpr ⟨q, hq, ?_⟩
      rw [Bool.and_eq_true, Bool.and_eq_true]
      refine ⟨Nat.ble_eq_true_of_le (Nat.le_trans (Nat.le_of_ble_eq_true h2.1) (Nat.le_of_ble_eq_true h1.1)), Nat.ble_eq_true_of_le (Nat.le_trans (Nat.le_of_ble_eq_true h1.2.1) (Nat.le_of_ble_eq_true h2.2.1)), ?_⟩
      have h3 := h1.2.2
      have h4 := h2.2.2
      rw [Bool.or_eq_true] at h3 h4 ⊢
      rcases h4 with h4 | h4
      · exact Or.inl h4
      · rw [Bool.and_eq_true, Bool.not_eq_true'] at h4
        rcases h3 with h3 | h3
        · rw [h3] at h4; cases h4.2
        · have e1 := Nat.eq_of_beq_eq_true h3
          have e2 := Nat.eq_of_beq_eq_true h4.1
          refine Or.inr ?_
          rw [e2, e1]
          exact Nat.beq_refl k
    rw [hs] at this
    cases this
theorem sf_t {S S' : sSt} {M0 M M' : sM} (h : sF S' M0 M) (h' : sF S M M') (hs : sSs S S' = true) : sF S' M0 M' := fun o k ho => (h' o k (sf_sub hs ho)).trans (h o k ho)
theorem gx_xS1 {M : sM} (h : sI M) : xS1 M := h.2.2.2.2.2.2.2.2.2.2.2.2.2.2.2.2.2.2.2.2.2.1
theorem gx_xS2 {M : sM} (h : sI M) : xS2 M := h.2.2.2.2.2.2.2.2.2.2.2.2.2.2.2.2.2.2.2.2.2.2.1
theorem gx_xS3 {M : sM} (h : sI M) : xS3 M := h.2.2.2.2.2.2.2.2.2.2.2.2.2.2.2.2.2.2.2.2.2.2.2.1
theorem gx_xS4 {M : sM} (h : sI M) : xS4 M := h.2.2.2.2.2.2.2.2.2.2.2.2.2.2.2.2.2.2.2.2.2.2.2.2.1
theorem gx_xS5 {M : sM} (h : sI M) : xS5 M := h.2.2.2.2.2.2.2.2.2.2.2.2.2.2.2.2.2.2.2.2.2.2.2.2.2.1
theorem gx_xS6 {M : sM} (h : sI M) : xS6 M := h.2.2.2.2.2.2.2.2.2.2.2.2.2.2.2.2.2.2.2.2.2.2.2.2.2.2.1
theorem gx_xS7 {M : sM} (h : sI M) : xS7 M := h.2.2.2.2.2.2.2.2.2.2.2.2.2.2.2.2.2.2.2.2.2.2.2.2.2.2.2.1
theorem gx_xS8 {M : sM} (h : sI M) : xS8 M := h.2.2.2.2.2.2.2.2.2.2.2.2.2.2.2.2.2.2.2.2.2.2.2.2.2.2.2.2.1
theorem gx_xS9 {M : sM} (h : sI M) : xS9 M := h.2.2.2.2.2.2.2.2.2.2.2.2.2.2.2.2.2.2.2.2.2.2.2.2.2.2.2.2.2.1
theorem gx_xSA {M : sM} (h : sI M) : xSA M := h.2.2.2.2.2.2.2.2.2.2.2.2.2.2.2.2.2.2.2.2.2.2.2.2.2.2.2.2.2.2.1
theorem gx_xSG {M : sM} (h : sI M) : xSG M := h.2.2.2.2.2.2.2.2.2.2.2.2.2.2.2.2.2.2.2.2.2.2.2.2.2.2.2.2.2.2.2.1
theorem gx_xSF {M : sM} (h : sI M) : xSF M := h.2.2.2.2.2.2.2.2.2.2.2.2.2.2.2.2.2.2.2.2.2.2.2.2.2.2.2.2.2.2.2.2.1
theorem gx_xSB {M : sM} (h : sI M) : xSB M := h.2.2.2.2.2.2.2.2.2.2.2.2.2.2.2.2.2.2.2.2.2.2.2.2.2.2.2.2.2.2.2.2.2.1
theorem gx_xSC {M : sM} (h : sI M) : xSC M := h.2.2.2.2.2.2.2.2.2.2.2.2.2.2.2.2.2.2.2.2.2.2.2.2.2.2.2.2.2.2.2.2.2.2.1
theorem gx_xSD {M : sM} (h : sI M) : xSD M := h.2.2.2.2.2.2.2.2.2.2.2.2.2.2.2.2.2.2.2.2.2.2.2.2.2.2.2.2.2.2.2.2.2.2.2.1
theorem gx_xSE {M : sM} (h : sI M) : xSE M := h.2.2.2.2.2.2.2.2.2.2.2.2.2.2.2.2.2.2.2.2.2.2.2.2.2.2.2.2.2.2.2.2.2.2.2.2.1
theorem gx_xSW {M : sM} (h : sI M) : xSW M := h.2.2.2.2.2.2.2.2.2.2.2.2.2.2.2.2.2.2.2.2.2.2.2.2.2.2.2.2.2.2.2.2.2.2.2.2.2.1
theorem gx_xST {M : sM} (h : sI M) : xST M := h.2.2.2.2.2.2.2.2.2.2.2.2.2.2.2.2.2.2.2.2.2.2.2.2.2.2.2.2.2.2.2.2.2.2.2.2.2.2.1
theorem gx_xSP {M : sM} (h : sI M) : xSP M := h.2.2.2.2.2.2.2.2.2.2.2.2.2.2.2.2.2.2.2.2.2.2.2.2.2.2.2.2.2.2.2.2.2.2.2.2.2.2.2.1
theorem gx_xSL {M : sM} (h : sI M) : xSL M := h.2.2.2.2.2.2.2.2.2.2.2.2.2.2.2.2.2.2.2.2.2.2.2.2.2.2.2.2.2.2.2.2.2.2.2.2.2.2.2.2.1
theorem gx_xSM {M : sM} (h : sI M) : xSM M := h.2.2.2.2.2.2.2.2.2.2.2.2.2.2.2.2.2.2.2.2.2.2.2.2.2.2.2.2.2.2.2.2.2.2.2.2.2.2.2.2.2.1
theorem gx_xSI {M : sM} (h : sI M) : xSI M := h.2.2.2.2.2.2.2.2.2.2.2.2.2.2.2.2.2.2.2.2.2.2.2.2.2.2.2.2.2.2.2.2.2.2.2.2.2.2.2.2.2.2
theorem xb_c {M M' : sM} (h : ∀ o k, o ≠ 1 → o ≠ 3 → o ≠ 4 → o ≠ 55 → o ≠ 92 → M' o k = M o k) (hx : XB M) (hc : XC M') : XB M' := ⟨cxN1 (fun o k z => h o k (fun e => by subst e; rw [sinc_ok (S := zxN1) rfl] at z; cases z) (fun e => by subst e; rw [sinc_ok (S := zxN1) rfl] at z; cases z) (fun e => by subst e; rw [sinc_ok (S := zxN1) rfl] at z; cases z) (fun e => by subst e; rw [sinc_ok (S := zxN1) rfl] at z; cases z) (fun e => by subst e; rw [sinc_ok (S := zxN1) rfl] at z; cases z)) hx.1, cxN2 (fun o k z => h o k (fun e => by subst e; rw [sinc_ok (S := zxN2) rfl] at z; cases z) (fun e => by subst e; rw [sinc_ok (S := zxN2) rfl] at z; cases z) (fun e => by subst e; rw [sinc_ok (S := zxN2) rfl] at z; cases z) (fun e => by subst e; rw [sinc_ok (S := zxN2) rfl] at z; cases z) (fun e => by subst e; rw [sinc_ok (S := zxN2) rfl] at z; cases z)) hx.2.1, cxN3 (fun o k z => h o k (fun e => by subst e; rw [sinc_ok (S := zxN3) rfl] at z; cases z) (fun e => by subst e; rw [sinc_ok (S := zxN3) rfl] at z; cases z) (fun e => by subst e; rw [sinc_ok (S := zxN3) rfl] at z; cases z) (fun e => by subst e; rw [sinc_ok (S := zxN3) rfl] at z; cases z) (fun e => by subst e; rw [sinc_ok (S := zxN3) rfl] at z; cases z)) hx.2.2.1, cxN4 (fun o k z => h o k (fun e => by subst e; rw [sinc_ok (S := zxN4) rfl] at z; cases z) (fun e => by subst e; rw [sinc_ok (S := zxN4) rfl] at z; cases z) (fun e => by subst e; rw [sinc_ok (S := zxN4) rfl] at z; cases z) (fun e => by subst e; rw [sinc_ok (S := zxN4) rfl] at z; cases z) (fun e => by subst e; rw [sinc_ok (S := zxN4) rfl] at z; cases z)) hx.2.2.2.1, cxN5 (fun o k z => h o k (fun e => by subst e; rw [sinc_ok (S := zxN5) rfl] at z; cases z) (fun e => by subst e; rw [sinc_ok (S := zxN5) rfl] at z; cases z) (fun e => by subst e; rw [sinc_ok (S := zxN5) rfl] at z; cases z) (fun e => by subst e; rw [sinc_ok (S := zxN5) rfl] at z; cases z) (fun e => by subst e; rw [sinc_ok (S := zxN5) rfl] at z; cases z)) hx.2.2.2.2.1, cxN6 (fun o k z => h o k (fun e => by subst e; rw [sinc_ok (S := zxN6) rfl] at z; cases z) (fun e => by subst e; rw [sinc_ok (S := zxN6) rfl] at z; cases z) (fun e => by subst e; rw [sinc_ok (S := zxN6) rfl] at z; cases z) (fun e => by subst e; rw [sinc_ok (S := zxN6) rfl] at z; cases z) (fun e => by subst e; rw [sinc_ok (S := zxN6) rfl] at z; cases z)) hx.2.2.2.2.2.1, cxH1 (fun o k z => h o k (fun e => by subst e; rw [sinc_ok (S := zxH1) rfl] at z; cases z) (fun e => by subst e; rw [sinc_ok (S := zxH1) rfl] at z; cases z) (fun e => by subst e; rw [sinc_ok (S := zxH1) rfl] at z; cases z) (fun e => by subst e; rw [sinc_ok (S := zxH1) rfl] at z; cases z) (fun e => by subst e; rw [sinc_ok (S := zxH1) rfl] at z; cases z)) hx.2.2.2.2.2.2.1, cxK1 (fun o k z => h o k (fun e => by subst e; rw [sinc_ok (S := zxK1) rfl] at z; cases z) (fun e => by subst e; rw [sinc_ok (S := zxK1) rfl] at z; cases z) (fun e => by subst e; rw [sinc_ok (S := zxK1) rfl] at z; cases z) (fun e => by subst e; rw [sinc_ok (S := zxK1) rfl] at z; cases z) (fun e => by subst e; rw [sinc_ok (S := zxK1) rfl] at z; cases z)) hx.2.2.2.2.2.2.2.1, cxC1 (fun o k z => h o k (fun e => by subst e; rw [sinc_ok (S := zxC1) rfl] at z; cases z) (fun e => by subst e; rw [sinc_ok (S := zxC1) rfl] at z; cases z) (fun e => by subst e; rw [sinc_ok (S := zxC1) rfl] at z; cases z) (fun e => by subst e; rw [sinc_ok (S := zxC1) rfl] at z; cases z) (fun e => by subst e; rw [sinc_ok (S := zxC1) rfl] at z; cases z)) hx.2.2.2.2.2.2.2.2.1, cxRW (fun o k z => h o k (fun e => by subst e; rw [sinc_ok (S := zxRW) rfl] at z; cases z) (fun e => by subst e; rw [sinc_ok (S := zxRW) rfl] at z; cases z) (fun e => by subst e; rw [sinc_ok (S := zxRW) rfl] at z; cases z) (fun e => by subst e; rw [sinc_ok (S := zxRW) rfl] at z; cases z) (fun e => by subst e; rw [sinc_ok (S := zxRW) rfl] at z; cases z)) hx.2.2.2.2.2.2.2.2.2.1, cxWT (fun o k z => h o k (fun e => by subst e; rw [sinc_ok (S := zxWT) rfl] at z; cases z) (fun e => by subst e; rw [sinc_ok (S := zxWT) rfl] at z; cases z) (fun e => by subst e; rw [sinc_ok (S := zxWT) rfl] at z; cases z) (fun e => by subst e; rw [sinc_ok (S := zxWT) rfl] at z; cases z) (fun e => by subst e; rw [sinc_ok (S := zxWT) rfl] at z; cases z)) hx.2.2.2.2.2.2.2.2.2.2.1, cxCU (fun o k z => h o k (fun e => by subst e; rw [sinc_ok (S := zxCU) rfl] at z; cases z) (fun e => by subst e; rw [sinc_ok (S := zxCU) rfl] at z; cases z) (fun e => by subst e; rw [sinc_ok (S := zxCU) rfl] at z; cases z) (fun e => by subst e; rw [sinc_ok (S := zxCU) rfl] at z; cases z) (fun e => by subst e; rw [sinc_ok (S := zxCU) rfl] at z; cases z)) hx.2.2.2.2.2.2.2.2.2.2.2.1, cxG2 (fun o k z => h o k (fun e => by subst e; rw [sinc_ok (S := zxG2) rfl] at z; cases z) (fun e => by subst e; rw [sinc_ok (S := zxG2) rfl] at z; cases z) (fun e => by subst e; rw [sinc_ok (S := zxG2) rfl] at z; cases z) (fun e => by subst e; rw [sinc_ok (S := zxG2) rfl] at z; cases z) (fun e => by subst e; rw [sinc_ok (S := zxG2) rfl] at z; cases z)) hx.2.2.2.2.2.2.2.2.2.2.2.2.1, cxG3 (fun o k z => h o k (fun e => by subst e; rw [sinc_ok (S := zxG3) rfl] at z; cases z) (fun e => by subst e; rw [sinc_ok (S := zxG3) rfl] at z; cases z) (fun e => by subst e; rw [sinc_ok (S := zxG3) rfl] at z; cases z) (fun e => by subst e; rw [sinc_ok (S := zxG3) rfl] at z; cases z) (fun e => by subst e; rw [sinc_ok (S := zxG3) rfl] at z; cases z)) hx.2.2.2.2.2.2.2.2.2.2.2.2.2.1, cxG4 (fun o k z => h o k (fun e => by subst e; rw [sinc_ok (S := zxG4) rfl] at z; cases z) (fun e => by subst e; rw [sinc_ok (S := zxG4) rfl] at z; cases z) (fun e => by subst e; rw [sinc_ok (S := zxG4) rfl] at z; cases z) (fun e => by subst e; rw [sinc_ok (S := zxG4) rfl] at z; cases z) (fun e => by subst e; rw [sinc_ok (S := zxG4) rfl] at z; cases z)) hx.2.2.2.2.2.2.2.2.2.2.2.2.2.2.1, cxG5 (fun o k z => h o k (fun e => by subst e; rw [sinc_ok (S := zxG5) rfl] at z; cases z) (fun e => by subst e; rw [sinc_ok (S := zxG5) rfl] at z; cases z) (fun e => by subst e; rw [sinc_ok (S := zxG5) rfl] at z; cases z) (fun e => by subst e; rw [sinc_ok (S := zxG5) rfl] at z; cases z) (fun e => by subst e; rw [sinc_ok (S := zxG5) rfl] at z; cases z)) hx.2.2.2.2.2.2.2.2.2.2.2.2.2.2.2.1, cxG6 (fun o k z => h o k (fun e => by subst e; rw [sinc_ok (S := zxG6) rfl] at z; cases z) (fun e => by subst e; rw [sinc_ok (S := zxG6) rfl] at z; cases z) (fun e => by subst e; rw [sinc_ok (S := zxG6) rfl] at z; cases z) (fun e => by subst e; rw [sinc_ok (S := zxG6) rfl] at z; cases z) (fun e => by subst e; rw [sinc_ok (S := zxG6) rfl] at z; cases z)) hx.2.2.2.2.2.2.2.2.2.2.2.2.2.2.2.2.1, hc⟩
theorem xi_34 {M M' : sM} (h : ∀ o k, o ≠ 3 → o ≠ 4 → M' o k = M o k) (hx : XI M) (hc : XC M') : XI M' := ⟨xi2_congr (fun o k z _ => h o k (fun e => by subst e; rw [sinc_ok (S := zPl0) rfl] at z; cases z) (fun e => by subst e; rw [sinc_ok (S := zPl0) rfl] at z; cases z)) hx.1, xi3_congr (fun o k z _ => h o k (fun e => by subst e; rw [sinc_ok (S := zPl0) rfl] at z; cases z) (fun e => by subst e; rw [sinc_ok (S := zPl0) rfl] at z; cases z)) hx.2.1, cXA (fun o k z => h o k (fun e => by subst e; rw [sinc_ok (S := zXA) rfl] at z; cases z) (fun e => by subst e; rw [sinc_ok (S := zXA) rfl] at z; cases z)) hx.2.2.1, cxN1 (fun o k z => h o k (fun e => by subst e; rw [sinc_ok (S := zxN1) rfl] at z; cases z) (fun e => by subst e; rw [sinc_ok (S := zxN1) rfl] at z; cases z)) hx.2.2.2.1, cxN2 (fun o k z => h o k (fun e => by subst e; rw [sinc_ok (S := zxN2) rfl] at z; cases z) (fun e => by subst e; rw [sinc_ok (S := zxN2) rfl] at z; cases z)) hx.2.2.2.2.1, cxN3 (fun o k z => h o k (fun e => by subst e; rw [sinc_ok (S := zxN3) rfl] at z; cases z) (fun e => by subst e; rw [sinc_ok (S := zxN3) rfl] at z; cases z)) hx.2.2.2.2.2.1, cxN4 (fun o k z => h o k (fun e => by subst e; rw [sinc_ok (S := zxN4) rfl] at z; cases z) (fun e => by subst e; rw [sinc_ok (S := zxN4) rfl] at z; cases z)) hx.2.2.2.2.2.2.1, cxN5 (fun o k z => h o k (fun e => by subst e; rw [sinc_ok (S := zxN5) rfl] at z; cases z) (fun e => by subst e; rw [sinc_ok (S := zxN5) rfl] at z; cases z)) hx.2.2.2.2.2.2.2.1, cxN6 (fun o k z => h o k (fun e => by subst e; rw [sinc_ok (S := zxN6) rfl] at z; cases z) (fun e => by subst e; rw [sinc_ok (S := zxN6) rfl] at z; cases z)) hx.2.2.2.2.2.2.2.2.1, cxH1 (fun o k z => h o k (fun e => by subst e; rw [sinc_ok (S := zxH1) rfl] at z; cases z) (fun e => by subst e; rw [sinc_ok (S := zxH1) rfl] at z; cases z)) hx.2.2.2.2.2.2.2.2.2.1, cxK1 (fun o k z => h o k (fun e => by subst e; rw [sinc_ok (S := zxK1) rfl] at z; cases z) (fun e => by subst e; rw [sinc_ok (S := zxK1) rfl] at z; cases z)) hx.2.2.2.2.2.2.2.2.2.2.1, cxC1 (fun o k z => h o k (fun e => by subst e; rw [sinc_ok (S := zxC1) rfl] at z; cases z) (fun e => by subst e; rw [sinc_ok (S := zxC1) rfl] at z; cases z)) hx.2.2.2.2.2.2.2.2.2.2.2.1, cxRW (fun o k z => h o k (fun e => by subst e; rw [sinc_ok (S := zxRW) rfl] at z; cases z) (fun e => by subst e; rw [sinc_ok (S := zxRW) rfl] at z; cases z)) hx.2.2.2.2.2.2.2.2.2.2.2.2.1, cxWT (fun o k z => h o k (fun e => by subst e; rw [sinc_ok (S := zxWT) rfl] at z; cases z) (fun e => by subst e; rw [sinc_ok (S := zxWT) rfl] at z; cases z)) hx.2.2.2.2.2.2.2.2.2.2.2.2.2.1, cxCU (fun o k z => h o k (fun e => by subst e; rw [sinc_ok (S := zxCU) rfl] at z; cases z) (fun e => by subst e; rw [sinc_ok (S := zxCU) rfl] at z; cases z)) hx.2.2.2.2.2.2.2.2.2.2.2.2.2.2.1, cxG2 (fun o k z => h o k (fun e => by subst e; rw [sinc_ok (S := zxG2) rfl] at z; cases z) (fun e => by subst e; rw [sinc_ok (S := zxG2) rfl] at z; cases z)) hx.2.2.2.2.2.2.2.2.2.2.2.2.2.2.2.1, cxG3 (fun o k z => h o k (fun e => by subst e; rw [sinc_ok (S := zxG3) rfl] at z; cases z) (fun e => by subst e; rw [sinc_ok (S := zxG3) rfl] at z; cases z)) hx.2.2.2.2.2.2.2.2.2.2.2.2.2.2.2.2.1, cxG4 (fun o k z => h o k (fun e => by subst e; rw [sinc_ok (S := zxG4) rfl] at z; cases z) (fun e => by subst e; rw [sinc_ok (S := zxG4) rfl] at z; cases z)) hx.2.2.2.2.2.2.2.2.2.2.2.2.2.2.2.2.2.1, cxG5 (fun o k z => h o k (fun e => by subst e; rw [sinc_ok (S := zxG5) rfl] at z; cases z) (fun e => by subst e; rw [sinc_ok (S := zxG5) rfl] at z; cases z)) hx.2.2.2.2.2.2.2.2.2.2.2.2.2.2.2.2.2.2.1, cxG6 (fun o k z => h o k (fun e => by subst e; rw [sinc_ok (S := zxG6) rfl] at z; cases z) (fun e => by subst e; rw [sinc_ok (S := zxG6) rfl] at z; cases z)) hx.2.2.2.2.2.2.2.2.2.2.2.2.2.2.2.2.2.2.2.1, hc⟩
/-- the arrays of numbers: cell, kind, length -/
def sAr : List (Nat × Nat × Nat) := [(1, 21, 700), (5, 20, 3), (6, 20, 3), (7, 20, 3), (8, 20, 24), (10, 20, 64), (12, 20, 64), (31, 20, 3), (32, 20, 3), (33, 20, 3), (34, 20, 24), (36, 20, 64), (38, 20, 64), (55, 20, 72), (57, 20, 24), (59, 20, 648), (60, 20, 216), (61, 23, 6), (62, 23, 64), (64, 20, 648), (65, 20, 216), (66, 23, 6), (67, 23, 64), (69, 20, 64), (70, 20, 64), (71, 20, 64), (73, 20, 90), (74, 20, 9), (75, 20, 9), (76, 20, 9), (78, 20, 24), (79, 20, 24), (80, 20, 24), (81, 20, 24), (82, 22, 24), (83, 20, 24), (85, 20, 9), (87, 20, 9), (89, 20, 9), (90, 20, 100), (92, 20, 700), (93, 20, 18), (94, 20, 18), (95, 20, 18), (96, 22, 18), (97, 20, 18), (98, 20, 18), (99, 20, 18), (100, 20, 12), (101, 20, 12), (102, 20, 12), (103, 20, 12), (104, 20, 6), (105, 20, 6), (106, 20, 6), (107, 20, 48), (108, 20, 4), (109, 20, 4), (110, 20, 128), (111, 20, 128), (112, 20, 23), (113, 20, 23), (114, 20, 23), (115, 20, 23), (116, 20, 23), (117, 20, 23), (118, 20, 23), (119, 20, 207), (120, 23, 6), (121, 23, 64), (122, 20, 648), (123, 20, 216), (124, 20, 90), (125, 20, 24), (126, 20, 24), (127, 20, 24), (128, 20, 24), (129, 20, 24), (130, 22, 24), (131, 23, 1)]
theorem sar_ok : sAr.all (fun q => decide (sLay[q.1]? = some (q.2.1, List.replicate q.2.2 (cond (Nat.beq q.2.1 23) 1 0, 0))) && (Nat.ble q.2.2 4096 && (Nat.ble 20 q.2.1 && Nat.ble q.2.1 23))) = true := by decide +kernel
/-- objects of a kind, one behind another: the first one, how many, class, fields -/
def sFm : List (Nat × Nat × Nat × Nat) := [(13, 9, 1, 6), (39, 9, 1, 6), (22, 6, 4, 4), (48, 6, 4, 4)]
theorem sfm_ok : sFm.all (fun q => (List.range q.2.1).all (fun j => decide (sLay[q.1 + j]? = some (q.2.2.1, List.replicate q.2.2.2 (0, 0))) && (List.range q.2.2.2).all (fun k => decide (sRg (q.1 + j) k = sRg q.1 k)))) = true := by decide +kernel
