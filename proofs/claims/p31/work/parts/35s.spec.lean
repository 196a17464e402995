/-! numbers of the machine as functions -/
def xop : Nat → Int → Int → Int
  | 0, a, b => (Int32.ofInt a >>> (Int32.ofInt b &&& 31)).toInt
  | 1, a, b => (Int32.ofInt a &&& Int32.ofInt b).toInt
  | 2, a, b => a * b
  | 4, a, b => (Int32.ofInt a <<< (Int32.ofInt b &&& 31)).toInt
  | 5, a, b => (Int32.ofInt a ||| Int32.ofInt b).toInt
  | _, a, b => (Int32.ofInt a - Int32.ofInt a / Int32.ofInt b * Int32.ofInt b).toInt
/-! WHAT A TEXT IS: bytes g (0 .. 255) below n; tokens; a machine of lines that takes one token at a time. Both readers are held against it. -/
/-- the first place from p on that is no blank -/
def tSkf (g : Nat → Int) (n : Nat) : Nat → Nat → Nat
  | 0, p => p
  | f + 1, p => if p < n ∧ (g p = 10 ∨ g p = 32) then tSkf g n f (p + 1) else p
def tSk (g : Nat → Int) (n p : Nat) : Nat := tSkf g n (n - p) p
theorem tsk_on {g : Nat → Int} {n p : Nat} (h : p < n) (hb : g p = 10 ∨ g p = 32) : tSk g n p = tSk g n (p + 1) := by
  unfold tSk
  rw [show n - p = (n - (p + 1)) + 1 by omega]
  show (if p < n ∧ (g p = 10 ∨ g p = 32) then tSkf g n (n - (p + 1)) (p + 1) else p) = _
  rw [if_pos ⟨h, hb⟩]
theorem tsk_at {g : Nat → Int} {n p : Nat} (h : ¬ (p < n ∧ (g p = 10 ∨ g p = 32))) : tSk g n p = p := by
  unfold tSk
  cases hf : n - p with
  | zero => rfl
  | succ f =>
    show (if p < n ∧ (g p = 10 ∨ g p = 32) then tSkf g n f (p + 1) else p) = p
    rw [if_neg h]
/-- how far bytes from lo to hi go on from p -/
def tEnf (g : Nat → Int) (lo hi : Int) (n : Nat) : Nat → Nat → Nat
  | 0, p => p
  | f + 1, p => if p < n ∧ (lo ≤ g p ∧ g p ≤ hi) then tEnf g lo hi n f (p + 1) else p
def tEn (g : Nat → Int) (lo hi : Int) (n p : Nat) : Nat := tEnf g lo hi n (n - p) p
theorem ten_on {g : Nat → Int} {lo hi : Int} {n p : Nat} (h : p < n) (hb : lo ≤ g p ∧ g p ≤ hi) : tEn g lo hi n p = tEn g lo hi n (p + 1) := by
  unfold tEn
  rw [show n - p = (n - (p + 1)) + 1 by omega]
  show (if p < n ∧ (lo ≤ g p ∧ g p ≤ hi) then tEnf g lo hi n (n - (p + 1)) (p + 1) else p) = _
  rw [if_pos ⟨h, hb⟩]
theorem ten_at {g : Nat → Int} {lo hi : Int} {n p : Nat} (h : ¬ (p < n ∧ (lo ≤ g p ∧ g p ≤ hi))) : tEn g lo hi n p = p := by
  unfold tEn
  cases hf : n - p with
  | zero => rfl
  | succ f =>
    show (if p < n ∧ (lo ≤ g p ∧ g p ≤ hi) then tEnf g lo hi n f (p + 1) else p) = p
    rw [if_neg h]
theorem tenf_b (g : Nat → Int) (lo hi : Int) (n : Nat) : ∀ f p : Nat, p ≤ tEnf g lo hi n f p ∧ (p ≤ n → tEnf g lo hi n f p ≤ n)
  | 0, p => ⟨Nat.le_refl p, fun h => h⟩
  | f + 1, p => by
    show p ≤ (if p < n ∧ (lo ≤ g p ∧ g p ≤ hi) then tEnf g lo hi n f (p + 1) else p) ∧ (p ≤ n → (if p < n ∧ (lo ≤ g p ∧ g p ≤ hi) then tEnf g lo hi n f (p + 1) else p) ≤ n)
    have h := tenf_b g lo hi n f (p + 1)
    split
    · rename_i hc
      exact ⟨by omega, fun _ => h.2 (by omega)⟩
    · exact ⟨Nat.le_refl p, fun h => h⟩
theorem ten_b (g : Nat → Int) (lo hi : Int) {n p : Nat} (h : p ≤ n) : p ≤ tEn g lo hi n p ∧ tEn g lo hi n p ≤ n := ⟨(tenf_b g lo hi n _ p).1, (tenf_b g lo hi n _ p).2 h⟩
theorem tskf_b (g : Nat → Int) (n : Nat) : ∀ f p : Nat, p ≤ tSkf g n f p ∧ (p ≤ n → tSkf g n f p ≤ n)
  | 0, p => ⟨Nat.le_refl p, fun h => h⟩
  | f + 1, p => by
    show p ≤ (if p < n ∧ (g p = 10 ∨ g p = 32) then tSkf g n f (p + 1) else p) ∧ (p ≤ n → (if p < n ∧ (g p = 10 ∨ g p = 32) then tSkf g n f (p + 1) else p) ≤ n)
    have h := tskf_b g n f (p + 1)
    split
    · rename_i hc
      exact ⟨by omega, fun _ => h.2 (by omega)⟩
    · exact ⟨Nat.le_refl p, fun h => h⟩
theorem tsk_b (g : Nat → Int) {n p : Nat} (h : p ≤ n) : p ≤ tSk g n p ∧ tSk g n p ≤ n := ⟨(tskf_b g n _ p).1, (tskf_b g n _ p).2 h⟩
/-- the first letters of a word as a number; digits as a number, no more than a million -/
def tPw : Nat → Int
  | 0 => 33554432
  | 1 => 1048576
  | 2 => 32768
  | 3 => 1024
  | 4 => 32
  | 5 => 1
  | _ => 0
def tPk (g : Nat → Int) (q : Nat) : Nat → Int
  | 0 => 0
  | j + 1 => tPk g q j + (g (q + j) - 96) * tPw j
def tNu (g : Nat → Int) (q : Nat) : Nat → Int
  | 0 => 0
  | j + 1 => if tNu g q j * 10 + g (q + j) - 48 ≤ 1000000 then tNu g q j * 10 + g (q + j) - 48 else 1000000
/-- the words of the language, by their letters -/
def tLa : List Int := [72814592, 251105888, 68386816, 140000896, 679777472, 773403648, 284773536, 620237824, 659011744, 642945024, 404455424, 781325312, 781651968, 412307456, 559296512, 522190848, 48365568, 486146048, 647828480, 273980692, 43581440, 284870656, 257544192, 650625184]
def tFk (x : Int) : List Int → Int → Int
  | [], _ => 4
  | y :: l, w => if y = x then w else tFk x l (w + 1)
def tKi (x : Int) (w : Nat) : Int := tFk x (tLa.drop w) (18 + w)
theorem tki_on {x y : Int} {w : Nat} (h : tLa[w]? = some y) : tKi x w = if y = x then (18 + w : Int) else tKi x (w + 1) := by
  have hw := (List.getElem?_eq_some_iff.mp h).1
  unfold tKi
  rw [List.drop_eq_getElem_cons hw, (List.getElem?_eq_some_iff.mp h).2]
  show (if y = x then ((18 + w : Nat) : Int) else tFk x (tLa.drop (w + 1)) (((18 + w : Nat) : Int) + 1)) = _
  split <;> simp <;> rfl
theorem tki_end {x : Int} {w : Nat} (h : 24 ≤ w) : tKi x w = 4 := by
  unfold tKi
  rw [List.drop_eq_nil_of_le (by show tLa.length ≤ w; exact h)]
  rfl
/-- a sign of one byte -/
def tSg (c : Int) : Int := if c = 59 then 5 else if c = 40 then 6 else if c = 41 then 7 else if c = 43 then 8 else if c = 45 then 9 else if c = 42 then 10 else if c = 47 then 11 else if c = 60 then 12 else if c = 61 then 14 else if c = 62 then 17 else 1
/-- digits as the reference holds them -/
def tNr (g : Nat → Int) (q : Nat) : Nat → Int
  | 0 => 0
  | j + 1 => if 99999 < tNr g q j then tNr g q j else 10 * tNr g q j + g (q + j) - 48
/-- a sign as the reference holds it: sort, value -/
def tSr (c : Int) : Int := if tSg c = 1 then 5 else 3
/-- a token: kind, value, place, end; sort and value as the reference has them -/
abbrev tTk : Type := Int × Int × Int × Int × Int × Int
def tWk (x : Int) (l : Nat) : Int := if 6 < l then 1 else tKi x 0
def tWs (x : Int) (l : Nat) : Int := if 6 < l then 5 else if tKi x 0 = 4 then 1 else 0
def tWv (x : Int) (l : Nat) : Int := if 6 < l then -1 else if tKi x 0 = 4 then x else tKi x 0 - 18
def tWo (g : Nat → Int) (n q : Nat) : tTk := (tWk (tPk g q (tEn g 97 122 n q - q)) (tEn g 97 122 n q - q), tPk g q (tEn g 97 122 n q - q), q, tEn g 97 122 n q, tWs (tPk g q (tEn g 97 122 n q - q)) (tEn g 97 122 n q - q), tWv (tPk g q (tEn g 97 122 n q - q)) (tEn g 97 122 n q - q))
def tAt (g : Nat → Int) (n q : Nat) (v w : Int) : tTk :=
  if n ≤ q then (2, v, q, q, 4, w)
  else if 97 ≤ g q ∧ g q ≤ 122 then tWo g n q
  else if 48 ≤ g q ∧ g q ≤ 57 then (3, tNu g q (tEn g 48 57 n q - q), q, tEn g 48 57 n q, 2, tNr g q (tEn g 48 57 n q - q))
  else if g q = 60 ∧ q + 1 < n ∧ g (q + 1) = 61 then (13, v, q, q + 2, 3, 256)
  else if g q = 60 ∧ q + 1 < n ∧ g (q + 1) = 62 then (15, v, q, q + 2, 3, 257)
  else if g q = 62 ∧ q + 1 < n ∧ g (q + 1) = 61 then (16, v, q, q + 2, 3, 258)
  else (tSg (g q), v, q, q + 1, tSr (g q), g q)
def tTo (g : Nat → Int) (n p : Nat) (v w : Int) : tTk := tAt g n (tSk g n p) v w
theorem tto_on {g : Nat → Int} {n p : Nat} {v w : Int} (h : p < n) (hb : g p = 10 ∨ g p = 32) : tTo g n p v w = tTo g n (p + 1) v w := by
  unfold tTo
  rw [tsk_on h hb]
theorem tto_at {g : Nat → Int} {n p : Nat} {v w : Int} (h : ¬ (p < n ∧ (g p = 10 ∨ g p = 32))) : tTo g n p v w = tAt g n p v w := by
  unfold tTo
  rw [tsk_at h]
theorem tki_b (x : Int) : ∀ (l : List Int) (w : Int), 18 ≤ w → w + l.length ≤ 42 → tFk x l w = 4 ∨ (18 ≤ tFk x l w ∧ tFk x l w ≤ 41)
  | [], w, _, _ => Or.inl rfl
  | y :: l, w, h1, h2 => by
    show (if y = x then w else tFk x l (w + 1)) = 4 ∨ (18 ≤ (if y = x then w else tFk x l (w + 1)) ∧ (if y = x then w else tFk x l (w + 1)) ≤ 41)
    rw [List.length_cons] at h2
    split
    · exact Or.inr ⟨h1, by omega⟩
    · exact tki_b x l (w + 1) (by omega) (by omega)
theorem tki_b0 (x : Int) : tKi x 0 = 4 ∨ (18 ≤ tKi x 0 ∧ tKi x 0 ≤ 41) := tki_b x tLa 18 (by decide) (by decide)
theorem tsg_b (c : Int) : 1 ≤ tSg c ∧ tSg c ≤ 17 := by
  unfold tSg
  repeat' split
  all_goals exact ⟨by decide, by decide⟩
theorem tat_b (g : Nat → Int) {n q : Nat} (v w : Int) (h : q ≤ n) : ∀ t, t = tAt g n q v w → (q : Int) = t.2.2.1 ∧ t.2.2.1 ≤ t.2.2.2.1 ∧ t.2.2.2.1 ≤ n ∧ (1 ≤ t.1 ∧ t.1 ≤ 41) ∧ (0 ≤ t.2.2.2.2.1 ∧ t.2.2.2.2.1 ≤ 5) ∧ (t.1 ≠ 2 → t.2.2.1 + 1 ≤ t.2.2.2.1) := by
  intro t ht
  unfold tAt at ht
  split at ht
  · subst ht
    exact ⟨rfl, Int.le_refl _, by show (q : Int) ≤ n; omega, ⟨by show (1 : Int) ≤ 2; decide, by show (2 : Int) ≤ 41; decide⟩, ⟨by show (0 : Int) ≤ 4; decide, by show (4 : Int) ≤ 5; decide⟩, fun h => absurd rfl h⟩
  rename_i hn
  split at ht
  · rename_i hb
    subst ht
    have e := ten_b g 97 122 (n := n) (p := q + 1) (by omega)
    have e2 := ten_on (n := n) (by omega) hb
    have hk := tki_b0 (tPk g q (tEn g 97 122 n q - q))
    refine ⟨rfl, ?_, ?_, ?_, ?_, fun _ => ?_⟩
    · show (q : Int) ≤ (tEn g 97 122 n q : Nat); omega
    · show ((tEn g 97 122 n q : Nat) : Int) ≤ n; omega
    · show 1 ≤ tWk _ _ ∧ tWk _ _ ≤ 41
      unfold tWk
      split <;> omega
    · show 0 ≤ tWs _ _ ∧ tWs _ _ ≤ 5
      unfold tWs
      repeat' split
      all_goals exact ⟨by decide, by decide⟩
    · show (q : Int) + 1 ≤ (tEn g 97 122 n q : Nat); omega
  split at ht
  · rename_i hb
    subst ht
    have e := ten_b g 48 57 (n := n) (p := q + 1) (by omega)
    have e2 := ten_on (n := n) (by omega) hb
    exact ⟨rfl, by show (q : Int) ≤ (tEn g 48 57 n q : Nat); omega, by show ((tEn g 48 57 n q : Nat) : Int) ≤ n; omega, ⟨by show (1 : Int) ≤ 3; decide, by show (3 : Int) ≤ 41; decide⟩, ⟨by show (0 : Int) ≤ 2; decide, by show (2 : Int) ≤ 5; decide⟩, fun _ => by show (q : Int) + 1 ≤ (tEn g 48 57 n q : Nat); omega⟩
  split at ht
  · subst ht
    exact ⟨rfl, by show (q : Int) ≤ q + 2; omega, by show (q : Int) + 2 ≤ n; omega, ⟨by show (1 : Int) ≤ 13; decide, by show (13 : Int) ≤ 41; decide⟩, ⟨by show (0 : Int) ≤ 3; decide, by show (3 : Int) ≤ 5; decide⟩, fun _ => by show (q : Int) + 1 ≤ q + 2; omega⟩
  split at ht
  · subst ht
    exact ⟨rfl, by show (q : Int) ≤ q + 2; omega, by show (q : Int) + 2 ≤ n; omega, ⟨by show (1 : Int) ≤ 15; decide, by show (15 : Int) ≤ 41; decide⟩, ⟨by show (0 : Int) ≤ 3; decide, by show (3 : Int) ≤ 5; decide⟩, fun _ => by show (q : Int) + 1 ≤ q + 2; omega⟩
  split at ht
  · subst ht
    exact ⟨rfl, by show (q : Int) ≤ q + 2; omega, by show (q : Int) + 2 ≤ n; omega, ⟨by show (1 : Int) ≤ 16; decide, by show (16 : Int) ≤ 41; decide⟩, ⟨by show (0 : Int) ≤ 3; decide, by show (3 : Int) ≤ 5; decide⟩, fun _ => by show (q : Int) + 1 ≤ q + 2; omega⟩
  · subst ht
    have e := tsg_b (g q)
    exact ⟨rfl, by show (q : Int) ≤ q + 1; omega, by show (q : Int) + 1 ≤ n; omega, ⟨e.1, by show tSg (g q) ≤ 41; omega⟩, by show 0 ≤ tSr (g q) ∧ tSr (g q) ≤ 5; unfold tSr; split <;> exact ⟨by decide, by decide⟩, fun _ => Int.le_refl _⟩
theorem tto_b (g : Nat → Int) {n p : Nat} (v w : Int) (h : p ≤ n) : (p : Int) ≤ (tTo g n p v w).2.2.1 ∧ (tTo g n p v w).2.2.1 ≤ (tTo g n p v w).2.2.2.1 ∧ (tTo g n p v w).2.2.2.1 ≤ n ∧ (1 ≤ (tTo g n p v w).1 ∧ (tTo g n p v w).1 ≤ 41) ∧ (0 ≤ (tTo g n p v w).2.2.2.2.1 ∧ (tTo g n p v w).2.2.2.2.1 ≤ 5) ∧ ((tTo g n p v w).1 ≠ 2 → (tTo g n p v w).2.2.1 + 1 ≤ (tTo g n p v w).2.2.2.1) := by
  have hs := tsk_b g h
  have hb := tat_b g (q := tSk g n p) v w hs.2 _ rfl
  unfold tTo
  refine ⟨by omega, hb.2⟩
/-! THE MACHINE OF LINES: registers, rows of a table (guards, what is changed, kind: 0 goes on, 1 goes on with the next token, 2 a fault, 3 the end; which fault). Names of a form: 0 is 1, register i is i + 1; 33 .. 36 are worked out. -/
abbrev tRow : Type := List qF × List (Nat × qF) × Nat × Nat
def tTab : List tRow := [([[(1, 1)], [(-1, 1)], [(-2, 0), (1, 25)], [(2, 0), (-1, 25)]], [], 3, 0),
  ([[(1, 1)], [(-1, 1)], [(-18, 0), (1, 25)], [(18, 0), (-1, 25)], [(-9, 0), (1, 5)]], [], 2, 2),
  ([[(1, 1)], [(-1, 1)], [(-18, 0), (1, 25)], [(18, 0), (-1, 25)], [(8, 0), (-1, 5)]], [(0, [(1, 0)])], 1, 0),
  ([[(1, 1)], [(-1, 1)], [(-19, 0), (1, 25)], [(19, 0), (-1, 25)], [(-6, 0), (1, 6)]], [], 2, 2),
  ([[(1, 1)], [(-1, 1)], [(-19, 0), (1, 25)], [(19, 0), (-1, 25)], [(5, 0), (-1, 6)]], [(0, [(6, 0)])], 1, 0),
  ([[(1, 1)], [(-1, 1)], [(-20, 0), (1, 25)], [(20, 0), (-1, 25)], [(-3, 0), (1, 7)]], [], 2, 2),
  ([[(1, 1)], [(-1, 1)], [(-20, 0), (1, 25)], [(20, 0), (-1, 25)], [(2, 0), (-1, 7)]], [(0, [(10, 0)])], 1, 0),
  ([[(1, 1)], [(-1, 1)], [(-21, 0), (1, 25)], [(21, 0), (-1, 25)]], [(0, [(13, 0)])], 1, 0),
  ([[(1, 1)], [(-1, 1)], [(-22, 0), (1, 25)], [(22, 0), (-1, 25)]], [(0, [(14, 0)])], 1, 0),
  ([[(1, 1)], [(-1, 1)], [(-23, 0), (1, 25)], [(23, 0), (-1, 25)], [(-1, 0), (1, 18)]], [], 2, 3),
  ([[(1, 1)], [(-1, 1)], [(-23, 0), (1, 25)], [(23, 0), (-1, 25)], [(-1, 18)]], [(0, [(2, 0)]), (1, []), (2, [(9, 0)]), (3, [(15, 0)]), (10, []), (17, [(1, 0)])], 1, 0),
  ([[(1, 1)], [(-1, 1)], [(-24, 0), (1, 25)], [(24, 0), (-1, 25)], [(-1, 0), (1, 19)]], [], 2, 3),
  ([[(1, 1)], [(-1, 1)], [(-24, 0), (1, 25)], [(24, 0), (-1, 25)], [(-1, 19)]], [(0, [(2, 0)]), (1, [(1, 0)]), (2, [(199, 0)]), (3, [(16, 0)]), (18, [(1, 0)])], 1, 0),
  ([[(1, 1)], [(-1, 1)], [(-25, 0), (1, 25)], [(25, 0), (-1, 25)], [(-1, 0), (1, 20)]], [], 2, 3),
  ([[(1, 1)], [(-1, 1)], [(-25, 0), (1, 25)], [(25, 0), (-1, 25)], [(-1, 20)]], [(0, [(2, 0)]), (1, []), (2, [(99, 0)]), (3, [(20, 0)]), (19, [(1, 0)])], 1, 0),
  ([[(1, 1)], [(-1, 1)], [(-26, 0), (1, 25)], [(26, 0), (-1, 25)], [(-1, 0), (1, 21)]], [], 2, 3),
  ([[(1, 1)], [(-1, 1)], [(-26, 0), (1, 25)], [(26, 0), (-1, 25)], [(-1, 21)]], [(0, [(2, 0)]), (1, [(1, 0)]), (2, [(20, 0)]), (3, [(20, 0)]), (20, [(1, 0)])], 1, 0),
  ([[(1, 1)], [(-1, 1)], [(-27, 0), (1, 25)], [(27, 0), (-1, 25)], [(-1, 0), (1, 22)]], [], 2, 3),
  ([[(1, 1)], [(-1, 1)], [(-27, 0), (1, 25)], [(27, 0), (-1, 25)], [(-1, 22)]], [(0, [(2, 0)]), (1, []), (2, [(99999, 0)]), (3, [(20, 0)]), (21, [(1, 0)])], 1, 0),
  ([[(1, 1)], [(-1, 1)], [(-28, 0), (1, 25)], [(28, 0), (-1, 25)]], [(0, [(17, 0)])], 1, 0),
  ([[(1, 1)], [(-1, 1)], [(1, 0), (-1, 25)]], [], 2, 1),
  ([[(1, 1)], [(-1, 1)], [(-3, 0), (1, 25)], [(17, 0), (-1, 25)]], [], 2, 1),
  ([[(1, 1)], [(-1, 1)], [(-29, 0), (1, 25)]], [], 2, 1),
  ([[(-1, 0), (1, 1)], [(1, 0), (-1, 1)], [(3, 0), (-1, 25)]], [], 2, 1),
  ([[(-1, 0), (1, 1)], [(1, 0), (-1, 1)], [(-5, 0), (1, 25)]], [], 2, 1),
  ([[(-1, 0), (1, 1)], [(1, 0), (-1, 1)], [(-4, 0), (1, 25)], [(4, 0), (-1, 25)], [(1, 29)]], [], 2, 3),
  ([[(-1, 0), (1, 1)], [(1, 0), (-1, 1)], [(-4, 0), (1, 25)], [(4, 0), (-1, 25)], [(-1, 0), (-1, 29)]], [(0, [(2, 0)]), (1, []), (2, [(99, 0)]), (3, [(3, 0)]), (9, [(1, 26)])], 1, 0),
  ([[(-6, 0), (1, 1)], [(6, 0), (-1, 1)], [(3, 0), (-1, 25)]], [], 2, 1),
  ([[(-6, 0), (1, 1)], [(6, 0), (-1, 1)], [(-5, 0), (1, 25)]], [], 2, 1),
  ([[(-6, 0), (1, 1)], [(6, 0), (-1, 1)], [(-4, 0), (1, 25)], [(4, 0), (-1, 25)], [(1, 29)]], [], 2, 3),
  ([[(-6, 0), (1, 1)], [(6, 0), (-1, 1)], [(-4, 0), (1, 25)], [(4, 0), (-1, 25)], [(-1, 0), (-1, 29)]], [(0, [(2, 0)]), (1, [(1, 0)]), (2, [(60, 0)]), (3, [(7, 0)]), (9, [(1, 26)])], 1, 0),
  ([[(-10, 0), (1, 1)], [(10, 0), (-1, 1)], [(3, 0), (-1, 25)]], [], 2, 1),
  ([[(-10, 0), (1, 1)], [(10, 0), (-1, 1)], [(-5, 0), (1, 25)]], [], 2, 1),
  ([[(-10, 0), (1, 1)], [(10, 0), (-1, 1)], [(-4, 0), (1, 25)], [(4, 0), (-1, 25)], [(1, 29)]], [], 2, 3),
  ([[(-10, 0), (1, 1)], [(10, 0), (-1, 1)], [(-4, 0), (1, 25)], [(4, 0), (-1, 25)], [(-1, 0), (-1, 29)]], [(0, [(2, 0)]), (1, [(1, 0)]), (2, [(9, 0)]), (3, [(11, 0)]), (9, [(1, 26)])], 1, 0),
  ([[(-2, 0), (1, 1)], [(2, 0), (-1, 1)], [(2, 0), (-1, 25)]], [], 2, 1),
  ([[(-2, 0), (1, 1)], [(2, 0), (-1, 1)], [(-4, 0), (1, 25)]], [], 2, 1),
  ([[(-2, 0), (1, 1)], [(2, 0), (-1, 1)], [(-3, 0), (1, 25)], [(3, 0), (-1, 25)], [(-1, 0), (1, 2), (-1, 26)]], [], 2, 2),
  ([[(-2, 0), (1, 1)], [(2, 0), (-1, 1)], [(-3, 0), (1, 25)], [(3, 0), (-1, 25)], [(-1, 2), (1, 26)], [(-1, 0), (-1, 3), (1, 26)]], [], 2, 2),
  ([[(-2, 0), (1, 1)], [(2, 0), (-1, 1)], [(-3, 0), (1, 25)], [(3, 0), (-1, 25)], [(-1, 2), (1, 26)], [(1, 3), (-1, 26)]], [(0, [(1, 4)])], 1, 0),
  ([[(-3, 0), (1, 1)], [(3, 0), (-1, 1)], [(1, 5)], [(-1, 5)]], [(40, [(1, 10)]), (4, [(1, 0)]), (0, [(4, 0)])], 0, 0),
  ([[(-3, 0), (1, 1)], [(3, 0), (-1, 1)], [(-1, 0), (1, 5)], [(1, 0), (-1, 5)]], [(41, [(1, 10)]), (4, [(2, 0)]), (0, [(4, 0)])], 0, 0),
  ([[(-3, 0), (1, 1)], [(3, 0), (-1, 1)], [(-2, 0), (1, 5)], [(2, 0), (-1, 5)]], [(42, [(1, 10)]), (4, [(3, 0)]), (0, [(4, 0)])], 0, 0),
  ([[(-3, 0), (1, 1)], [(3, 0), (-1, 1)], [(-3, 0), (1, 5)], [(3, 0), (-1, 5)]], [(43, [(1, 10)]), (4, [(4, 0)]), (0, [(4, 0)])], 0, 0),
  ([[(-3, 0), (1, 1)], [(3, 0), (-1, 1)], [(-4, 0), (1, 5)], [(4, 0), (-1, 5)]], [(44, [(1, 10)]), (4, [(5, 0)]), (0, [(4, 0)])], 0, 0),
  ([[(-3, 0), (1, 1)], [(3, 0), (-1, 1)], [(-5, 0), (1, 5)], [(5, 0), (-1, 5)]], [(45, [(1, 10)]), (4, [(6, 0)]), (0, [(4, 0)])], 0, 0),
  ([[(-3, 0), (1, 1)], [(3, 0), (-1, 1)], [(-6, 0), (1, 5)], [(6, 0), (-1, 5)]], [(46, [(1, 10)]), (4, [(7, 0)]), (0, [(4, 0)])], 0, 0),
  ([[(-3, 0), (1, 1)], [(3, 0), (-1, 1)], [(-7, 0), (1, 5)], [(7, 0), (-1, 5)]], [(47, [(1, 10)]), (4, [(8, 0)]), (0, [(4, 0)])], 0, 0),
  ([[(-3, 0), (1, 1)], [(3, 0), (-1, 1)], [(-8, 0), (1, 5)], [(8, 0), (-1, 5)]], [(48, [(1, 10)]), (4, [(9, 0)]), (0, [(4, 0)])], 0, 0),
  ([[(-4, 0), (1, 1)], [(4, 0), (-1, 1)], [(-29, 0), (1, 25)], [(29, 0), (-1, 25)]], [(0, [(5, 0)])], 1, 0),
  ([[(-4, 0), (1, 1)], [(4, 0), (-1, 1)], [(28, 0), (-1, 25)]], [(0, [(5, 0)])], 0, 0),
  ([[(-4, 0), (1, 1)], [(4, 0), (-1, 1)], [(-30, 0), (1, 25)]], [(0, [(5, 0)])], 0, 0),
  ([[(-5, 0), (1, 1)], [(5, 0), (-1, 1)], [(-30, 0), (1, 25)], [(30, 0), (-1, 25)]], [(0, [(21, 0)])], 1, 0),
  ([[(-5, 0), (1, 1)], [(5, 0), (-1, 1)], [(29, 0), (-1, 25)]], [(0, [(20, 0)])], 0, 0),
  ([[(-5, 0), (1, 1)], [(5, 0), (-1, 1)], [(-31, 0), (1, 25)]], [(0, [(20, 0)])], 0, 0),
  ([[(-21, 0), (1, 1)], [(21, 0), (-1, 1)], [(-9, 0), (1, 25)], [(9, 0), (-1, 25)]], [(0, [(2, 0)]), (1, []), (2, [(9, 0)]), (3, [(20, 0)])], 1, 0),
  ([[(-21, 0), (1, 1)], [(21, 0), (-1, 1)], [(8, 0), (-1, 25)]], [(0, [(2, 0)]), (1, []), (2, [(9, 0)]), (3, [(20, 0)])], 0, 0),
  ([[(-21, 0), (1, 1)], [(21, 0), (-1, 1)], [(-10, 0), (1, 25)]], [(0, [(2, 0)]), (1, []), (2, [(9, 0)]), (3, [(20, 0)])], 0, 0),
  ([[(-7, 0), (1, 1)], [(7, 0), (-1, 1)]], [(0, [(2, 0)]), (1, []), (2, [(99, 0)]), (3, [(8, 0)])], 0, 0),
  ([[(-8, 0), (1, 1)], [(8, 0), (-1, 1)]], [(0, [(2, 0)]), (1, []), (2, [(99, 0)]), (3, [(9, 0)])], 0, 0),
  ([[(-9, 0), (1, 1)], [(9, 0), (-1, 1)], [(1, 6)], [(-1, 6)]], [(50, [(1, 10)]), (5, [(1, 0)]), (0, [(20, 0)])], 0, 0),
  ([[(-9, 0), (1, 1)], [(9, 0), (-1, 1)], [(-1, 0), (1, 6)], [(1, 0), (-1, 6)]], [(51, [(1, 10)]), (5, [(2, 0)]), (0, [(20, 0)])], 0, 0),
  ([[(-9, 0), (1, 1)], [(9, 0), (-1, 1)], [(-2, 0), (1, 6)], [(2, 0), (-1, 6)]], [(52, [(1, 10)]), (5, [(3, 0)]), (0, [(20, 0)])], 0, 0),
  ([[(-9, 0), (1, 1)], [(9, 0), (-1, 1)], [(-3, 0), (1, 6)], [(3, 0), (-1, 6)]], [(53, [(1, 10)]), (5, [(4, 0)]), (0, [(20, 0)])], 0, 0),
  ([[(-9, 0), (1, 1)], [(9, 0), (-1, 1)], [(-4, 0), (1, 6)], [(4, 0), (-1, 6)]], [(54, [(1, 10)]), (5, [(5, 0)]), (0, [(20, 0)])], 0, 0),
  ([[(-9, 0), (1, 1)], [(9, 0), (-1, 1)], [(-5, 0), (1, 6)], [(5, 0), (-1, 6)]], [(55, [(1, 10)]), (5, [(6, 0)]), (0, [(20, 0)])], 0, 0),
  ([[(-11, 0), (1, 1)], [(11, 0), (-1, 1)]], [(0, [(2, 0)]), (1, []), (2, [(3, 0)]), (3, [(12, 0)])], 0, 0),
  ([[(-12, 0), (1, 1)], [(12, 0), (-1, 1)], [(1, 7)], [(-1, 7)]], [(60, [(1, 10)]), (6, [(1, 0)]), (0, [(20, 0)])], 0, 0),
  ([[(-12, 0), (1, 1)], [(12, 0), (-1, 1)], [(-1, 0), (1, 7)], [(1, 0), (-1, 7)]], [(61, [(1, 10)]), (6, [(2, 0)]), (0, [(20, 0)])], 0, 0),
  ([[(-12, 0), (1, 1)], [(12, 0), (-1, 1)], [(-2, 0), (1, 7)], [(2, 0), (-1, 7)]], [(62, [(1, 10)]), (6, [(3, 0)]), (0, [(20, 0)])], 0, 0),
  ([[(-13, 0), (1, 1)], [(13, 0), (-1, 1)], [(3, 0), (-1, 25)]], [], 2, 1),
  ([[(-13, 0), (1, 1)], [(13, 0), (-1, 1)], [(-5, 0), (1, 25)]], [], 2, 1),
  ([[(-13, 0), (1, 1)], [(13, 0), (-1, 1)], [(-4, 0), (1, 25)], [(4, 0), (-1, 25)], [(-1, 0), (-1, 29)]], [], 2, 4),
  ([[(-13, 0), (1, 1)], [(13, 0), (-1, 1)], [(-4, 0), (1, 25)], [(4, 0), (-1, 25)], [(1, 29)], [(-1, 0), (1, 30)]], [], 2, 3),
  ([[(-13, 0), (1, 1)], [(13, 0), (-1, 1)], [(-4, 0), (1, 25)], [(4, 0), (-1, 25)], [(1, 29)], [(-1, 30)]], [(0, [(2, 0)]), (1, []), (2, [(9, 0)]), (3, [(20, 0)]), (15, [(1, 35)])], 1, 0),
  ([[(-14, 0), (1, 1)], [(14, 0), (-1, 1)], [(3, 0), (-1, 25)]], [], 2, 1),
  ([[(-14, 0), (1, 1)], [(14, 0), (-1, 1)], [(-5, 0), (1, 25)]], [], 2, 1),
  ([[(-14, 0), (1, 1)], [(14, 0), (-1, 1)], [(-4, 0), (1, 25)], [(4, 0), (-1, 25)], [(-1, 0), (-1, 29)]], [], 2, 4),
  ([[(-14, 0), (1, 1)], [(14, 0), (-1, 1)], [(-4, 0), (1, 25)], [(4, 0), (-1, 25)], [(1, 29)], [(-1, 0), (1, 30)]], [], 2, 3),
  ([[(-14, 0), (1, 1)], [(14, 0), (-1, 1)], [(-4, 0), (1, 25)], [(4, 0), (-1, 25)], [(1, 29)], [(-1, 30)]], [(0, [(2, 0)]), (1, []), (2, [(99, 0)]), (3, [(20, 0)]), (16, [(1, 36)])], 1, 0),
  ([[(-15, 0), (1, 1)], [(15, 0), (-1, 1)], [(-3, 0), (1, 25)], [(3, 0), (-1, 25)], [(-23, 0), (1, 11)]], [], 2, 2),
  ([[(-15, 0), (1, 1)], [(15, 0), (-1, 1)], [(-3, 0), (1, 25)], [(3, 0), (-1, 25)], [(22, 0), (-1, 11)]], [(0, [(2, 0)]), (1, []), (2, [(9, 0)]), (3, [(15, 0)]), (10, [(1, 0), (1, 11)])], 0, 0),
  ([[(-15, 0), (1, 1)], [(15, 0), (-1, 1)], [(2, 0), (-1, 25)]], [(0, [(20, 0)])], 0, 0),
  ([[(-15, 0), (1, 1)], [(15, 0), (-1, 1)], [(-4, 0), (1, 25)]], [(0, [(20, 0)])], 0, 0),
  ([[(-16, 0), (1, 1)], [(16, 0), (-1, 1)]], [(0, [(2, 0)]), (1, []), (2, [(99, 0)]), (3, [(20, 0)])], 0, 0),
  ([[(-17, 0), (1, 1)], [(17, 0), (-1, 1)], [(-31, 0), (1, 25)], [(31, 0), (-1, 25)], [(-1, 0), (1, 23)]], [], 2, 3),
  ([[(-17, 0), (1, 1)], [(17, 0), (-1, 1)], [(-31, 0), (1, 25)], [(31, 0), (-1, 25)], [(-1, 23)]], [(0, [(18, 0)]), (11, []), (12, []), (13, []), (14, [(1, 0)]), (22, [(1, 0)])], 1, 0),
  ([[(-17, 0), (1, 1)], [(17, 0), (-1, 1)], [(-32, 0), (1, 25)], [(32, 0), (-1, 25)], [(-1, 0), (1, 24)]], [], 2, 3),
  ([[(-17, 0), (1, 1)], [(17, 0), (-1, 1)], [(-32, 0), (1, 25)], [(32, 0), (-1, 25)], [(-1, 24)]], [(0, [(18, 0)]), (11, []), (12, []), (13, []), (14, [(1, 0)]), (23, [(1, 0)])], 1, 0),
  ([[(-17, 0), (1, 1)], [(17, 0), (-1, 1)], [(30, 0), (-1, 25)]], [], 2, 1),
  ([[(-17, 0), (1, 1)], [(17, 0), (-1, 1)], [(-33, 0), (1, 25)]], [], 2, 1),
  ([[(-18, 0), (1, 1)], [(18, 0), (-1, 1)], [(-3, 0), (1, 25)], [(3, 0), (-1, 25)], [(-10000, 0), (1, 26)]], [], 2, 2),
  ([[(-18, 0), (1, 1)], [(18, 0), (-1, 1)], [(-3, 0), (1, 25)], [(3, 0), (-1, 25)], [(9999, 0), (-1, 26)], [(-64, 0), (1, 9)]], [], 2, 2),
  ([[(-18, 0), (1, 1)], [(18, 0), (-1, 1)], [(-3, 0), (1, 25)], [(3, 0), (-1, 25)], [(9999, 0), (-1, 26)], [(63, 0), (-1, 9)]], [(8, [(1, 0), (1, 9)]), (0, [(19, 0)])], 1, 0),
  ([[(-18, 0), (1, 1)], [(18, 0), (-1, 1)], [(-36, 0), (1, 25)], [(-64, 0), (1, 9)]], [], 2, 2),
  ([[(-18, 0), (1, 1)], [(18, 0), (-1, 1)], [(-36, 0), (1, 25)], [(63, 0), (-1, 9)]], [(8, [(1, 0), (1, 9)]), (0, [(19, 0)])], 1, 0),
  ([[(-18, 0), (1, 1)], [(18, 0), (-1, 1)], [(-6, 0), (1, 25)], [(6, 0), (-1, 25)], [(-8, 0), (1, 12)]], [], 2, 2),
  ([[(-18, 0), (1, 1)], [(18, 0), (-1, 1)], [(-6, 0), (1, 25)], [(6, 0), (-1, 25)], [(7, 0), (-1, 12)]], [(11, [(1, 0), (1, 12)]), (13, [(1, 13), (2, 14)]), (12, []), (14, [(1, 0)])], 1, 0),
  ([[(-18, 0), (1, 1)], [(18, 0), (-1, 1)], [(-35, 0), (1, 25)], [(35, 0), (-1, 25)], [(-1, 0), (1, 15)], [(-64, 0), (1, 9)]], [], 2, 2),
  ([[(-18, 0), (1, 1)], [(18, 0), (-1, 1)], [(-35, 0), (1, 25)], [(35, 0), (-1, 25)], [(-1, 0), (1, 15)], [(63, 0), (-1, 9)]], [(8, [(1, 0), (1, 9)])], 1, 0),
  ([[(-18, 0), (1, 1)], [(18, 0), (-1, 1)], [(2, 0), (-1, 25)]], [], 2, 1),
  ([[(-18, 0), (1, 1)], [(18, 0), (-1, 1)], [(-4, 0), (1, 25)], [(5, 0), (-1, 25)]], [], 2, 1),
  ([[(-18, 0), (1, 1)], [(18, 0), (-1, 1)], [(-7, 0), (1, 25)], [(34, 0), (-1, 25)]], [], 2, 1),
  ([[(-18, 0), (1, 1)], [(18, 0), (-1, 1)], [(-35, 0), (1, 25)], [(35, 0), (-1, 25)], [(-1, 15)]], [], 2, 1),
  ([[(-19, 0), (1, 1)], [(19, 0), (-1, 1)], [(-7, 0), (1, 25)], [(7, 0), (-1, 25)], [(-1, 0), (1, 12)]], [(11, [(-1, 0), (1, 12)]), (12, [(1, 33)]), (13, [(1, 34)])], 1, 0),
  ([[(-19, 0), (1, 1)], [(19, 0), (-1, 1)], [(-33, 0), (1, 25)], [(34, 0), (-1, 25)], [(-64, 0), (1, 9)]], [], 2, 2),
  ([[(-19, 0), (1, 1)], [(19, 0), (-1, 1)], [(-33, 0), (1, 25)], [(34, 0), (-1, 25)], [(63, 0), (-1, 9)]], [(8, [(1, 0), (1, 9)]), (12, []), (14, [(1, 0)]), (0, [(18, 0)])], 1, 0),
  ([[(-19, 0), (1, 1)], [(19, 0), (-1, 1)], [(-12, 0), (1, 25)], [(17, 0), (-1, 25)], [(-1, 0), (1, 13)]], [], 2, 1),
  ([[(-19, 0), (1, 1)], [(19, 0), (-1, 1)], [(-12, 0), (1, 25)], [(17, 0), (-1, 25)], [(-1, 13)], [(-64, 0), (1, 9)]], [], 2, 2),
  ([[(-19, 0), (1, 1)], [(19, 0), (-1, 1)], [(-12, 0), (1, 25)], [(17, 0), (-1, 25)], [(-1, 13)], [(63, 0), (-1, 9)]], [(8, [(1, 0), (1, 9)]), (12, [(1, 0)]), (14, []), (0, [(18, 0)])], 1, 0),
  ([[(-19, 0), (1, 1)], [(19, 0), (-1, 1)], [(-8, 0), (1, 25)], [(11, 0), (-1, 25)], [(-64, 0), (1, 9)]], [], 2, 2),
  ([[(-19, 0), (1, 1)], [(19, 0), (-1, 1)], [(-8, 0), (1, 25)], [(11, 0), (-1, 25)], [(63, 0), (-1, 9)]], [(8, [(1, 0), (1, 9)]), (14, []), (0, [(18, 0)])], 1, 0),
  ([[(-19, 0), (1, 1)], [(19, 0), (-1, 1)], [(-1, 12)], [(7, 0), (-1, 25)]], [(0, [(20, 0)])], 0, 0),
  ([[(-19, 0), (1, 1)], [(19, 0), (-1, 1)], [(-1, 12)], [(-18, 0), (1, 25)], [(32, 0), (-1, 25)]], [(0, [(20, 0)])], 0, 0),
  ([[(-19, 0), (1, 1)], [(19, 0), (-1, 1)], [(-1, 12)], [(-35, 0), (1, 25)]], [(0, [(20, 0)])], 0, 0),
  ([[(-19, 0), (1, 1)], [(19, 0), (-1, 1)], [(-1, 0), (1, 12)], [(6, 0), (-1, 25)]], [], 2, 1),
  ([[(-19, 0), (1, 1)], [(19, 0), (-1, 1)], [(-1, 0), (1, 12)], [(-18, 0), (1, 25)], [(32, 0), (-1, 25)]], [], 2, 1),
  ([[(-19, 0), (1, 1)], [(19, 0), (-1, 1)], [(-1, 0), (1, 12)], [(-35, 0), (1, 25)]], [], 2, 1),
  ([[(-20, 0), (1, 1)], [(20, 0), (-1, 1)], [(-5, 0), (1, 25)], [(5, 0), (-1, 25)]], [(7, [(1, 0), (1, 8)]), (0, [])], 1, 0),
  ([[(-20, 0), (1, 1)], [(20, 0), (-1, 1)], [(4, 0), (-1, 25)]], [], 2, 1),
  ([[(-20, 0), (1, 1)], [(20, 0), (-1, 1)], [(-6, 0), (1, 25)]], [], 2, 1)]
abbrev tC : Type := Nat → Int
/-- the first of the first n that is v -/
def tFi (f : Nat → Int) (v : Int) : Nat → Int
  | 0 => -1
  | n + 1 => if tFi f v n = -1 then (if f n = v then (n : Int) else -1) else tFi f v n
theorem tfi_b (f : Nat → Int) (v : Int) : ∀ n, -1 ≤ tFi f v n ∧ tFi f v n ≤ n - 1
  | 0 => ⟨Int.le_refl _, Int.le_refl _⟩
  | n + 1 => by
    have h := tfi_b f v n
    show -1 ≤ (if tFi f v n = -1 then (if f n = v then (n : Int) else -1) else tFi f v n) ∧ (if tFi f v n = -1 then (if f n = v then (n : Int) else -1) else tFi f v n) ≤ ((n + 1 : Nat) : Int) - 1
    split
    · split <;> omega
    · omega
theorem tfi_no {f : Nat → Int} {v : Int} {n : Nat} (h : tFi f v n = -1) (hn : f n ≠ v) : tFi f v (n + 1) = -1 := by
  show (if tFi f v n = -1 then (if f n = v then (n : Int) else -1) else tFi f v n) = -1
  rw [if_pos h, if_neg hn]
theorem tfi_hit {f : Nat → Int} {v : Int} {n : Nat} (h : tFi f v n = -1) (hn : f n = v) : ∀ m, n < m → tFi f v m = n
  | 0, hm => absurd hm (Nat.not_lt_zero _)
  | m + 1, hm => by
    show (if tFi f v m = -1 then (if f m = v then (m : Int) else -1) else tFi f v m) = n
    by_cases e : m = n
    · subst e
      rw [if_pos h, if_pos hn]
    · rw [tfi_hit h hn m (by omega), if_neg (by omega)]
def tRho (c : tC) (a : Nat) : Int := if a = 0 then 1 else if a = 33 then c 13 % 2 else if a = 34 then c 13 / 2 else if a = 35 then xop 5 (c 15) (xop 4 1 (c 28)) else if a = 36 then xop 5 (c 16) (xop 4 1 (c 28)) else c (a - 1)
def tUp (c : tC) (u : List (Nat × qF)) : tC := fun i => match u.find? (fun q => Nat.beq q.1 i) with
  | some q => qD (tRho c) q.2
  | none => c i
def tFo (c : tC) (v : Int) : Int := if c 0 = 6 then tFi (fun j => c (50 + j)) v (c 5).toNat else if c 0 = 10 then tFi (fun j => c (60 + j)) v (c 6).toNat else tFi (fun j => c (40 + j)) v (c 4).toNat
def tBi (c : tC) (f : Int) : Int := if c 0 = 13 then xop 1 (xop 0 (c 15) f) 1 else if c 0 = 14 then xop 1 (xop 0 (c 16) f) 1 else 0
def tSh (g : Nat → Int) (n : Nat) (c : tC) : tC := fun i =>
  if i = 24 then (tTo g n (c 27).toNat (c 25) (c 31)).1
  else if i = 25 then (tTo g n (c 27).toNat (c 25) (c 31)).2.1
  else if i = 26 then (tTo g n (c 27).toNat (c 25) (c 31)).2.2.1
  else if i = 27 then (tTo g n (c 27).toNat (c 25) (c 31)).2.2.2.1
  else if i = 28 then tFo c (tTo g n (c 27).toNat (c 25) (c 31)).2.1
  else if i = 29 then tBi c (tFo c (tTo g n (c 27).toNat (c 25) (c 31)).2.1)
  else if i = 30 then (tTo g n (c 27).toNat (c 25) (c 31)).2.2.2.2.1
  else if i = 31 then (tTo g n (c 27).toNat (c 25) (c 31)).2.2.2.2.2
  else c i
def tOk (c : tC) (r : tRow) : Prop := ∀ f ∈ r.1, 0 ≤ qD (tRho c) f
def tNew (g : Nat → Int) (n : Nat) (c : tC) (r : tRow) : tC := if r.2.2.1 = 1 then tSh g n (tUp c r.2.1) else tUp c r.2.1
def tGo (g : Nat → Int) (n : Nat) (c c' : tC) : Prop := ∃ r ∈ tTab, r.2.2.1 < 2 ∧ tOk c r ∧ c' = tNew g n c r
/-- how a text ends: fault, place, lines, bends, goods, sorts -/
abbrev tV : Type := Int × Int × Int × Int × Int × Int
def tVo (c : tC) (r : tRow) : tV := if r.2.2.1 = 2 then ((r.2.2.2 : Int), c 26, 0, 0, 0, 0) else (0, -1, c 7, c 4, c 5, c 6)
def tDn (c : tC) (v : tV) : Prop := ∃ r ∈ tTab, 2 ≤ r.2.2.1 ∧ tOk c r ∧ v = tVo c r
/-- no two rows at once -/
def tDj (r s : tRow) : Bool := r.1.any (fun f => s.1.any (fun h => match qKo (qAdd f h) with | some k => zNg k | none => false))
theorem tdj_no {c : tC} {r s : tRow} (h : tDj r s = true) (hr : tOk c r) (hs : tOk c s) : False := by
  obtain ⟨f, hf, h1⟩ := List.any_eq_true.mp h
  obtain ⟨k, hk, h2⟩ := List.any_eq_true.mp h1
  split at h2
  · rename_i z hz
    have e := qd_ko (ρ := tRho c) rfl hz
    rw [qd_add] at e
    have a := hr f hf
    have b := hs k hk
    cases z with
    | ofNat z => cases h2
    | negSucc z => omega
  · cases h2
theorem ttab_dj : (List.range tTab.length).all (fun i => (List.range i).all (fun j => tDj (tTab.getD i ([], [], 0, 0)) (tTab.getD j ([], [], 0, 0)))) = true := by decide +kernel
theorem t_gd {l : List tRow} {i : Nat} (h : i < l.length) {d : tRow} : l.getD i d = l[i] := by
  rw [List.getD_eq_getElem?_getD, List.getElem?_eq_getElem h]
  rfl
theorem trow_one {c : tC} {r s : tRow} (hr : r ∈ tTab) (hs : s ∈ tTab) (h1 : tOk c r) (h2 : tOk c s) : r = s := by
  obtain ⟨i, hi, rfl⟩ := List.getElem_of_mem hr
  obtain ⟨j, hj, rfl⟩ := List.getElem_of_mem hs
  have key : ∀ i j : Nat, (hi : i < tTab.length) → j < i → tDj (tTab.getD i ([], [], 0, 0)) (tTab.getD j ([], [], 0, 0)) = true := fun i j hi hj => List.all_eq_true.mp (List.all_eq_true.mp ttab_dj i (List.mem_range.mpr hi)) j (List.mem_range.mpr hj)
  rcases Nat.lt_trichotomy i j with h | h | h
  · have := key j i hj h
    rw [t_gd hj, t_gd hi] at this
    exact (tdj_no this h2 h1).elim
  · subst h; rfl
  · have := key i j hi h
    rw [t_gd hj, t_gd hi] at this
    exact (tdj_no this h1 h2).elim
def tC0 (g : Nat → Int) (n : Nat) (v w : Int) : tC := tSh g n (fun i => if i = 25 then v else if i = 31 then w else 0)
def tIt (g : Nat → Int) (n : Nat) (v w : Int) : Nat → tC → Prop
  | 0, c => c = tC0 g n v w
  | k + 1, c => ∃ c', tIt g n v w k c' ∧ tGo g n c' c
def tRe (g : Nat → Int) (n : Nat) (v w : Int) (c : tC) : Prop := ∃ k, tIt g n v w k c
def tFn (g : Nat → Int) (n : Nat) (v w : Int) (r : tV) : Prop := ∃ c, tRe g n v w c ∧ tDn c r
theorem tre_go {g : Nat → Int} {n : Nat} {v w : Int} {c c' : tC} (h : tRe g n v w c) (hs : tGo g n c c') : tRe g n v w c' := by
  obtain ⟨k, hk⟩ := h
  exact ⟨k + 1, c, hk, hs⟩
theorem tgo_one {g : Nat → Int} {n : Nat} {c a b : tC} (h : tGo g n c a) (h' : tGo g n c b) : a = b := by
  obtain ⟨r, hr, _, h1, rfl⟩ := h
  obtain ⟨s, hs, _, h2, rfl⟩ := h'
  rw [trow_one hr hs h1 h2]
theorem tgo_dn {g : Nat → Int} {n : Nat} {c a : tC} {v : tV} (h : tGo g n c a) (h' : tDn c v) : False := by
  obtain ⟨r, hr, h3, h1, _⟩ := h
  obtain ⟨s, hs, h4, h2, _⟩ := h'
  rw [trow_one hr hs h1 h2] at h3
  omega
theorem tit_one {g : Nat → Int} {n : Nat} {v w : Int} : ∀ {k : Nat} {a b : tC}, tIt g n v w k a → tIt g n v w k b → a = b
  | 0, a, b, h, h' => h.trans h'.symm
  | k + 1, a, b, ⟨a', h1, h2⟩, ⟨b', h3, h4⟩ => by
    have e := tit_one h1 h3
    subst e
    exact tgo_one h2 h4
theorem tit_le {g : Nat → Int} {n : Nat} {v w : Int} : ∀ {k : Nat} (j : Nat) {a : tC}, tIt g n v w (k + (j + 1)) a → ∃ b c, tIt g n v w k b ∧ tGo g n b c
  | k, 0, a, ⟨b, h1, h2⟩ => ⟨b, a, h1, h2⟩
  | k, j + 1, a, ⟨b, h1, _⟩ => tit_le j h1
theorem tfn_one {g : Nat → Int} {n : Nat} {v w : Int} {r r' : tV} (h : tFn g n v w r) (h' : tFn g n v w r') : r = r' := by
  obtain ⟨c, ⟨k, hk⟩, hd⟩ := h
  obtain ⟨c', ⟨k', hk'⟩, hd'⟩ := h'
  rcases Nat.lt_trichotomy k k' with hl | he | hl
  · obtain ⟨b, d, h1, h2⟩ := tit_le (k := k) (k' - k - 1) (by rw [show k + (k' - k - 1 + 1) = k' by omega]; exact hk')
    rw [tit_one hk h1] at hd
    exact (tgo_dn h2 hd).elim
  · subst he
    have e := tit_one hk hk'
    subst e
    obtain ⟨r1, hr, _, h1, rfl⟩ := hd
    obtain ⟨s, hs, _, h2, rfl⟩ := hd'
    rw [trow_one hr hs h1 h2]
  · obtain ⟨b, d, h1, h2⟩ := tit_le (k := k') (k - k' - 1) (by rw [show k' + (k - k' - 1 + 1) = k by omega]; exact hk)
    rw [tit_one hk' h1] at hd'
    exact (tgo_dn h2 hd').elim

