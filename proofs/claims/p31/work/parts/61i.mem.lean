/-! THE MEMORY BEHIND THE CONSTRUCTORS. -/
def uT : List (List Int) := [[1, 0, 0, (-1), 54, 2, 28, 58, 63, 68, 72, 77, 84, 86, 88, 0, 0, 90, 0],
  List.replicate 700 0,
  [3, 4, 5, 6, 7, 8, 9, 11, 0, 0, 0, 40, 10, 10, 5, 0, 0, 0],
  [13, 14, 15, 16, 17, 18, 19, 20, 21],
  [22, 23, 24, 25, 26, 27],
  List.replicate 3 0,
  List.replicate 3 0,
  List.replicate 3 0,
  List.replicate 24 5,
  [10, 0],
  List.replicate 64 0,
  [12, 0],
  List.replicate 64 0,
  List.replicate 6 0,
  List.replicate 6 0,
  List.replicate 6 0,
  List.replicate 6 0,
  List.replicate 6 0,
  List.replicate 6 0,
  List.replicate 6 0,
  List.replicate 6 0,
  List.replicate 6 0,
  List.replicate 4 0,
  List.replicate 4 0,
  List.replicate 4 0,
  List.replicate 4 0,
  List.replicate 4 0,
  List.replicate 4 0,
  [29, 30, 31, 32, 33, 34, 35, 37, 0, 0, 0, 40, 10, 10, 5, 0, 0, 0],
  [39, 40, 41, 42, 43, 44, 45, 46, 47],
  [48, 49, 50, 51, 52, 53],
  List.replicate 3 0,
  List.replicate 3 0,
  List.replicate 3 0,
  List.replicate 24 5,
  [36, 0],
  List.replicate 64 0,
  [38, 0],
  List.replicate 64 0,
  List.replicate 6 0,
  List.replicate 6 0,
  List.replicate 6 0,
  List.replicate 6 0,
  List.replicate 6 0,
  List.replicate 6 0,
  List.replicate 6 0,
  List.replicate 6 0,
  List.replicate 6 0,
  List.replicate 4 0,
  List.replicate 4 0,
  List.replicate 4 0,
  List.replicate 4 0,
  List.replicate 4 0,
  List.replicate 4 0,
  [56, 55, 0, 0, 28, 0, 0, 0, 0, 0, 0],
  List.replicate 72 0,
  [1, 57, 0, 0, 0, 0, 0],
  [72814592, 251105888, 68386816, 140000896, 679777472, 773403648, 284773536, 620237824, 659011744, 642945024, 404455424, 781325312, 781651968, 412307456, 559296512, 522190848, 48365568, 486146048, 647828480, 273980692, 43581440, 284870656, 257544192, 650625184],
  [59, 60, 61, 62, 2, 0, 0, 1],
  List.replicate 648 (-1),
  List.replicate 216 (-1),
  List.replicate 6 0,
  List.replicate 64 0,
  [64, 65, 66, 67, 2, 0, 0, 0],
  List.replicate 648 0,
  List.replicate 216 0,
  List.replicate 6 0,
  List.replicate 64 0,
  [69, 70, 71, 2, 0, 0, 0, 0, 0],
  List.replicate 64 0,
  List.replicate 64 0,
  List.replicate 64 0,
  [73, 74, 75, 76],
  List.replicate 90 0,
  List.replicate 9 0,
  List.replicate 9 0,
  List.replicate 9 0,
  [78, 79, 80, 81, 82, 83, 0, (-1)],
  List.replicate 24 0,
  List.replicate 24 0,
  List.replicate 24 0,
  List.replicate 24 0,
  List.replicate 24 0,
  List.replicate 24 0,
  [85, 0, 0, 0, 0, 0, 0, 0],
  List.replicate 9 0,
  [87, 0, 0, 0, 0, 0, 0, 0],
  List.replicate 9 0,
  [89, 0, 0, 0, 0, 0, 0, 0],
  List.replicate 9 0,
  List.replicate 100 0,
  [0, 92, 0, 93, 94, 95, 96, 97, 98, 99, 100, 101, 102, 103, 104, 105, 106, 107, 108, 109, 110, 111, 0, 0, 0, 0, 0, 0, 0, 0, 0, 0, 0, 0, (-1), 0, 0, 112, 113, 114, 115, 116, 117, 118, 119, 0, 0, 120, 121, 0, (-1), 122, 123, 0, 0, 0, 0, 0, 0, 124, 0, 0, (-1), 125, 126, 127, 128, 129, 130, 0, 0, 0, 0, 0, 0, 0],
  List.replicate 700 0,
  [0, 0, 0, 40, 10, 10, 5, 0, 0, 0, 0, 0, 40, 10, 10, 5, 0, 0],
  List.replicate 18 0,
  List.replicate 18 0,
  List.replicate 18 0,
  List.replicate 18 0,
  List.replicate 18 0,
  List.replicate 18 0,
  List.replicate 12 0,
  List.replicate 12 0,
  List.replicate 12 0,
  List.replicate 12 0,
  List.replicate 6 0,
  List.replicate 6 0,
  List.replicate 6 0,
  [5, 5, 5, 5, 5, 5, 5, 5, 5, 5, 5, 5, 5, 5, 5, 5, 5, 5, 5, 5, 5, 5, 5, 5, 0, 0, 0, 0, 0, 0, 0, 0, 0, 0, 0, 0, 0, 0, 0, 0, 0, 0, 0, 0, 0, 0, 0, 0],
  List.replicate 4 0,
  List.replicate 4 0,
  List.replicate 128 0,
  List.replicate 128 0,
  List.replicate 23 0,
  List.replicate 23 0,
  List.replicate 23 0,
  List.replicate 23 0,
  List.replicate 23 0,
  List.replicate 23 0,
  List.replicate 23 0,
  List.replicate 207 0,
  List.replicate 6 0,
  List.replicate 64 0,
  List.replicate 648 0,
  List.replicate 216 0,
  List.replicate 90 0,
  List.replicate 24 0,
  List.replicate 24 0,
  List.replicate 24 0,
  List.replicate 24 0,
  List.replicate 24 0,
  List.replicate 24 0,
  [0]]
def uGh : List (Nat × Int) := [(990, -1), (991, 1), (992, 50), (993, 2), (984, 50), (975, 1), (995, 1), (974, 1), (987, 1), (958, -1)]
def uM0 : sM := fun o k => match cond (Nat.beq o 91) (uGh.find? (fun q => Nat.beq q.1 k)) none with
  | some q => q.2
  | none => (uT.getD o []).getD k 0
theorem u0_zero {o : Nat} (ho : o ≠ 91) (h : (uT.getD o []).all (fun x => x == 0) = true) (k : Nat) : uM0 o k = 0 := by
  unfold uM0
  have e : Nat.beq o 91 = false := by
    cases e : Nat.beq o 91 with
    | false => rfl
    | true => exact absurd (Nat.eq_of_beq_eq_true e) ho
  rw [e]
  show (uT.getD o []).getD k 0 = 0
  rw [List.getD_eq_getElem?_getD]
  cases hk : (uT.getD o [])[k]? with
  | none => rfl
  | some x =>
    have h2 := List.all_eq_true.mp h x (List.mem_of_getElem? hk)
    show x = 0
    simpa using h2
theorem u_rep {M : sM} {o t m kd : Nat} {v : Int} (h : ∀ k, M o k = v) : sCell M o (t, List.replicate m (kd, 0)) = (t, List.replicate m (sE (sC (kd, 0) v))) := by
  unfold sCell
  refine Prod.ext rfl (List.ext_getElem? fun j => ?_)
  rw [List.getElem?_mapIdx]
  by_cases hj : j < m
  · rw [List.getElem?_replicate_of_lt hj, List.getElem?_replicate_of_lt hj]
    show some (sE (sC (kd, 0) (M o j))) = _
    rw [h]
  · rw [List.getElem?_eq_none (by rw [List.length_replicate]; omega), List.getElem?_eq_none (by rw [List.length_replicate]; omega)]
    rfl
def eqC (M : sM) : Nat → List sCl → pHp → Prop
  | _, [], [] => True
  | o, c :: l, d :: f => sCell M o c = d ∧ eqC M (o + 1) l f
  | _, _, _ => False
theorem eqc_at {M : sM} : ∀ {l : List sCl} {f : pHp} {o : Nat}, eqC M o l f → ∀ j : Nat, (l[j]?).map (sCell M (o + j)) = f[j]?
  | [], [], _, _, _ => rfl
  | c :: l, d :: f, o, h, 0 => by
    show some (sCell M o c) = some d
    rw [h.1]
  | c :: l, d :: f, o, h, j + 1 => by
    show (l[j]?).map (sCell M (o + (j + 1))) = f[j]?
    rw [show o + (j + 1) = o + 1 + j by omega]
    exact eqc_at h.2 j
  | [], _ :: _, _, h, _ => h.elim
  | _ :: _, [], _, h, _ => h.elim
theorem eqc_hp {M : sM} {lay : List sCl} {f : pHp} (h : eqC M 0 lay f) : sHp lay M = f := by
  refine List.ext_getElem? fun j => ?_
  have h1 := eqc_at h j
  rw [← h1]
  unfold sHp
  rw [List.getElem?_mapIdx, Nat.zero_add]
theorem u0_row {o m : Nat} {v : Int} (ho : o ≠ 91) (hv : v = 0 ∨ m = m) (h : uT.getD o [] = List.replicate m 0) (k : Nat) : uM0 o k = 0 := u0_zero ho (by rw [h]; exact List.all_eq_true.mpr (fun x hx => by rw [List.eq_of_mem_replicate hx]; rfl)) k
set_option maxRecDepth 100000 in
theorem u0_eq : eqC uM0 0 sLay fF := ⟨by decide +kernel, u_rep (u0_zero (o := 1) (by decide) (by decide +kernel)), by decide +kernel, by decide +kernel, by decide +kernel, u_rep (u0_zero (o := 5) (by decide) (by decide +kernel)), u_rep (u0_zero (o := 6) (by decide) (by decide +kernel)), u_rep (u0_zero (o := 7) (by decide) (by decide +kernel)), by decide +kernel, by decide +kernel, u_rep (u0_zero (o := 10) (by decide) (by decide +kernel)), by decide +kernel, u_rep (u0_zero (o := 12) (by decide) (by decide +kernel)), by decide +kernel, by decide +kernel, by decide +kernel, by decide +kernel, by decide +kernel, by decide +kernel, by decide +kernel, by decide +kernel, by decide +kernel, by decide +kernel, by decide +kernel, by decide +kernel, by decide +kernel, by decide +kernel, by decide +kernel, by decide +kernel, by decide +kernel, by decide +kernel, u_rep (u0_zero (o := 31) (by decide) (by decide +kernel)), u_rep (u0_zero (o := 32) (by decide) (by decide +kernel)), u_rep (u0_zero (o := 33) (by decide) (by decide +kernel)), by decide +kernel, by decide +kernel, u_rep (u0_zero (o := 36) (by decide) (by decide +kernel)), by decide +kernel, u_rep (u0_zero (o := 38) (by decide) (by decide +kernel)), by decide +kernel, by decide +kernel, by decide +kernel, by decide +kernel, by decide +kernel, by decide +kernel, by decide +kernel, by decide +kernel, by decide +kernel, by decide +kernel, by decide +kernel, by decide +kernel, by decide +kernel, by decide +kernel, by decide +kernel, by decide +kernel, u_rep (u0_zero (o := 55) (by decide) (by decide +kernel)), by decide +kernel, by decide +kernel, by decide +kernel, by decide +kernel, by decide +kernel, u_rep (u0_zero (o := 61) (by decide) (by decide +kernel)), u_rep (u0_zero (o := 62) (by decide) (by decide +kernel)), by decide +kernel, u_rep (u0_zero (o := 64) (by decide) (by decide +kernel)), u_rep (u0_zero (o := 65) (by decide) (by decide +kernel)), u_rep (u0_zero (o := 66) (by decide) (by decide +kernel)), u_rep (u0_zero (o := 67) (by decide) (by decide +kernel)), by decide +kernel, u_rep (u0_zero (o := 69) (by decide) (by decide +kernel)), u_rep (u0_zero (o := 70) (by decide) (by decide +kernel)), u_rep (u0_zero (o := 71) (by decide) (by decide +kernel)), by decide +kernel, u_rep (u0_zero (o := 73) (by decide) (by decide +kernel)), u_rep (u0_zero (o := 74) (by decide) (by decide +kernel)), u_rep (u0_zero (o := 75) (by decide) (by decide +kernel)), u_rep (u0_zero (o := 76) (by decide) (by decide +kernel)), by decide +kernel, u_rep (u0_zero (o := 78) (by decide) (by decide +kernel)), u_rep (u0_zero (o := 79) (by decide) (by decide +kernel)), u_rep (u0_zero (o := 80) (by decide) (by decide +kernel)), u_rep (u0_zero (o := 81) (by decide) (by decide +kernel)), u_rep (u0_zero (o := 82) (by decide) (by decide +kernel)), u_rep (u0_zero (o := 83) (by decide) (by decide +kernel)), by decide +kernel, u_rep (u0_zero (o := 85) (by decide) (by decide +kernel)), by decide +kernel, u_rep (u0_zero (o := 87) (by decide) (by decide +kernel)), by decide +kernel, u_rep (u0_zero (o := 89) (by decide) (by decide +kernel)), u_rep (u0_zero (o := 90) (by decide) (by decide +kernel)), by decide +kernel, u_rep (u0_zero (o := 92) (by decide) (by decide +kernel)), by decide +kernel, u_rep (u0_zero (o := 94) (by decide) (by decide +kernel)), u_rep (u0_zero (o := 95) (by decide) (by decide +kernel)), u_rep (u0_zero (o := 96) (by decide) (by decide +kernel)), u_rep (u0_zero (o := 97) (by decide) (by decide +kernel)), u_rep (u0_zero (o := 98) (by decide) (by decide +kernel)), u_rep (u0_zero (o := 99) (by decide) (by decide +kernel)), u_rep (u0_zero (o := 100) (by decide) (by decide +kernel)), u_rep (u0_zero (o := 101) (by decide) (by decide +kernel)), u_rep (u0_zero (o := 102) (by decide) (by decide +kernel)), u_rep (u0_zero (o := 103) (by decide) (by decide +kernel)), u_rep (u0_zero (o := 104) (by decide) (by decide +kernel)), u_rep (u0_zero (o := 105) (by decide) (by decide +kernel)), u_rep (u0_zero (o := 106) (by decide) (by decide +kernel)), by decide +kernel, u_rep (u0_zero (o := 108) (by decide) (by decide +kernel)), u_rep (u0_zero (o := 109) (by decide) (by decide +kernel)), u_rep (u0_zero (o := 110) (by decide) (by decide +kernel)), u_rep (u0_zero (o := 111) (by decide) (by decide +kernel)), u_rep (u0_zero (o := 112) (by decide) (by decide +kernel)), u_rep (u0_zero (o := 113) (by decide) (by decide +kernel)), u_rep (u0_zero (o := 114) (by decide) (by decide +kernel)), u_rep (u0_zero (o := 115) (by decide) (by decide +kernel)), u_rep (u0_zero (o := 116) (by decide) (by decide +kernel)), u_rep (u0_zero (o := 117) (by decide) (by decide +kernel)), u_rep (u0_zero (o := 118) (by decide) (by decide +kernel)), u_rep (u0_zero (o := 119) (by decide) (by decide +kernel)), u_rep (u0_zero (o := 120) (by decide) (by decide +kernel)), u_rep (u0_zero (o := 121) (by decide) (by decide +kernel)), u_rep (u0_zero (o := 122) (by decide) (by decide +kernel)), u_rep (u0_zero (o := 123) (by decide) (by decide +kernel)), u_rep (u0_zero (o := 124) (by decide) (by decide +kernel)), u_rep (u0_zero (o := 125) (by decide) (by decide +kernel)), u_rep (u0_zero (o := 126) (by decide) (by decide +kernel)), u_rep (u0_zero (o := 127) (by decide) (by decide +kernel)), u_rep (u0_zero (o := 128) (by decide) (by decide +kernel)), u_rep (u0_zero (o := 129) (by decide) (by decide +kernel)), u_rep (u0_zero (o := 130) (by decide) (by decide +kernel)), by decide +kernel, trivial⟩
theorem u0_hp : sHp sLay uM0 = fF := eqc_hp u0_eq
def uRgOk (o k : Nat) : Bool := match sRg o k with
  | some r => !(zNg (uM0 o k - r.1)) && !(zNg (r.2 - uM0 o k))
  | none => true
set_option maxRecDepth 1000000 in
theorem u0_rg : (List.range 132).all (fun o => (List.range 700).all (fun k => uRgOk o k)) = true := by decide +kernel
theorem u0_len : sRl.all (fun q => Nat.ble q.1 700) = true ∧ sRl.length = 132 := by decide +kernel
theorem u0_I0 : sI0 uM0 := by
  intro o k r hr
  have ho : o < 132 ∧ k < 700 := by
    unfold sRg at hr
    cases h : sRl[o]? with
    | none => rw [h] at hr; cases hr
    | some q =>
      have h1 := (List.getElem?_eq_some_iff.mp h).1
      rw [u0_len.2] at h1
      refine ⟨h1, ?_⟩
      rw [h] at hr
      obtain ⟨len, m, l⟩ := q
      have hr : cond (Nat.blt k len) ((l[k % m]?).getD none) none = some r := hr
      have h2 := Nat.le_of_ble_eq_true (List.all_eq_true.mp u0_len.1 _ (List.mem_of_getElem? h))
      cases hb : Nat.blt k len with
      | false => rw [hb] at hr; cases hr
      | true =>
        have h3 := zblt hb
        have h2 : len ≤ 700 := h2
        omega
  have h4 := List.all_eq_true.mp (List.all_eq_true.mp u0_rg o (List.mem_range.mpr ho.1)) k (List.mem_range.mpr ho.2)
  have h4 : uRgOk o k = true := h4
  unfold uRgOk at h4
  rw [hr] at h4
  have h4 : (!(zNg (uM0 o k - r.1)) && !(zNg (r.2 - uM0 o k))) = true := h4
  rw [Bool.and_eq_true, Bool.not_eq_true', Bool.not_eq_true'] at h4
  have h5 := zng_f h4.1
  have h6 := zng_f h4.2
  omega
theorem u0_I : sI uM0 := by
  have z101 := u0_zero (o := 101) (by decide) (by decide)
  have z103 := u0_zero (o := 103) (by decide) (by decide)
  have z109 := u0_zero (o := 109) (by decide) (by decide)
  have z113 := u0_zero (o := 113) (by decide) (by decide)
  have z114 := u0_zero (o := 114) (by decide) (by decide)
  have z110 := u0_zero (o := 110) (by decide) (by decide)
  have z111 := u0_zero (o := 111) (by decide) (by decide)
  refine ⟨u0_I0, by unfold XI2; decide +kernel, by unfold XI3; decide +kernel, ⟨?_, ?_, ?_, ?_, ?_, ?_, ?_, ?_, ?_, ?_, ?_, ?_, ?_, ?_, ?_⟩, ?_, ?_, ?_, ?_, ?_, ?_, ?_, ?_, ?_, ?_, ?_, ?_, ?_, ?_, ?_, ?_, ?_, ?_⟩
  · show uM0 91 993 = (if uM0 93 0 < 2 then 2 else uM0 93 0)
    decide +kernel
  · intro _ i _ _ _
    unfold xB
    rw [z113, z114]
    decide
  · intro i hi he
    have e : uM0 91 984 = 50 := by decide +kernel
    omega
  · have e : (uM0 93 17).toNat - (uM0 91 970).toNat = 0 := by decide +kernel
    exact ⟨by decide +kernel, by decide +kernel, fun j hj => absurd hj (by omega), by decide +kernel⟩
  · refine ⟨by rw [z110]; decide +kernel, by rw [z111]; decide +kernel, by decide +kernel, by decide +kernel, fun h => absurd h (by decide +kernel)⟩
  · intro _ k _ _
    rw [z109]
    exact ⟨by decide +kernel, fun j hj => absurd hj (by omega)⟩
  · intro _ k _ j hj
    rw [z109] at hj
    exact absurd hj (by omega)
  · intro j hj
    have e : uM0 91 976 = 0 := by decide +kernel
    omega
  · intro j hj
    have e : uM0 91 977 = 0 := by decide +kernel
    omega
  · intro j hj
    have e : uM0 91 978 = 0 := by decide +kernel
    omega
  · intro j hj
    have e : uM0 91 979 = 0 := by decide +kernel
    omega
  · intro h
    exact absurd h (by decide +kernel)
  · intro h
    exact absurd h (by decide +kernel)
  · intro h
    exact absurd h (by decide +kernel)
  · intro _
    exact ⟨fun _ => by decide +kernel, fun _ => by decide +kernel⟩
  · intro h
    exact absurd h (by decide +kernel)
  · intro h
    exact absurd h (by decide +kernel)
  · intro h
    exact absurd h (by decide +kernel)
  · intro h
    exact absurd h (by decide +kernel)
  · intro h
    exact absurd h (by decide +kernel)
  · intro h
    exact absurd h (by decide +kernel)
  · intro h
    exact absurd h (by decide +kernel)
  · intro h
    exact absurd h (by decide +kernel)
  · intro h
    exact absurd h (by decide +kernel)
  · intro h
    exact absurd h (by decide +kernel)
  · intro h
    exact absurd h (by decide +kernel)
  · intro h
    exact absurd h (by decide +kernel)
  · intro g _ _
    rw [z103, z101]
    decide
  · intro h
    exact absurd h (by decide +kernel)
  · intro j hj
    have e : uM0 91 956 = 0 := by decide +kernel
    omega
  · intro j hj
    have e : uM0 91 957 = 0 := by decide +kernel
    omega
  · intro _ g _
    rw [z103, z101]
    decide
  · have w276 : uM0 4 276 = 0 := by decide +kernel
    have w261 : uM0 4 261 = 0 := by decide +kernel
    have w262 : uM0 4 262 = 0 := by decide +kernel
    have w264 : uM0 4 264 = 0 := by decide +kernel
    have wl : (List.range 24).all (fun w => tLa[w]? == some (uM0 57 w)) = true := by decide +kernel
    exact ⟨fun h => absurd (show uM0 4 100 = 0 by decide +kernel) h, fun h => absurd (show uM0 4 100 = 0 by decide +kernel) h, fun h => absurd (show uM0 4 100 = 0 by decide +kernel) h, fun h => absurd h (by decide +kernel), fun h => absurd h (by decide +kernel), fun h => absurd h (by decide +kernel), fun h => absurd h (by decide +kernel), fun h => absurd h (by decide +kernel), fun h => absurd h (by decide +kernel), fun h => absurd h (by decide +kernel), fun h => absurd h (by decide +kernel), fun h => absurd h (by decide +kernel), fun h => absurd h (by decide +kernel), fun h => absurd h (by decide +kernel), fun h => absurd h (by decide +kernel), fun h => absurd h (by decide +kernel), ⟨by decide +kernel, by decide +kernel, by decide +kernel, by decide +kernel, fun i hi => by omega⟩, fun i hi => by omega, ⟨by decide +kernel, fun j _ h => by omega, fun j _ h => by omega⟩, fun w hw => eq_of_beq (List.all_eq_true.mp wl w (List.mem_range.mpr hw)), fun h => absurd h (by decide +kernel), fun h => absurd h (by decide +kernel)⟩
theorem u0_G : uG uM0 := ⟨2, Or.inl rfl, ⟨u0_I, by decide +kernel⟩, by unfold uTie; decide +kernel⟩
