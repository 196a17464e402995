/-! LEMMAS of the data: what a write leaves -/
def sDj (S S' : sSt) : Bool := S.all (fun p => S'.all (fun q => Nat.blt p.2.1 q.1 || (Nat.blt q.2.1 p.1 || (!(Nat.beq p.2.2 999) && (!(Nat.beq q.2.2 999) && !(Nat.beq p.2.2 q.2.2))))))
theorem sdj_ok {S S' : sSt} (h : sDj S S' = true) {o k : Nat} (hs : sIn S o k = true) : sIn S' o k = false := by
  cases hi : sIn S' o k with
  | false => rfl
  | true =>
    exfalso
    obtain ⟨p, hp, h1⟩ := List.any_eq_true.mp hs
    obtain ⟨q, hq, h2⟩ := List.any_eq_true.mp hi
    have h3 := List.all_eq_true.mp (List.all_eq_true.mp h p hp) q hq
    rw [Bool.and_eq_true, Bool.and_eq_true, Bool.or_eq_true] at h1 h2
    have a1 := Nat.le_of_ble_eq_true h1.1
    have a2 := Nat.le_of_ble_eq_true h1.2.1
    have b1 := Nat.le_of_ble_eq_true h2.1
    have b2 := Nat.le_of_ble_eq_true h2.2.1
    rw [Bool.or_eq_true, Bool.or_eq_true, Bool.and_eq_true, Bool.and_eq_true, Bool.not_eq_true', Bool.not_eq_true', Bool.not_eq_true'] at h3
    rcases h3 with h3 | h3 | ⟨h3, h4, h5⟩
    · have h3 : p.2.1 < q.1 := Nat.le_of_ble_eq_true h3
      omega
    · have h3 : q.2.1 < p.1 := Nat.le_of_ble_eq_true h3
      omega
    · rcases h1.2.2 with e | e
      · rw [e] at h3; cases h3
      · rcases h2.2.2 with f | f
        · rw [f] at h4; cases h4
        · have e := Nat.eq_of_beq_eq_true e
          have f := Nat.eq_of_beq_eq_true f
          rw [e, f, Nat.beq_refl] at h5; cases h5
/-- a place of the class by its index, on a road -/
def dBc (ro : Nat) (x : Nat) : Nat := (dBp.getD x (0, 0)).1 + (cond (Nat.beq ro 2) 0 26)
def dBk (x : Nat) : Nat := (dBp.getD x (0, 0)).2
theorem dbp_g {x : Nat} (h : x < 116) : dBp[x]? = some (dBp.getD x (0, 0)) := by
  have hl : x < dBp.length := h
  rw [List.getD_eq_getElem?_getD, List.getElem?_eq_getElem hl]
  rfl
theorem dup_g {x : Nat} (h : x < 116) : dUp[x]? = some (dUp.getD x (0, 0)) := by
  have hl : x < dUp.length := h
  rw [List.getD_eq_getElem?_getD, List.getElem?_eq_getElem hl]
  rfl
theorem dlp_g {x : Nat} (h : x < 116) : dLp[x]? = some (dLp.getD x (0, 0)) := by
  have hl : x < dLp.length := h
  rw [List.getD_eq_getElem?_getD, List.getElem?_eq_getElem hl]
  rfl
theorem dbp_inj : (List.range 116).all (fun i => (List.range 116).all (fun j => Nat.beq i j || !(Nat.beq (dBp.getD i (0, 0)).1 (dBp.getD j (0, 0)).1 && Nat.beq (dBp.getD i (0, 0)).2 (dBp.getD j (0, 0)).2))) = true := by decide +kernel
theorem dbp_b : dBp.all (fun q => Nat.ble 2 q.1 && Nat.ble q.1 27) = true := by decide +kernel
theorem dcl_g {M : sM} {r : Int} {i : Nat} (h : i < 116) : dCl M r i = if r = 2 then M (dBp.getD i (0, 0)).1 (dBp.getD i (0, 0)).2 else M ((dBp.getD i (0, 0)).1 + 26) (dBp.getD i (0, 0)).2 := by
  unfold dCl
  rw [dbp_g h]
theorem dru_g {M : sM} {i : Nat} (h : i < 116) : dRu M i = M (dUp.getD i (0, 0)).1 (dUp.getD i (0, 0)).2 := by
  unfold dRu
  rw [dup_g h]
theorem drl_g {M : sM} {i : Nat} (h : i < 116) : dRl M i = M (dLp.getD i (0, 0)).1 (dLp.getD i (0, 0)).2 := by
  unfold dRl
  rw [dlp_g h]
theorem dbp_in {i : Nat} (h : i < 116) : 2 ≤ (dBp.getD i (0, 0)).1 ∧ (dBp.getD i (0, 0)).1 ≤ 27 := by
  have hb := List.all_eq_true.mp dbp_b _ (List.mem_of_getElem? (dbp_g h))
  rw [Bool.and_eq_true] at hb
  exact ⟨Nat.le_of_ble_eq_true hb.1, Nat.le_of_ble_eq_true hb.2⟩
theorem dbp_ne {i x : Nat} (hi : i < 116) (hx : x < 116) (hn : i ≠ x) : ¬ ((dBp.getD i (0, 0)).1 = (dBp.getD x (0, 0)).1 ∧ (dBp.getD i (0, 0)).2 = (dBp.getD x (0, 0)).2) := by
  intro z
  have h := List.all_eq_true.mp (List.all_eq_true.mp dbp_inj i (List.mem_range.mpr hi)) x (List.mem_range.mpr hx)
  rw [Bool.or_eq_true] at h
  rcases h with h | h
  · exact hn (Nat.eq_of_beq_eq_true h)
  · rw [z.1, z.2, Nat.beq_refl, Nat.beq_refl] at h
    cases h
/-- a write at a place of the class leaves the others, and the other road -/
theorem dcl_ne {M W : sM} {ro x : Nat} (hro : ro = 2 ∨ ro = 28) (hx : x < 116) (hw : ∀ o k, 2 ≤ o → o ≠ 3 → o ≠ 4 → ¬ (o = dBc ro x ∧ k = dBk x) → W o k = M o k) {i : Nat} (hi : i < 116) (hn : i ≠ x) : dCl W ro i = dCl M ro i := by
  have b := dbp_in hi
  have ne := dbp_ne hi hx hn
  have n34 : (dBp.getD i (0, 0)).1 ≠ 3 ∧ (dBp.getD i (0, 0)).1 ≠ 4 := by
    have h : (List.range 116).all (fun i => !(Nat.beq (dBp.getD i (0, 0)).1 3) && !(Nat.beq (dBp.getD i (0, 0)).1 4)) = true := by decide +kernel
    have h2 := List.all_eq_true.mp h i (List.mem_range.mpr hi)
    rw [Bool.and_eq_true, Bool.not_eq_true', Bool.not_eq_true'] at h2
    exact ⟨fun e => by rw [e] at h2; exact absurd h2.1 (by decide), fun e => by rw [e] at h2; exact absurd h2.2 (by decide)⟩
  rw [dcl_g hi, dcl_g hi]
  rcases hro with rfl | rfl
  · rw [if_pos rfl, if_pos rfl]
    refine hw _ _ b.1 n34.1 n34.2 (fun z => ne ?_)
    unfold dBc dBk at z
    exact z
  · rw [if_neg (by decide), if_neg (by decide)]
    refine hw _ _ (by omega) (by omega) (by omega) (fun z => ne ?_)
    unfold dBc dBk at z
    have z1 : (dBp.getD i (0, 0)).1 + 26 = (dBp.getD x (0, 0)).1 + 26 := z.1
    exact ⟨by omega, z.2⟩
theorem dcl_ro {M W : sM} {ro x : Nat} {r : Int} (hro : ro = 2 ∨ ro = 28) (hr : r = 30 - (ro : Int)) (hx : x < 116) (hw : ∀ o k, 2 ≤ o → o ≠ 3 → o ≠ 4 → ¬ (o = dBc ro x ∧ k = dBk x) → W o k = M o k) {i : Nat} (hi : i < 116) : dCl W r i = dCl M r i := by
  have b := dbp_in hi
  have bx := dbp_in hx
  have n34 : (dBp.getD i (0, 0)).1 ≠ 3 ∧ (dBp.getD i (0, 0)).1 ≠ 4 := by
    have h : (List.range 116).all (fun i => !(Nat.beq (dBp.getD i (0, 0)).1 3) && !(Nat.beq (dBp.getD i (0, 0)).1 4)) = true := by decide +kernel
    have h2 := List.all_eq_true.mp h i (List.mem_range.mpr hi)
    rw [Bool.and_eq_true, Bool.not_eq_true', Bool.not_eq_true'] at h2
    exact ⟨fun e => by rw [e] at h2; exact absurd h2.1 (by decide), fun e => by rw [e] at h2; exact absurd h2.2 (by decide)⟩
  rw [dcl_g hi, dcl_g hi]
  rcases hro with rfl | rfl
  · rw [if_neg (by omega), if_neg (by omega)]
    refine hw _ _ (by omega) (by omega) (by omega) (fun z => ?_)
    unfold dBc at z
    have z1 : (dBp.getD i (0, 0)).1 + 26 = (dBp.getD x (0, 0)).1 + 0 := z.1
    omega
  · rw [if_pos (by omega), if_pos (by omega)]
    refine hw _ _ b.1 n34.1 n34.2 (fun z => ?_)
    unfold dBc at z
    have z1 : (dBp.getD i (0, 0)).1 = (dBp.getD x (0, 0)).1 + 26 := z.1
    omega
/-- the index of a place of the reference's upper half -/
def dBsl : List Nat := [108, 0, 1, 2, 3, 4, 5, 54, 55, 56, 57, 78, 79, 80, 87]
def dMul : List Nat := [1, 6, 6, 6, 6, 6, 6, 4, 4, 4, 4, 3, 3, 3, 1]
def dIx (c x : Nat) : Nat := dBsl.getD (c - 93) 0 + dMul.getD (c - 93) 0 * (x - dHf (c - 93))
theorem dup_x : (List.range 116).all (fun i => Nat.ble 93 (dUp.getD i (0, 0)).1 && (Nat.ble (dUp.getD i (0, 0)).1 107 && (Nat.ble (dHf ((dUp.getD i (0, 0)).1 - 93)) (dUp.getD i (0, 0)).2 && Nat.beq i (dIx (dUp.getD i (0, 0)).1 (dUp.getD i (0, 0)).2)))) = true := by decide +kernel
theorem dlp_x : (List.range 116).all (fun i => Nat.ble 93 (dLp.getD i (0, 0)).1 && (Nat.ble (dLp.getD i (0, 0)).1 107 && (Nat.blt (dLp.getD i (0, 0)).2 (dHf ((dLp.getD i (0, 0)).1 - 93)) && (Nat.beq (dUp.getD i (0, 0)).1 (dLp.getD i (0, 0)).1 && Nat.beq (dUp.getD i (0, 0)).2 (dHf ((dLp.getD i (0, 0)).1 - 93) + (dLp.getD i (0, 0)).2))))) = true := by decide +kernel
theorem dup_in {i : Nat} (h : i < 116) : 93 ≤ (dUp.getD i (0, 0)).1 ∧ (dUp.getD i (0, 0)).1 ≤ 107 ∧ dHf ((dUp.getD i (0, 0)).1 - 93) ≤ (dUp.getD i (0, 0)).2 ∧ i = dIx (dUp.getD i (0, 0)).1 (dUp.getD i (0, 0)).2 := by
  have h2 := List.all_eq_true.mp dup_x i (List.mem_range.mpr h)
  rw [Bool.and_eq_true, Bool.and_eq_true, Bool.and_eq_true] at h2
  exact ⟨Nat.le_of_ble_eq_true h2.1, Nat.le_of_ble_eq_true h2.2.1, Nat.le_of_ble_eq_true h2.2.2.1, Nat.eq_of_beq_eq_true h2.2.2.2⟩
theorem dlp_in {i : Nat} (h : i < 116) : 93 ≤ (dLp.getD i (0, 0)).1 ∧ (dLp.getD i (0, 0)).1 ≤ 107 ∧ (dLp.getD i (0, 0)).2 < dHf ((dLp.getD i (0, 0)).1 - 93) ∧ (dUp.getD i (0, 0)).1 = (dLp.getD i (0, 0)).1 ∧ (dUp.getD i (0, 0)).2 = dHf ((dLp.getD i (0, 0)).1 - 93) + (dLp.getD i (0, 0)).2 := by
  have h2 := List.all_eq_true.mp dlp_x i (List.mem_range.mpr h)
  rw [Bool.and_eq_true, Bool.and_eq_true, Bool.and_eq_true, Bool.and_eq_true] at h2
  exact ⟨Nat.le_of_ble_eq_true h2.1, Nat.le_of_ble_eq_true h2.2.1, Nat.le_of_ble_eq_true h2.2.2.1, Nat.eq_of_beq_eq_true h2.2.2.2.1, Nat.eq_of_beq_eq_true h2.2.2.2.2⟩
theorem dru_ne {M W : sM} {c x : Nat} (hw : ∀ o k, 93 ≤ o → o ≤ 107 → ¬ (o = c ∧ k = x) → W o k = M o k) {i : Nat} (hi : i < 116) (hn : ¬ (i = dIx c x ∧ dHf (c - 93) ≤ x)) : dRu W i = dRu M i := by
  have b := dup_in hi
  rw [dru_g hi, dru_g hi]
  refine hw _ _ b.1 b.2.1 (fun z => hn ?_)
  rw [z.1, z.2] at b
  exact ⟨b.2.2.2, b.2.2.1⟩
/-- a write in the upper half leaves the lower one, and the other way round -/
theorem drl_up {M W : sM} {c x : Nat} (hw : ∀ o k, 93 ≤ o → o ≤ 107 → ¬ (o = c ∧ k = x) → W o k = M o k) (hx : dHf (c - 93) ≤ x) {i : Nat} (hi : i < 116) : dRl W i = dRl M i := by
  have b := dlp_in hi
  rw [drl_g hi, drl_g hi]
  refine hw _ _ b.1 b.2.1 (fun z => ?_)
  rw [z.1, z.2] at b
  omega
theorem dru_lo {M W : sM} {c x : Nat} (hw : ∀ o k, 93 ≤ o → o ≤ 107 → ¬ (o = c ∧ k = x) → W o k = M o k) (hx : x < dHf (c - 93)) {i : Nat} (hi : i < 116) : dRu W i = dRu M i := by
  have b := dup_in hi
  rw [dru_g hi, dru_g hi]
  refine hw _ _ b.1 b.2.1 (fun z => ?_)
  rw [z.1, z.2] at b
  omega
theorem dcl_hi {M W : sM} {r : Int} {i : Nat} (h : ∀ o k, o ≤ 53 → o ≠ 4 → W o k = M o k) : dCl W r i = dCl M r i := dcl_w (fun q hq => by
  have hb := List.all_eq_true.mp dbp_b q (List.mem_of_getElem? hq)
  rw [Bool.and_eq_true] at hb
  have b2 := Nat.le_of_ble_eq_true hb.2
  have n4 : dBp.all (fun q => !(Nat.beq q.1 4)) = true := by decide +kernel
  have n4' := List.all_eq_true.mp n4 q (List.mem_of_getElem? hq)
  rw [Bool.not_eq_true'] at n4'
  have n5 : q.1 ≠ 4 := fun e => by rw [e] at n4'; exact absurd n4' (by decide)
  have b1 := Nat.le_of_ble_eq_true hb.1
  exact ⟨fun _ => h _ _ (by omega) n5, fun _ => h _ _ (by omega) (by omega)⟩)
/-- XD3 behind a write -/
theorem d3_upd {M W : sM} (h : xD3 M) (e3 : W 3 = M 3) (e92 : W 92 = M 92) (e4 : ∀ k, (100 ≤ k ∧ k ≤ 208) ∨ k = 313 ∨ k = 314 → W 4 k = M 4 k) (hd : M 4 100 ≠ 0 → ∀ i, i < 116 → dTi (M 4 104) (M 4 314) (M 4 105) (M 4 106) i → (i : Int) ≠ W 4 311 → (i : Int) ≠ M 4 311 ∧ dRn W i = dRn M i) : xD3 W := by
  intro hr
  rw [e4 100 (by omega)] at hr
  obtain ⟨d, a1, a2, a3⟩ := h hr
  have hT : tCf W = tCf M := by unfold tCf; rw [e3]
  refine ⟨d, ?_, ?_, fun i hi ht hh => ?_⟩
  · rw [e92, e4 101 (by omega), e4 207 (by omega), e4 208 (by omega), hT]; exact a1
  · rw [e4 314 (by omega), e4 104 (by omega), e4 313 (by omega)]; exact a2
  · rw [e4 104 (by omega), e4 314 (by omega), e4 105 (by omega), e4 106 (by omega)] at ht
    obtain ⟨b1, b2⟩ := hd hr i hi ht hh
    rw [b2]; exact a3 i hi ht b1
theorem d3_ru {M W : sM} {c x : Nat} (h : xD3 M) (e3 : W 3 = M 3) (e92 : W 92 = M 92) (e4 : ∀ k, (100 ≤ k ∧ k ≤ 208) ∨ k = 313 ∨ k = 314 → W 4 k = M 4 k) (hw : ∀ o k, 93 ≤ o → o ≤ 107 → ¬ (o = c ∧ k = x) → W o k = M o k) (hr : M 4 100 = 2) (hd : ∀ i, i < 116 → dTi (M 4 104) (M 4 314) (M 4 105) (M 4 106) i → (i : Int) ≠ W 4 311 → (i : Int) ≠ M 4 311 ∧ ¬ (i = dIx c x ∧ dHf (c - 93) ≤ x)) : xD3 W := d3_upd h e3 e92 e4 (fun _ i hi ht hh => by
  obtain ⟨b1, b2⟩ := hd i hi ht hh
  refine ⟨b1, ?_⟩
  unfold dRn
  rw [e4 100 (by omega), if_pos hr, if_pos hr]
  exact dru_ne hw hi b2)
/-- one more of a half is copied -/
theorem dp_cp {M W : sM} {a x : Nat} (ha : a < 15) (hx : x < dHf a) (h : xDP M) (z0 : M 4 100 = 0) (z3 : M 4 303 = 1) (e4 : ∀ k, (204 ≤ k ∧ k ≤ 206) ∨ k = 302 → W 4 k = M 4 k) (hw : ∀ o k, o ≠ 4 → o ≠ 91 → ¬ (o = 93 + a ∧ k = x) → W o k = M o k) (hv : W (93 + a) x = M (93 + a) (dHf a + x)) (hg : W 4 (330 + a) = (x : Int) + 1) (hg0 : M 4 (330 + a) = x) (ho : ∀ b, b < 15 → b ≠ a → W 4 (330 + b) = M 4 (330 + b)) : xDP W := by
  intro _ _
  obtain ⟨p1, p2⟩ := h z0 z3
  have hw2 : ∀ o k, 93 ≤ o → o ≤ 107 → ¬ (o = 93 + a ∧ k = x) → W o k = M o k := fun o k h1 h2 h3 => hw o k (by omega) (by omega) h3
  refine ⟨fun i hi ht => ?_, fun b hb => ?_⟩
  · rw [e4 204 (by omega), e4 205 (by omega), e4 206 (by omega)] at ht
    rw [e4 302 (by omega), dru_lo hw2 (by rw [show 93 + a - 93 = a by omega]; exact hx) hi, ← p1 i hi ht]
    refine dcl_w (fun q hq => ?_)
    have hb := List.all_eq_true.mp dbp_b q (List.mem_of_getElem? hq)
    rw [Bool.and_eq_true] at hb
    have b1 := Nat.le_of_ble_eq_true hb.1
    have b2 := Nat.le_of_ble_eq_true hb.2
    have n4 : q.1 ≠ 4 := by
      have h : dBp.all (fun q => !(Nat.beq q.1 4)) = true := by decide +kernel
      have h2 := List.all_eq_true.mp h q (List.mem_of_getElem? hq)
      rw [Bool.not_eq_true'] at h2
      intro e
      rw [e] at h2
      exact absurd h2 (by decide)
    exact ⟨fun _ => hw _ _ n4 (by omega) (by omega), fun _ => hw _ _ (by omega) (by omega) (by omega)⟩
  · by_cases e : b = a
    · subst e
      rw [hg]
      refine ⟨by omega, fun j hj => ?_⟩
      by_cases ej : j = x
      · subst ej
        rw [hv, hw _ _ (by omega) (by omega) (by omega)]
      · rw [hw _ j (by omega) (by omega) (fun z => ej z.2), hw _ (dHf b + j) (by omega) (by omega) (by omega)]
        exact (p2 b hb).2 j (by omega)
    · rw [ho b hb e]
      refine ⟨(p2 b hb).1, fun j hj => ?_⟩
      rw [hw _ j (by omega) (by omega) (by omega), hw _ (dHf b + j) (by omega) (by omega) (by omega)]
      exact (p2 b hb).2 j hj
/-- names are data -/
theorem tn1_d {M : sM} {r : Int} {j : Nat} (h : j < 9) : tN1 M r j = dCl M r (6 * j) := by
  have e : j = 0 ∨ j = 1 ∨ j = 2 ∨ j = 3 ∨ j = 4 ∨ j = 5 ∨ j = 6 ∨ j = 7 ∨ j = 8 := by omega
  rcases e with rfl | rfl | rfl | rfl | rfl | rfl | rfl | rfl | rfl <;> rfl
theorem tn2_d {M : sM} {r : Int} {j : Nat} (h : j < 6) : tN2 M r j = dCl M r (54 + 4 * j) := by
  have e : j = 0 ∨ j = 1 ∨ j = 2 ∨ j = 3 ∨ j = 4 ∨ j = 5 := by omega
  rcases e with rfl | rfl | rfl | rfl | rfl | rfl <;> rfl
theorem tn3_d {M : sM} {r : Int} {j : Nat} (h : j < 3) : tN3 M r j = dCl M r (78 + 3 * j) := by
  have e : j = 0 ∨ j = 1 ∨ j = 2 := by omega
  rcases e with rfl | rfl | rfl <;> rfl
def zDA : sSt := zDC ++ [(4, 4, 311)]
/-- places of the data of the class are written, and the hole -/
theorem xi_dA {M W : sM} (h : ∀ o k, sIn zDA o k = false → W o k = M o k) (hx : XI M) (h_xS4 : xS4 W) (h_xD3 : xD3 W) (h_xDV : xDV W) (h_xDP : xDP W) (h_xDE : xDE W) : XI W := by
  have hc : XC M := hx.2.2.2.2.2.2.2.2.2.2.2.2.2.2.2.2.2.2.2.2
  exact ⟨xi2_congr (fun o k z _ => h o k (sdj_ok (S := zPl0) (S' := zDA) (by decide +kernel) z)) hx.1, xi3_congr (fun o k z _ => h o k (sdj_ok (S := zPl0) (S' := zDA) (by decide +kernel) z)) hx.2.1, cXA (fun o k z => h o k (sdj_ok (S := zXA) (S' := zDA) (by decide +kernel) z)) hx.2.2.1, ⟨cxN1 (fun o k z => h o k (sdj_ok (S := zxN1) (S' := zDA) (by decide +kernel) z)) hx.2.2.2.1, cxN2 (fun o k z => h o k (sdj_ok (S := zxN2) (S' := zDA) (by decide +kernel) z)) hx.2.2.2.2.1, cxN3 (fun o k z => h o k (sdj_ok (S := zxN3) (S' := zDA) (by decide +kernel) z)) hx.2.2.2.2.2.1, cxN4 (fun o k z => h o k (sdj_ok (S := zxN4) (S' := zDA) (by decide +kernel) z)) hx.2.2.2.2.2.2.1, cxN5 (fun o k z => h o k (sdj_ok (S := zxN5) (S' := zDA) (by decide +kernel) z)) hx.2.2.2.2.2.2.2.1, cxN6 (fun o k z => h o k (sdj_ok (S := zxN6) (S' := zDA) (by decide +kernel) z)) hx.2.2.2.2.2.2.2.2.1, cxH1 (fun o k z => h o k (sdj_ok (S := zxH1) (S' := zDA) (by decide +kernel) z)) hx.2.2.2.2.2.2.2.2.2.1, cxK1 (fun o k z => h o k (sdj_ok (S := zxK1) (S' := zDA) (by decide +kernel) z)) hx.2.2.2.2.2.2.2.2.2.2.1, cxC1 (fun o k z => h o k (sdj_ok (S := zxC1) (S' := zDA) (by decide +kernel) z)) hx.2.2.2.2.2.2.2.2.2.2.2.1, cxRW (fun o k z => h o k (sdj_ok (S := zxRW) (S' := zDA) (by decide +kernel) z)) hx.2.2.2.2.2.2.2.2.2.2.2.2.1, cxWT (fun o k z => h o k (sdj_ok (S := zxWT) (S' := zDA) (by decide +kernel) z)) hx.2.2.2.2.2.2.2.2.2.2.2.2.2.1, cxCU (fun o k z => h o k (sdj_ok (S := zxCU) (S' := zDA) (by decide +kernel) z)) hx.2.2.2.2.2.2.2.2.2.2.2.2.2.2.1, cxG2 (fun o k z => h o k (sdj_ok (S := zxG2) (S' := zDA) (by decide +kernel) z)) hx.2.2.2.2.2.2.2.2.2.2.2.2.2.2.2.1, cxG3 (fun o k z => h o k (sdj_ok (S := zxG3) (S' := zDA) (by decide +kernel) z)) hx.2.2.2.2.2.2.2.2.2.2.2.2.2.2.2.2.1, cxG4 (fun o k z => h o k (sdj_ok (S := zxG4) (S' := zDA) (by decide +kernel) z)) hx.2.2.2.2.2.2.2.2.2.2.2.2.2.2.2.2.2.1, cxG5 (fun o k z => h o k (sdj_ok (S := zxG5) (S' := zDA) (by decide +kernel) z)) hx.2.2.2.2.2.2.2.2.2.2.2.2.2.2.2.2.2.2.1, cxG6 (fun o k z => h o k (sdj_ok (S := zxG6) (S' := zDA) (by decide +kernel) z)) hx.2.2.2.2.2.2.2.2.2.2.2.2.2.2.2.2.2.2.2.1, ⟨cxS1 (fun o k z => h o k (sdj_ok (S := zxS1) (S' := zDA) (by decide +kernel) z)) hc.1, cxS2 (fun o k z => h o k (sdj_ok (S := zxS2) (S' := zDA) (by decide +kernel) z)) hc.2.1, cxS3 (fun o k z => h o k (sdj_ok (S := zxS3) (S' := zDA) (by decide +kernel) z)) hc.2.2.1, h_xS4, cxS5 (fun o k z => h o k (sdj_ok (S := zxS5) (S' := zDA) (by decide +kernel) z)) hc.2.2.2.2.1, cxS6 (fun o k z => h o k (sdj_ok (S := zxS6) (S' := zDA) (by decide +kernel) z)) hc.2.2.2.2.2.1, cxS7 (fun o k z => h o k (sdj_ok (S := zxS7) (S' := zDA) (by decide +kernel) z)) hc.2.2.2.2.2.2.1, cxS8 (fun o k z => h o k (sdj_ok (S := zxS8) (S' := zDA) (by decide +kernel) z)) hc.2.2.2.2.2.2.2.1, cxS9 (fun o k z => h o k (sdj_ok (S := zxS9) (S' := zDA) (by decide +kernel) z)) hc.2.2.2.2.2.2.2.2.1, cxSA (fun o k z => h o k (sdj_ok (S := zxSA) (S' := zDA) (by decide +kernel) z)) hc.2.2.2.2.2.2.2.2.2.1, cxSG (fun o k z => h o k (sdj_ok (S := zxSG) (S' := zDA) (by decide +kernel) z)) hc.2.2.2.2.2.2.2.2.2.2.1, cxSF (fun o k z => h o k (sdj_ok (S := zxSF) (S' := zDA) (by decide +kernel) z)) hc.2.2.2.2.2.2.2.2.2.2.2.1, cxSB (fun o k z => h o k (sdj_ok (S := zxSB) (S' := zDA) (by decide +kernel) z)) hc.2.2.2.2.2.2.2.2.2.2.2.2.1, cxSC (fun o k z => h o k (sdj_ok (S := zxSC) (S' := zDA) (by decide +kernel) z)) hc.2.2.2.2.2.2.2.2.2.2.2.2.2.1, cxSD (fun o k z => h o k (sdj_ok (S := zxSD) (S' := zDA) (by decide +kernel) z)) hc.2.2.2.2.2.2.2.2.2.2.2.2.2.2.1, cxSE (fun o k z => h o k (sdj_ok (S := zxSE) (S' := zDA) (by decide +kernel) z)) hc.2.2.2.2.2.2.2.2.2.2.2.2.2.2.2.1, cxSW (fun o k z => h o k (sdj_ok (S := zxSW) (S' := zDA) (by decide +kernel) z)) hc.2.2.2.2.2.2.2.2.2.2.2.2.2.2.2.2.1, cxST (fun o k z => h o k (sdj_ok (S := zxST) (S' := zDA) (by decide +kernel) z)) hc.2.2.2.2.2.2.2.2.2.2.2.2.2.2.2.2.2.1, cxSP (fun o k z => h o k (sdj_ok (S := zxSP) (S' := zDA) (by decide +kernel) z)) hc.2.2.2.2.2.2.2.2.2.2.2.2.2.2.2.2.2.2.1, cxSL (fun o k z => h o k (sdj_ok (S := zxSL) (S' := zDA) (by decide +kernel) z)) hc.2.2.2.2.2.2.2.2.2.2.2.2.2.2.2.2.2.2.2.1, cxSM (fun o k z => h o k (sdj_ok (S := zxSM) (S' := zDA) (by decide +kernel) z)) hc.2.2.2.2.2.2.2.2.2.2.2.2.2.2.2.2.2.2.2.2.1, cxSI (fun o k z => h o k (sdj_ok (S := zxSI) (S' := zDA) (by decide +kernel) z)) hc.2.2.2.2.2.2.2.2.2.2.2.2.2.2.2.2.2.2.2.2.2.1, h_xD3, h_xDV, h_xDP, h_xDE, cxQ5 (fun o k z => h o k (sdj_ok (S := zxQ5) (S' := zDA) (by decide +kernel) z)) hc.2.2.2.2.2.2.2.2.2.2.2.2.2.2.2.2.2.2.2.2.2.2.2.2.2.2.1, cxQL (fun o k z => h o k (sdj_ok (S := zxQL) (S' := zDA) (by decide +kernel) z)) hc.2.2.2.2.2.2.2.2.2.2.2.2.2.2.2.2.2.2.2.2.2.2.2.2.2.2.2.1, cxQW (fun o k z => h o k (sdj_ok (S := zxQW) (S' := zDA) (by decide +kernel) z)) hc.2.2.2.2.2.2.2.2.2.2.2.2.2.2.2.2.2.2.2.2.2.2.2.2.2.2.2.2.1, cxQM (fun o k z => h o k (sdj_ok (S := zxQM) (S' := zDA) (by decide +kernel) z)) hc.2.2.2.2.2.2.2.2.2.2.2.2.2.2.2.2.2.2.2.2.2.2.2.2.2.2.2.2.2.1, cxQH (fun o k z => h o k (sdj_ok (S := zxQH) (S' := zDA) (by decide +kernel) z)) hc.2.2.2.2.2.2.2.2.2.2.2.2.2.2.2.2.2.2.2.2.2.2.2.2.2.2.2.2.2.2⟩⟩⟩
