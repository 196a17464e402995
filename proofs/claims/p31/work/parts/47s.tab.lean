/-! THE RULES, one by one. -/
def xr_1 : qRu := (5, [[(1, 1), (-1, 3)], [(71, 0), (-1, 1)], [(1, 1)], [(1, 2)], [(41, 0), (-1, 2)], [(1, 3)], [(1, 1), (-1, 4)]], [(54, 2, [(1, 3)]), (4, 276, [(1, 4)])], [(55, [(1, 1)], [(1, 2)])], [], [])
def xr_2 : qRu := (4, [[(-6, 0), (1, 3)], [(6, 0), (-1, 3)], [(1, 1)], [(71, 0), (-1, 1)]], [(54, 2, [(1, 1)]), (54, 998, [(1, 2)]), (55, 1001, [(1, 3)])], [(54, [(2, 0)], [(1, 0), (1, 1)])], [(54, 998, [(1, 0), (1, 2)]), (54, 997, [(1, 2)])], [])
def xr_3 : qRu := (4, [[(-7, 0), (1, 3)], [(1, 1)], [(71, 0), (-1, 1)]], [(54, 2, [(1, 1)]), (54, 998, [(1, 2)]), (55, 1001, [(1, 3)])], [(54, [(2, 0)], [(1, 0), (1, 1)])], [(54, 998, [(1, 2)]), (54, 997, [(1, 2)])], [])
def xr_4 : qRu := (4, [[(5, 0), (-1, 3)], [(1, 1)], [(71, 0), (-1, 1)]], [(54, 2, [(1, 1)]), (54, 998, [(1, 2)]), (55, 1001, [(1, 3)])], [(54, [(2, 0)], [(1, 0), (1, 1)])], [(54, 998, [(1, 2)]), (54, 997, [(1, 2)])], [])
def xr_5 : qRu := (3, [[(-1, 0), (1, 1)], [(72, 0), (-1, 1)]], [(54, 2, [(1, 1)]), (54, 997, [(1, 2)])], [(54, [(2, 0)], [(-1, 0), (1, 1)])], [(54, 998, [(1, 2)]), (54, 997, [(1, 3)])], [])
def xr_6 : qRu := (1, [], [], [(54, [(2, 0)], [])], [(54, 998, []), (54, 997, [])], [])
def xr_7 : qRu := (3, [[(1, 1)]], [(54, 2, [(1, 1)]), (54, 998, [(1, 2)])], [], [], [[(1, 1), (-1, 2)], [(1, 2)]])
def xr_8 : qRu := (6, [[(-1, 0), (1, 1), (-1, 4)], [(1, 0), (-1, 1), (1, 4)], [(-1, 0), (1, 1)], [(-7, 0), (1, 5)]], [(54, 2, [(1, 1)]), (54, 998, [(1, 2)]), (54, 997, [(1, 3)]), (55, 1004, [(1, 5)])], [], [], [[(1, 2), (-1, 3)], [(-1, 2), (1, 3)]])
def xr_9 : qRu := (6, [[(-1, 0), (1, 1), (-1, 4)], [(1, 0), (-1, 1), (1, 4)], [(-1, 0), (1, 1)], [(5, 0), (-1, 5)]], [(54, 2, [(1, 1)]), (54, 998, [(1, 2)]), (54, 997, [(1, 3)]), (55, 1004, [(1, 5)])], [], [], [[(1, 2), (-1, 3)], [(-1, 2), (1, 3)]])
def xr_10 : qRu := (4, [[(-1, 0), (1, 1)]], [(54, 2, [(1, 1)]), (54, 998, [(1, 2)]), (54, 997, [(1, 3)])], [], [], [[(1, 2), (-1, 3)], [(1, 0), (-1, 2), (1, 3)]])
theorem xc_ge {M M' : sM} {x : Nat} (h : ∀ k, k < x → M' 55 k = M 55 k) : ∀ t, t ≤ x → xC M' t = xC M t
  | 0, _ => rfl
  | t + 1, ht => by
    show xC M' t + (if M' 55 t = 6 then 1 else 0) = xC M t + (if M 55 t = 6 then 1 else 0)
    rw [xc_ge h t (by omega), h t (by omega)]
theorem xc_b (M : sM) : ∀ t : Nat, 0 ≤ xC M t ∧ xC M t ≤ t
  | 0 => ⟨Int.le_refl 0, Int.le_refl 0⟩
  | t + 1 => by
    have h := xc_b M t
    show 0 ≤ xC M t + (if M 55 t = 6 then 1 else 0) ∧ xC M t + (if M 55 t = 6 then 1 else 0) ≤ ((t + 1 : Nat) : Int)
    split <;> omega
theorem xc_s (M : sM) (t : Nat) : xC M (t + 1) = xC M t + (if M 55 t = 6 then 1 else 0) := rfl
theorem zix_p {ρ : Nat → Int} {k : Nat} : zIx ρ (1000 + k) = (ρ k).toNat := by
  unfold zIx
  have hb0 : Nat.blt (1000 + k) 1000 = false := by
    cases hb0 : Nat.blt (1000 + k) 1000 with
    | false => rfl
    | true => have := zblt hb0; omega
  rw [hb0]
  show (ρ (1000 + k - 1000)).toNat = _
  rw [show 1000 + k - 1000 = k by omega]
/-- the ghost places of 54 are written -/
theorem xg_54 {M : sM} {k : Nat} {v : Int} (hk : k = 998 ∨ k = 997) (h : sI0 M) : sI0 (sU M 54 k v) := si_u0 h (fun r hr => by rcases hk with rfl | rfl <;> cases hr)
theorem xr_top {M : sM} {t g h : Int} (hI : sI M) (ht0 : 0 ≤ t) (ht1 : t ≤ 72) (hg : g = xC M t.toNat) (hh : h = xC M (t.toNat - 1)) : sI (sU (sU (sU M 54 2 t) 54 998 g) 54 997 h) := by
  refine ⟨xg_54 (Or.inr rfl) (xg_54 (Or.inl rfl) (si_u0 hI.1 (fun r hr => ?_))), ?_⟩
  · have hr : some ((0 : Int), (72 : Int)) = some r := hr
    cases hr
    exact ⟨ht0, ht1⟩
  · have h55 : ∀ k, sU (sU (sU M 54 2 t) 54 998 g) 54 997 h 55 k = M 55 k := fun k => by
      rw [sU_ne (fun z => by omega), sU_ne (fun z => by omega), sU_ne (fun z => by omega)]
    have h2 : sU (sU (sU M 54 2 t) 54 998 g) 54 997 h 54 2 = t := by
      rw [sU_ne (fun z => by omega), sU_ne (fun z => by omega), sU_at]
    have h98 : sU (sU (sU M 54 2 t) 54 998 g) 54 997 h 54 998 = g := by
      rw [sU_ne (fun z => by omega), sU_at]
    refine ⟨?_, xi3_congr (fun o k _ ho => by rw [sU_ne (fun z => by omega), sU_ne (fun z => by omega), sU_ne (fun z => by omega)]) hI.2.2.1, xr_u (by decide +kernel) (xr_u (by decide +kernel) (xr_u (by decide +kernel) hI.2.2.2))⟩
    unfold XI2
    rw [h2, h98, sU_at, xc_congr h55, xc_congr h55]
    exact ⟨hg, hh⟩
theorem xws_ge {M M' : sM} {x : Nat} (h : ∀ k, k < x → M' 55 k = M 55 k) : ∀ t, t ≤ x → xWs M' t = xWs M t ∧ xWn M' t = xWn M t
  | 0, _ => ⟨rfl, rfl⟩
  | t + 1, ht => by
    have ih := (xws_ge h t (by omega)).1
    refine ⟨?_, ?_⟩
    · show (if M' 55 t = 6 then (0, 2 * (xWs M' t).2 + (xWs M' t).1) else if 12 ≤ M' 55 t ∧ M' 55 t ≤ 17 then (1, (xWs M' t).2) else if 33 ≤ M' 55 t ∧ M' 55 t ≤ 35 then (0, (xWs M' t).2) else xWs M' t) = (if M 55 t = 6 then (0, 2 * (xWs M t).2 + (xWs M t).1) else if 12 ≤ M 55 t ∧ M 55 t ≤ 17 then (1, (xWs M t).2) else if 33 ≤ M 55 t ∧ M 55 t ≤ 35 then (0, (xWs M t).2) else xWs M t)
      rw [ih, h t (by omega)]
    · show xKn (M' 55 t) = xKn (M 55 t)
      rw [h t (by omega)]
theorem xw_55 {M : sM} {x : Nat} {v : Int} (h : XR M) (hx : M 4 276 ≤ x) : XR (sU M 55 x v) := by
  have hc : XC M := h.2.2.2.2.2.2.2.2.2.2.2.2.2.2.2.2.2.2
  obtain ⟨c1, c2, c3, c4, c5, c6, c7, c8, c9, cA, cG, cF, cB, cC, cD, cE, cW, cT, cP, cL, cM, cI⟩ := hc
  refine ⟨uXA (sinc_ok rfl _) h.1, xb_c (fun o k _ _ _ h5 _ => sU_ne (fun z => h5 z.1)) h.2 ⟨uxS1 (sinc_ok rfl _) c1, uxS2 (sinc_ok rfl _) c2, uxS3 (sinc_ok rfl _) c3, uxS4 (sinc_ok rfl _) c4, uxS5 (sinc_ok rfl _) c5, uxS6 (sinc_ok rfl _) c6, uxS7 (sinc_ok rfl _) c7, uxS8 (sinc_ok rfl _) c8, uxS9 (sinc_ok rfl _) c9, uxSA (sinc_ok rfl _) cA, uxSG (sinc_ok rfl _) cG, uxSF (sinc_ok rfl _) cF, uxSB (sinc_ok rfl _) cB, uxSC (sinc_ok rfl _) cC, uxSD (sinc_ok rfl _) cD, uxSE (sinc_ok rfl _) cE, ?_, uxST (sinc_ok rfl _) cT, uxSP (sinc_ok rfl _) cP, uxSL (sinc_ok rfl _) cL, uxSM (sinc_ok rfl _) cM, uxSI (sinc_ok rfl _) cI⟩⟩
  obtain ⟨w1, w2, w3, w4, w5⟩ := cW
  have e4 : ∀ k, sU M 55 x v 4 k = M 4 k := fun k => sU_ne (fun z => by omega)
  have hk : ∀ t, t ≤ x → xWs (sU M 55 x v) t = xWs M t ∧ xWn (sU M 55 x v) t = xWn M t := xws_ge (fun k hk => sU_ne (fun z => by omega))
  unfold xSW
  rw [e4, e4, e4, e4, e4, e4, (hk _ (by omega)).1, (hk _ (by omega)).1, (hk _ (by omega)).2]
  exact ⟨w1, w2, w3, w4, fun i hi => by rw [sU_ne (fun z => by omega)]; exact w5 i hi⟩
theorem xw_92 {M : sM} {x : Nat} {v : Int} (h : XR M) (z0 : M 4 100 = 0) (z1 : M 4 200 = 0) (z2 : M 4 210 = 0) (z3 : M 4 212 = 0) (z4 : M 4 214 = 0) (z5 : M 4 220 = 0) (z6 : M 4 233 = 0) (z7 : M 4 235 = 0) (ht : M 4 261 ≤ x) (hp : M 4 263 + M 4 264 ≤ x) : XR (sU M 92 x v) := by
  have hc : XC M := h.2.2.2.2.2.2.2.2.2.2.2.2.2.2.2.2.2.2
  obtain ⟨c1, c2, c3, c4, c5, c6, c7, c8, c9, cA, cG, cF, cB, cC, cD, cE, cW, cT, cP, cL, cM, cI⟩ := hc
  have e4 : ∀ k, sU M 92 x v 4 k = M 4 k := fun k => sU_ne (fun z => by omega)
  have e1 : ∀ k, sU M 92 x v 1 k = M 1 k := fun k => sU_ne (fun z => by omega)
  have no : ∀ {a b : Nat}, M 4 a = 0 → sU M 92 x v 4 a = 1 → False := fun h1 h2 => by rw [e4, h1] at h2; cases h2
  refine ⟨uXA (sinc_ok rfl _) h.1, xb_c (fun o k _ _ _ _ h5 => sU_ne (fun z => h5 z.1)) h.2 ⟨fun h => absurd ((e4 100).trans z0) h, fun h => absurd ((e4 100).trans z0) h, fun h => absurd ((e4 100).trans z0) h, uxS4 (sinc_ok rfl _) c4, uxS5 (sinc_ok rfl _) c5, uxS6 (sinc_ok rfl _) c6, fun h => (no (b := 0) z1 h).elim, fun h => (no (b := 0) z2 h).elim, fun h => (no (b := 0) z3 h).elim, fun h => (no (b := 0) z4 h).elim, fun h => (no (b := 0) z7 h).elim, fun h => (no (b := 0) z6 h).elim, fun h => (no (b := 0) z5 h).elim, uxSC (sinc_ok rfl _) cC, uxSD (sinc_ok rfl _) cD, uxSE (sinc_ok rfl _) cE, uxSW (sinc_ok rfl _) cW, ?_, ?_, uxSL (sinc_ok rfl _) cL, uxSM (sinc_ok rfl _) cM, uxSI (sinc_ok rfl _) cI⟩⟩
  · intro i hi
    rw [e4] at hi
    rw [e1, sU_ne (fun z => by omega)]
    exact cT i hi
  · obtain ⟨p1, p2, p3⟩ := cP
    unfold xSP
    rw [e4, e4, e4]
    refine ⟨p1, fun j hj hl => ?_, fun j hj hl => ?_⟩
    · rw [e4, e1]; exact p2 j hj hl
    · rw [e4, sU_ne (fun z => by omega)]; exact p3 j hj hl
theorem xo_1 : qRok xr_1 := by
  intro ρ M h0 hf hm hI
  have f1 := hf [(1, 1), (-1, 3)] (by decide)
  have f2 := hf [(71, 0), (-1, 1)] (by decide)
  have f3 := hf [(1, 1)] (by decide)
  have f4 := hf [(1, 2)] (by decide)
  have f5 := hf [(41, 0), (-1, 2)] (by decide)
  have f7 := hf [(1, 1), (-1, 4)] (by decide)
  simp only [qD, h0] at f1 f2 f3 f4 f5 f7
  have m1 : M 54 2 = 1 * ρ 3 + 0 := hm (54, 2, [(1, 3)]) (by decide)
  have m2 : M 4 276 = 1 * ρ 4 + 0 := hm (4, 276, [(1, 4)]) (by decide)
  refine ⟨ρ, fun _ _ => rfl, fun f h => (nomatch h), ?_⟩
  show sI (sU M 55 (1 * ρ 1 + 0).toNat (1 * ρ 2 + 0))
  refine ⟨si_u0 hI.1 (fun r hr => ?_), ?_⟩
  · have hlt : (1 * ρ 1 + 0).toNat < 72 := by omega
    have hr2 : sRg 55 (1 * ρ 1 + 0).toNat = some (0, 41) := by
      unfold sRg
      show cond (Nat.blt (1 * ρ 1 + 0).toNat 72) ((([some ((0 : Int), (41 : Int))] : List (Option (Int × Int)))[(1 * ρ 1 + 0).toNat % 1]?).getD none) none = _
      rw [show Nat.blt (1 * ρ 1 + 0).toNat 72 = true from Nat.ble_eq_true_of_le hlt, Nat.mod_one]
      rfl
    rw [hr2] at hr
    cases hr
    exact ⟨by show (0 : Int) ≤ _; omega, by show _ ≤ (41 : Int); omega⟩
  · refine ⟨?_, xi3_congr (fun o k _ ho => sU_ne (fun z => by omega)) hI.2.2.1, xw_55 hI.2.2.2 (by omega)⟩
    have hx := hI.2.1
    unfold XI2 at hx ⊢
    have e1 : sU M 55 (1 * ρ 1 + 0).toNat (1 * ρ 2 + 0) 54 2 = M 54 2 := sU_ne (fun z => by omega)
    have e2 : sU M 55 (1 * ρ 1 + 0).toNat (1 * ρ 2 + 0) 54 998 = M 54 998 := sU_ne (fun z => by omega)
    have e3 : sU M 55 (1 * ρ 1 + 0).toNat (1 * ρ 2 + 0) 54 997 = M 54 997 := sU_ne (fun z => by omega)
    have hc : ∀ t : Nat, t ≤ (1 * ρ 1 + 0).toNat → xC (sU M 55 (1 * ρ 1 + 0).toNat (1 * ρ 2 + 0)) t = xC M t := fun t => xc_ge (fun k hk => sU_ne (fun z => by omega)) t
    rw [e1, e2, e3, hc _ (by omega), hc _ (by omega)]
    exact hx
theorem xr_push {M : sM} {t g w : Int} (hI : sI M) (m1 : M 54 2 = t) (m2 : M 54 998 = g) (m3 : M 55 t.toNat = w) (h0 : 0 ≤ t) (h1 : t ≤ 71) : sI (sU (sU (sU M 54 2 (1 + t)) 54 998 (g + (if w = 6 then 1 else 0))) 54 997 g) := by
  have hx := hI.2.1.1
  rw [m1, m2] at hx
  refine xr_top hI (by omega) (by omega) ?_ ?_
  · rw [show (1 + t).toNat = t.toNat + 1 by omega, xc_s, m3, ← hx]
  · rw [show (1 + t).toNat - 1 = t.toNat by omega]
    exact hx
theorem xo_2 : qRok xr_2 := by
  intro ρ M h0 hf hm hI
  have f1 := hf [(-6, 0), (1, 3)] (by decide)
  have f2 := hf [(6, 0), (-1, 3)] (by decide)
  have f3 := hf [(1, 1)] (by decide)
  have f4 := hf [(71, 0), (-1, 1)] (by decide)
  simp only [qD, h0] at f1 f2 f3 f4
  have m1 : M 54 2 = 1 * ρ 1 + 0 := hm (54, 2, [(1, 1)]) (by decide)
  have m2 : M 54 998 = 1 * ρ 2 + 0 := hm (54, 998, [(1, 2)]) (by decide)
  have m3 : M 55 (zIx ρ (1000 + 1)) = 1 * ρ 3 + 0 := hm (55, 1001, [(1, 3)]) (by decide)
  rw [zix_p] at m3
  refine ⟨ρ, fun _ _ => rfl, fun f h => (nomatch h), ?_⟩
  have := xr_push (t := ρ 1) (g := ρ 2) (w := ρ 3) hI (by omega) (by omega) (by omega) (by omega) (by omega)
  rw [if_pos (by omega)] at this
  show sI (sU (sU (sU M 54 (2 * ρ 0 + 0).toNat (1 * ρ 0 + (1 * ρ 1 + 0))) 54 998 (1 * ρ 0 + (1 * ρ 2 + 0))) 54 997 (1 * ρ 2 + 0))
  rw [show (2 * ρ 0 + 0 : Int).toNat = 2 by rw [h0]; rfl, h0, show (1 * 1 + (1 * ρ 1 + 0) : Int) = 1 + ρ 1 by omega, show (1 * 1 + (1 * ρ 2 + 0) : Int) = ρ 2 + 1 by omega, show (1 * ρ 2 + 0 : Int) = ρ 2 by omega]
  exact this
theorem xo_3 : qRok xr_3 := by
  intro ρ M h0 hf hm hI
  have f1 := hf [(-7, 0), (1, 3)] (by decide)
  have f3 := hf [(1, 1)] (by decide)
  have f4 := hf [(71, 0), (-1, 1)] (by decide)
  simp only [qD, h0] at f1 f3 f4
  have m1 : M 54 2 = 1 * ρ 1 + 0 := hm (54, 2, [(1, 1)]) (by decide)
  have m2 : M 54 998 = 1 * ρ 2 + 0 := hm (54, 998, [(1, 2)]) (by decide)
  have m3 : M 55 (zIx ρ (1000 + 1)) = 1 * ρ 3 + 0 := hm (55, 1001, [(1, 3)]) (by decide)
  rw [zix_p] at m3
  refine ⟨ρ, fun _ _ => rfl, fun f h => (nomatch h), ?_⟩
  have := xr_push (t := ρ 1) (g := ρ 2) (w := ρ 3) hI (by omega) (by omega) (by omega) (by omega) (by omega)
  rw [if_neg (by omega)] at this
  show sI (sU (sU (sU M 54 (2 * ρ 0 + 0).toNat (1 * ρ 0 + (1 * ρ 1 + 0))) 54 998 (1 * ρ 2 + 0)) 54 997 (1 * ρ 2 + 0))
  rw [show (2 * ρ 0 + 0 : Int).toNat = 2 by rw [h0]; rfl, h0, show (1 * 1 + (1 * ρ 1 + 0) : Int) = 1 + ρ 1 by omega, show (1 * ρ 2 + 0 : Int) = ρ 2 by omega]
  rw [show ρ 2 + 0 = ρ 2 by omega] at this
  exact this
theorem xo_4 : qRok xr_4 := by
  intro ρ M h0 hf hm hI
  have f1 := hf [(5, 0), (-1, 3)] (by decide)
  have f3 := hf [(1, 1)] (by decide)
  have f4 := hf [(71, 0), (-1, 1)] (by decide)
  simp only [qD, h0] at f1 f3 f4
  have m1 : M 54 2 = 1 * ρ 1 + 0 := hm (54, 2, [(1, 1)]) (by decide)
  have m2 : M 54 998 = 1 * ρ 2 + 0 := hm (54, 998, [(1, 2)]) (by decide)
  have m3 : M 55 (zIx ρ (1000 + 1)) = 1 * ρ 3 + 0 := hm (55, 1001, [(1, 3)]) (by decide)
  rw [zix_p] at m3
  refine ⟨ρ, fun _ _ => rfl, fun f h => (nomatch h), ?_⟩
  have := xr_push (t := ρ 1) (g := ρ 2) (w := ρ 3) hI (by omega) (by omega) (by omega) (by omega) (by omega)
  rw [if_neg (by omega)] at this
  show sI (sU (sU (sU M 54 (2 * ρ 0 + 0).toNat (1 * ρ 0 + (1 * ρ 1 + 0))) 54 998 (1 * ρ 2 + 0)) 54 997 (1 * ρ 2 + 0))
  rw [show (2 * ρ 0 + 0 : Int).toNat = 2 by rw [h0]; rfl, h0, show (1 * 1 + (1 * ρ 1 + 0) : Int) = 1 + ρ 1 by omega, show (1 * ρ 2 + 0 : Int) = ρ 2 by omega]
  rw [show ρ 2 + 0 = ρ 2 by omega] at this
  exact this
theorem xo_5 : qRok xr_5 := by
  intro ρ M h0 hf hm hI
  have f1 := hf [(-1, 0), (1, 1)] (by decide)
  have f2 := hf [(72, 0), (-1, 1)] (by decide)
  simp only [qD, h0] at f1 f2
  have m1 : M 54 2 = 1 * ρ 1 + 0 := hm (54, 2, [(1, 1)]) (by decide)
  have m2 : M 54 997 = 1 * ρ 2 + 0 := hm (54, 997, [(1, 2)]) (by decide)
  have hx := hI.2.1.2
  rw [m1, m2] at hx
  refine ⟨fun a => cond (Nat.blt a 3) (ρ a) (xC M ((ρ 1 - 1).toNat - 1)), fun a ha => ?_, fun f h => (nomatch h), ?_⟩
  · show cond (Nat.blt a 3) (ρ a) _ = ρ a
    rw [show Nat.blt a 3 = true from Nat.ble_eq_true_of_le ha]; rfl
  · show sI (sU (sU (sU M 54 (2 * ρ 0 + 0).toNat (-1 * ρ 0 + (1 * ρ 1 + 0))) 54 998 (1 * ρ 2 + 0)) 54 997 (1 * xC M ((ρ 1 - 1).toNat - 1) + 0))
    rw [show (2 * ρ 0 + 0 : Int).toNat = 2 by rw [h0]; rfl, h0, show (-1 * 1 + (1 * ρ 1 + 0) : Int) = ρ 1 - 1 by omega, show (1 * xC M ((ρ 1 - 1).toNat - 1) + 0 : Int) = xC M ((ρ 1 - 1).toNat - 1) by omega]
    refine xr_top hI (by omega) (by omega) ?_ rfl
    rw [hx]
    congr 1
    omega
theorem xo_6 : qRok xr_6 := by
  intro ρ M h0 hf hm hI
  refine ⟨ρ, fun _ _ => rfl, fun f h => (nomatch h), ?_⟩
  show sI (sU (sU (sU M 54 (2 * ρ 0 + 0).toNat 0) 54 998 0) 54 997 0)
  rw [show (2 * ρ 0 + 0 : Int).toNat = 2 by rw [h0]; rfl]
  exact xr_top (t := 0) (g := 0) (h := 0) hI (by omega) (by omega) rfl rfl
theorem xo_7 : qRok xr_7 := by
  intro ρ M h0 hf hm hI
  have f1 := hf [(1, 1)] (by decide)
  simp only [qD] at f1
  have m1 : M 54 2 = 1 * ρ 1 + 0 := hm (54, 2, [(1, 1)]) (by decide)
  have m2 : M 54 998 = 1 * ρ 2 + 0 := hm (54, 998, [(1, 2)]) (by decide)
  have hx := hI.2.1.1
  rw [m1, m2] at hx
  have hb := xc_b M (1 * ρ 1 + 0).toNat
  refine ⟨ρ, fun _ _ => rfl, fun f h => ?_, hI⟩
  rcases List.mem_cons.mp h with rfl | h
  · show 0 ≤ 1 * ρ 1 + (-1 * ρ 2 + 0)
    omega
  · rcases List.mem_cons.mp h with rfl | h
    · show 0 ≤ 1 * ρ 2 + 0
      omega
    · cases h
theorem xr_below {M : sM} (hI : sI M) (h1 : 1 ≤ M 54 2) : M 54 998 = M 54 997 + (if M 55 (M 54 2 - 1).toNat = 6 then 1 else 0) := by
  have ha := hI.2.1.1
  have hb := hI.2.1.2
  rw [show (M 54 2).toNat = ((M 54 2).toNat - 1) + 1 by omega, xc_s, ← hb, show (M 54 2).toNat - 1 = (M 54 2 - 1).toNat by omega] at ha
  exact ha
theorem xo_8 : qRok xr_8 := by
  intro ρ M h0 hf hm hI
  have f1 := hf [(-1, 0), (1, 1), (-1, 4)] (by decide)
  have f2 := hf [(1, 0), (-1, 1), (1, 4)] (by decide)
  have f3 := hf [(-1, 0), (1, 1)] (by decide)
  have f4 := hf [(-7, 0), (1, 5)] (by decide)
  simp only [qD, h0] at f1 f2 f3 f4
  have m1 : M 54 2 = 1 * ρ 1 + 0 := hm (54, 2, [(1, 1)]) (by decide)
  have m2 : M 54 998 = 1 * ρ 2 + 0 := hm (54, 998, [(1, 2)]) (by decide)
  have m3 : M 54 997 = 1 * ρ 3 + 0 := hm (54, 997, [(1, 3)]) (by decide)
  have m4 : M 55 (zIx ρ (1000 + 4)) = 1 * ρ 5 + 0 := hm (55, 1004, [(1, 5)]) (by decide)
  rw [zix_p] at m4
  have hx := xr_below hI (by omega)
  rw [show (M 54 2 - 1).toNat = (ρ 4).toNat by omega, m4, if_neg (by omega)] at hx
  refine ⟨ρ, fun _ _ => rfl, fun f h => ?_, hI⟩
  rcases List.mem_cons.mp h with rfl | h
  · show 0 ≤ 1 * ρ 2 + (-1 * ρ 3 + 0)
    omega
  · rcases List.mem_cons.mp h with rfl | h
    · show 0 ≤ -1 * ρ 2 + (1 * ρ 3 + 0)
      omega
    · cases h
theorem xo_9 : qRok xr_9 := by
  intro ρ M h0 hf hm hI
  have f1 := hf [(-1, 0), (1, 1), (-1, 4)] (by decide)
  have f2 := hf [(1, 0), (-1, 1), (1, 4)] (by decide)
  have f3 := hf [(-1, 0), (1, 1)] (by decide)
  have f4 := hf [(5, 0), (-1, 5)] (by decide)
  simp only [qD, h0] at f1 f2 f3 f4
  have m1 : M 54 2 = 1 * ρ 1 + 0 := hm (54, 2, [(1, 1)]) (by decide)
  have m2 : M 54 998 = 1 * ρ 2 + 0 := hm (54, 998, [(1, 2)]) (by decide)
  have m3 : M 54 997 = 1 * ρ 3 + 0 := hm (54, 997, [(1, 3)]) (by decide)
  have m4 : M 55 (zIx ρ (1000 + 4)) = 1 * ρ 5 + 0 := hm (55, 1004, [(1, 5)]) (by decide)
  rw [zix_p] at m4
  have hx := xr_below hI (by omega)
  rw [show (M 54 2 - 1).toNat = (ρ 4).toNat by omega, m4, if_neg (by omega)] at hx
  refine ⟨ρ, fun _ _ => rfl, fun f h => ?_, hI⟩
  rcases List.mem_cons.mp h with rfl | h
  · show 0 ≤ 1 * ρ 2 + (-1 * ρ 3 + 0)
    omega
  · rcases List.mem_cons.mp h with rfl | h
    · show 0 ≤ -1 * ρ 2 + (1 * ρ 3 + 0)
      omega
    · cases h
theorem xo_10 : qRok xr_10 := by
  intro ρ M h0 hf hm hI
  have f3 := hf [(-1, 0), (1, 1)] (by decide)
  simp only [qD, h0] at f3
  have m1 : M 54 2 = 1 * ρ 1 + 0 := hm (54, 2, [(1, 1)]) (by decide)
  have m2 : M 54 998 = 1 * ρ 2 + 0 := hm (54, 998, [(1, 2)]) (by decide)
  have m3 : M 54 997 = 1 * ρ 3 + 0 := hm (54, 997, [(1, 3)]) (by decide)
  have hx := xr_below hI (by omega)
  have hi : (0 : Int) ≤ (if M 55 (M 54 2 - 1).toNat = 6 then 1 else 0) ∧ (if M 55 (M 54 2 - 1).toNat = 6 then 1 else 0) ≤ (1 : Int) := by split <;> omega
  refine ⟨ρ, fun _ _ => rfl, fun f h => ?_, hI⟩
  rcases List.mem_cons.mp h with rfl | h
  · show 0 ≤ 1 * ρ 2 + (-1 * ρ 3 + 0)
    omega
  · rcases List.mem_cons.mp h with rfl | h
    · show 0 ≤ 1 * ρ 0 + (-1 * ρ 2 + (1 * ρ 3 + 0))
      omega
    · cases h
def xr_11 : qRu := (3, [[(1, 1)], [(71, 0), (-1, 1)]], [(54, 2, [(1, 1)]), (54, 998, [(1, 2)])], [(54, [(2, 0)], [(1, 0), (1, 1)])], [(54, 998, [(1, 3)]), (54, 997, [(1, 2)])], [[(-1, 2), (1, 3)], [(1, 0), (1, 2), (-1, 3)]])
theorem xo_11 : qRok xr_11 := by
  intro ρ M h0 hf hm hI
  have f3 := hf [(1, 1)] (by decide)
  have f4 := hf [(71, 0), (-1, 1)] (by decide)
  simp only [qD, h0] at f3 f4
  have m1 : M 54 2 = 1 * ρ 1 + 0 := hm (54, 2, [(1, 1)]) (by decide)
  have m2 : M 54 998 = 1 * ρ 2 + 0 := hm (54, 998, [(1, 2)]) (by decide)
  have hp := xr_push (t := ρ 1) (g := ρ 2) (w := M 55 (ρ 1).toNat) hI (by omega) (by omega) rfl (by omega) (by omega)
  generalize hgv : ρ 2 + (if M 55 (ρ 1).toNat = 6 then 1 else 0) = gv at hp
  have hb : ρ 2 ≤ gv ∧ gv ≤ ρ 2 + 1 := by rw [← hgv]; split <;> omega
  refine ⟨fun a => cond (Nat.blt a 3) (ρ a) gv, fun a ha => ?_, fun f h => ?_, ?_⟩
  · show cond (Nat.blt a 3) (ρ a) _ = ρ a
    rw [show Nat.blt a 3 = true from Nat.ble_eq_true_of_le ha]; rfl
  · rcases List.mem_cons.mp h with rfl | h
    · show 0 ≤ -1 * ρ 2 + (1 * gv + 0)
      omega
    · rcases List.mem_cons.mp h with rfl | h
      · show 0 ≤ 1 * ρ 0 + (1 * ρ 2 + (-1 * gv + 0))
        omega
      · cases h
  · show sI (sU (sU (sU M 54 (2 * ρ 0 + 0).toNat (1 * ρ 0 + (1 * ρ 1 + 0))) 54 998 (1 * gv + 0)) 54 997 (1 * ρ 2 + 0))
    rw [show (2 * ρ 0 + 0 : Int).toNat = 2 by rw [h0]; rfl, h0, show (1 * 1 + (1 * ρ 1 + 0) : Int) = 1 + ρ 1 by omega, show (1 * gv + 0 : Int) = gv by omega, show (1 * ρ 2 + 0 : Int) = ρ 2 by omega]
    exact hp
def xr_12 : qRu := (2, [[(1, 1)], [(700, 0), (-1, 1)]], [], [(91, [(27, 0)], [(1, 1)])], [(91, 990, [(1, 2)])], [])
def xr_13 : qRu := (2, [[(1, 1)], [(700, 0), (-1, 1)]], [], [(91, [(26, 0)], [(1, 1)])], [(91, 990, [(1, 2)])], [])
def xr_14 : qRu := (6, [[(1, 1)], [(699, 0), (-1, 1)], [(1, 2)], [(255, 0), (-1, 2)], [(1, 1), (-1, 3)], [(1, 1), (-1, 4), (-1, 5)]], [(4, 261, [(1, 3)]), (4, 263, [(1, 4)]), (4, 264, [(1, 5)]), (4, 100, []), (4, 200, []), (4, 210, []), (4, 212, []), (4, 214, []), (4, 220, []), (4, 233, []), (4, 235, [])], [(92, [(1, 1)], [(1, 2)])], [(91, 990, [(1, 6)])], [])
def xr_15 : qRu := (5, [[(-1, 0), (-1, 1), (1, 2)], [(1, 1)]], [(91, 27, [(1, 1)]), (91, 26, [(1, 2)]), (92, 1001, [(1, 3)]), (91, 990, [(1, 4)])], [], [], [[(-1, 3), (1, 4)], [(1, 3), (-1, 4)]])
def xr_16 : qRu := (4, [[(1, 1), (-1, 2)]], [(91, 27, [(1, 1)]), (91, 26, [(1, 2)]), (91, 990, [(1, 3)])], [], [], [[(1, 0), (1, 3)], [(-1, 0), (-1, 3)]])
/-- whatever is written on the reference's side, the byte that is looked at gets a new name -/
theorem xr_byte {M : sM} {o k : Nat} {v : Int} (hI : sI M) (ho : 60 ≤ o) (hz : XR (sU M o k v)) (hg : ¬ (o = 91 ∧ k = 990)) (hr : ∀ r, sRg o k = some r → r.1 ≤ v ∧ v ≤ r.2) : sI (sU (sU M o k v) 91 990 (xH (sU M o k v))) := by
  refine ⟨si_u0 (si_u0 hI.1 hr) (fun r hr => by cases hr), xi2_congr (fun o' k' _ ho' => by rw [sU_ne (fun z => by omega), sU_ne (fun z => by omega)]) hI.2.1, ?_, xr_u (by decide +kernel) hz⟩
  unfold XI3
  rw [sU_at]
  have e : ∀ o' k' x, ¬ (o' = 91 ∧ k' = 990) → sU (sU M o k v) 91 990 x o' k' = sU M o k v o' k' := fun o' k' x h => sU_ne h
  unfold xH
  rw [e _ _ _ (by omega), e _ _ _ (by omega), e _ _ _ (by omega)]
theorem xo_12 : qRok xr_12 := by
  intro ρ M h0 hf hm hI
  have f1 := hf [(1, 1)] (by decide)
  have f2 := hf [(700, 0), (-1, 1)] (by decide)
  simp only [qD, h0] at f1 f2
  refine ⟨fun a => cond (Nat.blt a 2) (ρ a) (xH (sU M 91 27 (1 * ρ 1 + 0))), fun a ha => ?_, fun f h => (nomatch h), ?_⟩
  · show cond (Nat.blt a 2) (ρ a) _ = ρ a
    rw [show Nat.blt a 2 = true from Nat.ble_eq_true_of_le ha]; rfl
  · show sI (sU (sU M 91 (27 * ρ 0 + 0).toNat (1 * ρ 1 + 0)) 91 990 (1 * xH (sU M 91 27 (1 * ρ 1 + 0)) + 0))
    rw [show (27 * ρ 0 + 0 : Int).toNat = 27 by rw [h0]; rfl, show (1 * xH (sU M 91 27 (1 * ρ 1 + 0)) + 0 : Int) = xH (sU M 91 27 (1 * ρ 1 + 0)) by omega]
    refine xr_byte hI (by omega) (xr_u (by decide +kernel) hI.2.2.2) (by omega) (fun r hr => ?_)
    have hr : some ((0 : Int), (700 : Int)) = some r := hr
    cases hr
    exact ⟨by show (0 : Int) ≤ _; omega, by show _ ≤ (700 : Int); omega⟩
theorem xo_13 : qRok xr_13 := by
  intro ρ M h0 hf hm hI
  have f1 := hf [(1, 1)] (by decide)
  have f2 := hf [(700, 0), (-1, 1)] (by decide)
  simp only [qD, h0] at f1 f2
  refine ⟨fun a => cond (Nat.blt a 2) (ρ a) (xH (sU M 91 26 (1 * ρ 1 + 0))), fun a ha => ?_, fun f h => (nomatch h), ?_⟩
  · show cond (Nat.blt a 2) (ρ a) _ = ρ a
    rw [show Nat.blt a 2 = true from Nat.ble_eq_true_of_le ha]; rfl
  · show sI (sU (sU M 91 (26 * ρ 0 + 0).toNat (1 * ρ 1 + 0)) 91 990 (1 * xH (sU M 91 26 (1 * ρ 1 + 0)) + 0))
    rw [show (26 * ρ 0 + 0 : Int).toNat = 26 by rw [h0]; rfl, show (1 * xH (sU M 91 26 (1 * ρ 1 + 0)) + 0 : Int) = xH (sU M 91 26 (1 * ρ 1 + 0)) by omega]
    refine xr_byte hI (by omega) (xr_u (by decide +kernel) hI.2.2.2) (by omega) (fun r hr => ?_)
    have hr : some ((0 : Int), (700 : Int)) = some r := hr
    cases hr
    exact ⟨by show (0 : Int) ≤ _; omega, by show _ ≤ (700 : Int); omega⟩
theorem xo_14 : qRok xr_14 := by
  intro ρ M h0 hf hm hI
  have f1 := hf [(1, 1)] (by decide)
  have f2 := hf [(699, 0), (-1, 1)] (by decide)
  have f3 := hf [(1, 2)] (by decide)
  have f4 := hf [(255, 0), (-1, 2)] (by decide)
  have f5 := hf [(1, 1), (-1, 3)] (by decide)
  have f6 := hf [(1, 1), (-1, 4), (-1, 5)] (by decide)
  simp only [qD, h0] at f1 f2 f3 f4 f5 f6
  have m1 : M 4 261 = 1 * ρ 3 + 0 := hm (4, 261, [(1, 3)]) (by decide)
  have m2 : M 4 263 = 1 * ρ 4 + 0 := hm (4, 263, [(1, 4)]) (by decide)
  have m3 : M 4 264 = 1 * ρ 5 + 0 := hm (4, 264, [(1, 5)]) (by decide)
  have z0 : M 4 100 = 0 := hm (4, 100, []) (by decide)
  have z1 : M 4 200 = 0 := hm (4, 200, []) (by decide)
  have z2 : M 4 210 = 0 := hm (4, 210, []) (by decide)
  have z3 : M 4 212 = 0 := hm (4, 212, []) (by decide)
  have z4 : M 4 214 = 0 := hm (4, 214, []) (by decide)
  have z5 : M 4 220 = 0 := hm (4, 220, []) (by decide)
  have z6 : M 4 233 = 0 := hm (4, 233, []) (by decide)
  have z7 : M 4 235 = 0 := hm (4, 235, []) (by decide)
  refine ⟨fun a => cond (Nat.blt a 6) (ρ a) (xH (sU M 92 (1 * ρ 1 + 0).toNat (1 * ρ 2 + 0))), fun a ha => ?_, fun f h => (nomatch h), ?_⟩
  · show cond (Nat.blt a 6) (ρ a) _ = ρ a
    rw [show Nat.blt a 6 = true from Nat.ble_eq_true_of_le ha]; rfl
  · show sI (sU (sU M 92 (1 * ρ 1 + 0).toNat (1 * ρ 2 + 0)) 91 990 (1 * xH (sU M 92 (1 * ρ 1 + 0).toNat (1 * ρ 2 + 0)) + 0))
    rw [show (1 * xH (sU M 92 (1 * ρ 1 + 0).toNat (1 * ρ 2 + 0)) + 0 : Int) = xH (sU M 92 (1 * ρ 1 + 0).toNat (1 * ρ 2 + 0)) by omega]
    refine xr_byte hI (by omega) (xw_92 hI.2.2.2 z0 z1 z2 z3 z4 z5 z6 z7 (by omega) (by omega)) (by omega) (fun r hr => ?_)
    have hlt : (1 * ρ 1 + 0).toNat < 700 := by omega
    have hr2 : sRg 92 (1 * ρ 1 + 0).toNat = some (0, 255) := by
      unfold sRg
      show cond (Nat.blt (1 * ρ 1 + 0).toNat 700) ((([some ((0 : Int), (255 : Int))] : List (Option (Int × Int)))[(1 * ρ 1 + 0).toNat % 1]?).getD none) none = _
      rw [show Nat.blt (1 * ρ 1 + 0).toNat 700 = true from Nat.ble_eq_true_of_le hlt, Nat.mod_one]
      rfl
    rw [hr2] at hr
    cases hr
    exact ⟨by show (0 : Int) ≤ _; omega, by show _ ≤ (255 : Int); omega⟩
theorem xo_15 : qRok xr_15 := by
  intro ρ M h0 hf hm hI
  have f1 := hf [(-1, 0), (-1, 1), (1, 2)] (by decide)
  have f2 := hf [(1, 1)] (by decide)
  simp only [qD, h0] at f1 f2
  have m1 : M 91 27 = 1 * ρ 1 + 0 := hm (91, 27, [(1, 1)]) (by decide)
  have m2 : M 91 26 = 1 * ρ 2 + 0 := hm (91, 26, [(1, 2)]) (by decide)
  have m3 : M 92 (zIx ρ (1000 + 1)) = 1 * ρ 3 + 0 := hm (92, 1001, [(1, 3)]) (by decide)
  have m4 : M 91 990 = 1 * ρ 4 + 0 := hm (91, 990, [(1, 4)]) (by decide)
  rw [zix_p] at m3
  have hx : M 91 990 = xH M := hI.2.2.1
  unfold xH at hx
  rw [if_pos (by omega), show (M 91 27).toNat = (ρ 1).toNat by omega, m3] at hx
  refine ⟨ρ, fun _ _ => rfl, fun f h => ?_, hI⟩
  rcases List.mem_cons.mp h with rfl | h
  · show 0 ≤ -1 * ρ 3 + (1 * ρ 4 + 0)
    omega
  · rcases List.mem_cons.mp h with rfl | h
    · show 0 ≤ 1 * ρ 3 + (-1 * ρ 4 + 0)
      omega
    · cases h
theorem xo_16 : qRok xr_16 := by
  intro ρ M h0 hf hm hI
  have f1 := hf [(1, 1), (-1, 2)] (by decide)
  simp only [qD] at f1
  have m1 : M 91 27 = 1 * ρ 1 + 0 := hm (91, 27, [(1, 1)]) (by decide)
  have m2 : M 91 26 = 1 * ρ 2 + 0 := hm (91, 26, [(1, 2)]) (by decide)
  have m4 : M 91 990 = 1 * ρ 3 + 0 := hm (91, 990, [(1, 3)]) (by decide)
  have hx : M 91 990 = xH M := hI.2.2.1
  unfold xH at hx
  rw [if_neg (by omega)] at hx
  refine ⟨ρ, fun _ _ => rfl, fun f h => ?_, hI⟩
  rcases List.mem_cons.mp h with rfl | h
  · show 0 ≤ 1 * ρ 0 + (1 * ρ 3 + 0)
    omega
  · rcases List.mem_cons.mp h with rfl | h
    · show 0 ≤ -1 * ρ 0 + (-1 * ρ 3 + 0)
      omega
    · cases h


/-! THE CARTS AND THE LAWS (wip/p2/rules.py). -/
theorem xi2_u {M : sM} {o k : Nat} {v : Int} (hp : sIn zPl0 o k = false) (h : XI2 M) : XI2 (sU M o k v) := xi2_congr (fun o' k' h' _ => sU_ne (fun z => by rw [z.1, z.2, hp] at h'; cases h')) h
theorem xi3_u {M : sM} {o k : Nat} {v : Int} (hp : sIn zPl0 o k = false) (h : XI3 M) : XI3 (sU M o k v) := xi3_congr (fun o' k' h' _ => sU_ne (fun z => by rw [z.1, z.2, hp] at h'; cases h')) h
theorem x10 (a : Int) : 1 * a + 0 = a := by omega
theorem xlt_b (a b : Int) : 0 ≤ xlt a b ∧ xlt a b ≤ 1 := by
  unfold xlt
  split <;> omega
theorem xhv_1 (M : sM) (st b fr : Int) : 0 ≤ xhV M st b fr ∧ xhV M st b fr ≤ 1 := by
  unfold xhV
  have := xlt_b (xnV M (M 115 0) (M 116 0) st b (xop 3 (fr + b) 24)) (-(M 93 4))
  omega
theorem x24 {a : Int} (h0 : 0 ≤ a) (h1 : a ≤ 2147483647) : 0 ≤ xop 3 a 24 ∧ xop 3 a 24 ≤ 23 := by
  have h := zn_rem_b (x := Int32.ofInt a) (c := 24) (by decide) (by decide)
  have h2 : (Int32.ofInt a).toInt = a := inR_to ⟨by omega, by omega⟩
  show 0 ≤ (Int32.ofInt a - Int32.ofInt a / Int32.ofInt 24 * Int32.ofInt 24).toInt ∧ (Int32.ofInt a - Int32.ofInt a / Int32.ofInt 24 * Int32.ofInt 24).toInt ≤ 23
  exact ⟨h.2.2 (by omega), by have := h.2.1; omega⟩
theorem dp_s (M : sM) (f n : Nat) : xkD M f (n + 1) = xkD M f n + xkE (M 110 (f + n)) (M 111 (f + n)) := rfl
theorem dp_shift {M M' : sM} {f f' : Nat} : ∀ {n : Nat}, (∀ j, j < n → M' 110 (f' + j) = M 110 (f + j) ∧ M' 111 (f' + j) = M 111 (f + j)) → xkD M' f' n = xkD M f n
  | 0, _ => rfl
  | n + 1, h => by
    have h1 := h n (by omega)
    rw [dp_s, dp_s, dp_shift (fun k h2 => h k (by omega)), h1.1, h1.2]
theorem ol_shift {M M' : sM} {f f' n : Nat} (h : ∀ j, j < n → M' 110 (f' + j) = M 110 (f + j) ∧ M' 111 (f' + j) = M 111 (f + j)) (ho : xkO M f n) : xkO M' f' n := by
  intro j hj
  have h1 := h j hj
  rw [h1.1, h1.2, dp_shift (fun k h2 => h k (by omega))]
  exact ho j hj
theorem xz1_of {M M' : sM} (h1 : M' 91 970 = M 91 970) (h2 : M' 91 971 = M 91 971) (h3 : M' 93 17 = M 93 17) (h : ∀ k : Nat, 64 ≤ k → (k : Int) < 64 + M 93 17 → M' 110 k = M 110 k ∧ M' 111 k = M 111 k) (hx : xZ1 M) : xZ1 M' := by
  obtain ⟨a, b, c, d⟩ := hx
  unfold xZ1
  rw [h1, h2, h3]
  have hc : ∀ k, 64 + (M 91 970).toNat ≤ k → k < 64 + (M 91 970).toNat + ((M 93 17).toNat - (M 91 970).toNat) → M' 110 k = M 110 k ∧ M' 111 k = M 111 k := fun k u v => h k (by omega) (by omega)
  exact ⟨a, b, ol_congr hc c, by rw [dp_congr hc]; exact d⟩
theorem xz3_of {M M' : sM} (h1 : M' 91 974 = M 91 974) (h2 : M 93 17 ≤ M' 93 17) (h3 : ∀ k : Nat, 2 ≤ k → k < 4 → M' 108 k = M 108 k ∧ M' 109 k = M 109 k) (h : ∀ k : Nat, 64 ≤ k → (k : Int) < 64 + M 93 17 → M' 110 k = M 110 k ∧ M' 111 k = M 111 k) (hx : xZ3 M) : xZ3 M' := by
  intro a k b c
  rw [h1] at a
  obtain ⟨p, q⟩ := hx a k b c
  rw [(h3 k b c).1, (h3 k b c).2]
  exact ⟨by omega, ol_congr (fun j u v => h j (by omega) (by omega)) q⟩
theorem xt_r {o len : Nat} {r0 r : Int × Int} (h1 : sRl[o]? = some (len, 1, [some r0])) {k : Nat} (h : sRg o k = some r) : r = r0 := by
  unfold sRg at h
  rw [h1] at h
  have h : cond (Nat.blt k len) ((([some r0] : List (Option (Int × Int)))[k % 1]?).getD none) none = some r := h
  rw [Nat.mod_one] at h
  cases hb : Nat.blt k len with
  | false => rw [hb] at h; cases h
  | true => rw [hb] at h; cases h; rfl
theorem xs_r {o len : Nat} {r0 : Int × Int} (h1 : sRl[o]? = some (len, 1, [some r0])) {k : Nat} (hk : k < len) : sRg o k = some r0 := by
  unfold sRg
  rw [h1]
  show cond (Nat.blt k len) ((([some r0] : List (Option (Int × Int)))[k % 1]?).getD none) none = some r0
  rw [show Nat.blt k len = true from Nat.ble_eq_true_of_le hk, Nat.mod_one]
  rfl
theorem xt_101 {k : Nat} {r : Int × Int} (h : sRg 101 k = some r) : r = (0, 60) := xt_r (len := 12) rfl h
theorem xs_101 {k : Nat} (h : k < 12) : sRg 101 k = some (0, 60) := xs_r (len := 12) rfl h
theorem xt_103 {k : Nat} {r : Int × Int} (h : sRg 103 k = some r) : r = (0, 99) := xt_r (len := 12) rfl h
theorem xs_103 {k : Nat} (h : k < 12) : sRg 103 k = some (0, 99) := xs_r (len := 12) rfl h
theorem xt_124 {k : Nat} {r : Int × Int} (h : sRg 124 k = some r) : r = (0, 1000) := xt_r (len := 90) rfl h
theorem xs_124 {k : Nat} (h : k < 90) : sRg 124 k = some (0, 1000) := xs_r (len := 90) rfl h
theorem xt_108 {k : Nat} {r : Int × Int} (h : sRg 108 k = some r) : r = (0, 64) := xt_r (len := 4) rfl h
theorem xs_108 {k : Nat} (h : k < 4) : sRg 108 k = some (0, 64) := xs_r (len := 4) rfl h
theorem xt_109 {k : Nat} {r : Int × Int} (h : sRg 109 k = some r) : r = (0, 64) := xt_r (len := 4) rfl h
theorem xs_109 {k : Nat} (h : k < 4) : sRg 109 k = some (0, 64) := xs_r (len := 4) rfl h
theorem xt_110 {k : Nat} {r : Int × Int} (h : sRg 110 k = some r) : r = (0, 2) := xt_r (len := 128) rfl h
theorem xs_110 {k : Nat} (h : k < 128) : sRg 110 k = some (0, 2) := xs_r (len := 128) rfl h
theorem xt_111 {k : Nat} {r : Int × Int} (h : sRg 111 k = some r) : r = (-2147483648, 2147483647) := xt_r (len := 128) rfl h
theorem xs_111 {k : Nat} (h : k < 128) : sRg 111 k = some (-2147483648, 2147483647) := xs_r (len := 128) rfl h
theorem xt_113 {k : Nat} {r : Int × Int} (h : sRg 113 k = some r) : r = (0, 8) := xt_r (len := 23) rfl h
theorem xs_113 {k : Nat} (h : k < 23) : sRg 113 k = some (0, 8) := xs_r (len := 23) rfl h
theorem xt_114 {k : Nat} {r : Int × Int} (h : sRg 114 k = some r) : r = (0, 3) := xt_r (len := 23) rfl h
theorem xs_114 {k : Nat} (h : k < 23) : sRg 114 k = some (0, 3) := xs_r (len := 23) rfl h

theorem xz4_of {M M' : sM} (h0 : sI0 M) (h1 : M' 91 975 = M 91 975) (h3 : ∀ k : Nat, k < 2 → M' 108 k = M 108 k ∧ M' 109 k = M 109 k) (h : ∀ k : Nat, k < 64 → M' 110 k = M 110 k ∧ M' 111 k = M 111 k) (hx : xZ4 M) : xZ4 M' := by
  intro a k b
  rw [h1] at a
  have q := hx a k b
  have h9 : (0 : Int) ≤ M 109 k ∧ M 109 k ≤ 64 := h0 109 k (0, 64) (xs_109 (by omega))
  rw [(h3 k b).1, (h3 k b).2]
  exact ol_congr (fun j u v => h j (by omega)) q
theorem xo_none : qRok (1, [], [], [], [], []) := by
  intro ρ M h0 hf hm hI
  exact ⟨ρ, fun _ _ => rfl, fun f h => (nomatch h), hI⟩
-- w113
def xr_17 : qRu := (4, [[(1, 1)], [(22, 0), (-1, 1)], [(1, 2)], [(8, 0), (-1, 2)], [(1, 1), (-1, 3)], [(-1, 1), (1, 3)]], [(91, 992, [(1, 3)])], [(113, [(1, 1)], [(1, 2)])], [], [])
theorem xo_17 : qRok xr_17 := by
  intro ρ M h0 hf hm hI
  have f0 := hf [(1, 1)] (by decide)
  have f1 := hf [(22, 0), (-1, 1)] (by decide)
  have f2 := hf [(1, 2)] (by decide)
  have f3 := hf [(8, 0), (-1, 2)] (by decide)
  have f4 := hf [(1, 1), (-1, 3)] (by decide)
  have f5 := hf [(-1, 1), (1, 3)] (by decide)
  simp only [qD, h0] at f0 f1 f2 f3 f4 f5
  have m0 : M 91 992 = 1 * ρ 3 + 0 := hm (91, 992, [(1, 3)]) (by decide)
  have qxY2 := hI.2.2.2.1.2.1
  have qxY3 := hI.2.2.2.1.2.2.1
  refine ⟨ρ, fun _ _ => rfl, fun f h => ?_, ?_⟩
  · exact nomatch h
  · show sI (sU M 113 (1 * ρ 1 + 0 : Int).toNat (1 * ρ 2 + 0))
    obtain ⟨W, hW⟩ : ∃ W, W = (sU M 113 (1 * ρ 1 + 0).toNat (1 * ρ 2 + 0)) := ⟨_, rfl⟩
    rw [← hW]
    have base : sI0 W := by
      rw [hW]
      exact (si_u0 hI.1 (fun r hr => by rw [xt_113 hr]; exact ⟨by show (0 : Int) ≤ _; omega, by show _ ≤ (8 : Int); omega⟩))
    have k2 : XI2 W := by
      rw [hW]
      exact (xi2_u (sinc_ok rfl _) hI.2.1)
    have k3 : XI3 W := by
      rw [hW]
      exact (xi3_u (sinc_ok rfl _) hI.2.2.1)
    have k_xY1 : xY1 W := by
      rw [hW]
      exact (uxY1 (sinc_ok rfl _) hI.2.2.2.1.1)
    have k_xY2 : xY2 W := by
      have r91_991 : W 91 991 = M 91 991 := by rw [hW, sU_ne (fun z => by omega)]
      have r91_992 : W 91 992 = M 91 992 := by rw [hW, sU_ne (fun z => by omega)]
      have r91_984 : W 91 984 = M 91 984 := by rw [hW, sU_ne (fun z => by omega)]
      have r91_993 : W 91 993 = M 91 993 := by rw [hW, sU_ne (fun z => by omega)]
      have r91_45 : W 91 45 = M 91 45 := by rw [hW, sU_ne (fun z => by omega)]
      have r91_46 : W 91 46 = M 91 46 := by rw [hW, sU_ne (fun z => by omega)]
      have c113 : ∀ k : Nat, k ≠ (1 * ρ 1 + 0).toNat → W 113 k = M 113 k := fun k hk => by rw [hW, sU_ne (fun z => by omega)]
      have a113 : W 113 (1 * ρ 1 + 0).toNat = 1 * ρ 2 + 0 := by rw [hW, sU_at]
      have c114 : ∀ k, W 114 k = M 114 k := fun k => by rw [hW, sU_ne (fun z => by omega)]
      intro h1 i hi hv hx
      unfold xV at hv
      unfold xB
      rw [r91_991] at h1
      rw [r91_992] at hx
      rw [r91_45, r91_46, r91_984] at hv
      have h2 := qxY2 (by omega) i hi (by unfold xV; omega) (by omega)
      unfold xB at h2
      rw [c113 i (by omega), c114 i, r91_993]
      exact h2
    have k_xY3 : xY3 W := by
      have r91_984 : W 91 984 = M 91 984 := by rw [hW, sU_ne (fun z => by omega)]
      have r91_985 : W 91 985 = M 91 985 := by rw [hW, sU_ne (fun z => by omega)]
      have r91_986 : W 91 986 = M 91 986 := by rw [hW, sU_ne (fun z => by omega)]
      have r91_992 : W 91 992 = M 91 992 := by rw [hW, sU_ne (fun z => by omega)]
      have c113 : ∀ k : Nat, k ≠ (1 * ρ 1 + 0).toNat → W 113 k = M 113 k := fun k hk => by rw [hW, sU_ne (fun z => by omega)]
      have a113 : W 113 (1 * ρ 1 + 0).toNat = 1 * ρ 2 + 0 := by rw [hW, sU_at]
      have c114 : ∀ k, W 114 k = M 114 k := fun k => by rw [hW, sU_ne (fun z => by omega)]
      intro i hi he hx
      rw [r91_984] at he
      rw [r91_992] at hx
      rw [r91_985, r91_986]
      rw [c113 i (by omega), c114 i]
      exact qxY3 i hi he hx
    have k_xZ1 : xZ1 W := by
      rw [hW]
      exact (uxZ1 (sinc_ok rfl _) hI.2.2.2.1.2.2.2.1)
    have k_xZ2 : xZ2 W := by
      rw [hW]
      exact (uxZ2 (sinc_ok rfl _) hI.2.2.2.1.2.2.2.2.1)
    have k_xZ3 : xZ3 W := by
      rw [hW]
      exact (uxZ3 (sinc_ok rfl _) hI.2.2.2.1.2.2.2.2.2.1)
    have k_xZ4 : xZ4 W := by
      rw [hW]
      exact (uxZ4 (sinc_ok rfl _) hI.2.2.2.1.2.2.2.2.2.2.1)
    have k_xZ5 : xZ5 W := by
      rw [hW]
      exact (uxZ5 (sinc_ok rfl _) hI.2.2.2.1.2.2.2.2.2.2.2.1)
    have k_xZ6 : xZ6 W := by
      rw [hW]
      exact (uxZ6 (sinc_ok rfl _) hI.2.2.2.1.2.2.2.2.2.2.2.2.1)
    have k_xZ7 : xZ7 W := by
      rw [hW]
      exact (uxZ7 (sinc_ok rfl _) hI.2.2.2.1.2.2.2.2.2.2.2.2.2.1)
    have k_xZ8 : xZ8 W := by
      rw [hW]
      exact (uxZ8 (sinc_ok rfl _) hI.2.2.2.1.2.2.2.2.2.2.2.2.2.2.1)
    have k_xZ9 : xZ9 W := by
      rw [hW]
      exact (uxZ9 (sinc_ok rfl _) hI.2.2.2.1.2.2.2.2.2.2.2.2.2.2.2.1)
    have k_xZa : xZa W := by
      rw [hW]
      exact (uxZa (sinc_ok rfl _) hI.2.2.2.1.2.2.2.2.2.2.2.2.2.2.2.2.1)
    have k_xZb : xZb W := by
      rw [hW]
      exact (uxZb (sinc_ok rfl _) hI.2.2.2.1.2.2.2.2.2.2.2.2.2.2.2.2.2.1)
    have k_xT1 : xT1 W := by
      rw [hW]
      exact (uxT1 (sinc_ok rfl _) hI.2.2.2.1.2.2.2.2.2.2.2.2.2.2.2.2.2.2)
    have kXA : XA W := ⟨k_xY1, k_xY2, k_xY3, k_xZ1, k_xZ2, k_xZ3, k_xZ4, k_xZ5, k_xZ6, k_xZ7, k_xZ8, k_xZ9, k_xZa, k_xZb, k_xT1⟩
    have kXB : XB W := by
      rw [hW]
      exact (uXB (sinc_ok rfl _) hI.2.2.2.2)
    exact ⟨base, k2, k3, kXA, kXB⟩
-- w114
def xr_18 : qRu := (4, [[(1, 1)], [(22, 0), (-1, 1)], [(1, 2)], [(3, 0), (-1, 2)], [(1, 1), (-1, 3)], [(-1, 1), (1, 3)]], [(91, 992, [(1, 3)])], [(114, [(1, 1)], [(1, 2)])], [], [])
theorem xo_18 : qRok xr_18 := by
  intro ρ M h0 hf hm hI
  have f0 := hf [(1, 1)] (by decide)
  have f1 := hf [(22, 0), (-1, 1)] (by decide)
  have f2 := hf [(1, 2)] (by decide)
  have f3 := hf [(3, 0), (-1, 2)] (by decide)
  have f4 := hf [(1, 1), (-1, 3)] (by decide)
  have f5 := hf [(-1, 1), (1, 3)] (by decide)
  simp only [qD, h0] at f0 f1 f2 f3 f4 f5
  have m0 : M 91 992 = 1 * ρ 3 + 0 := hm (91, 992, [(1, 3)]) (by decide)
  have qxY2 := hI.2.2.2.1.2.1
  have qxY3 := hI.2.2.2.1.2.2.1
  refine ⟨ρ, fun _ _ => rfl, fun f h => ?_, ?_⟩
  · exact nomatch h
  · show sI (sU M 114 (1 * ρ 1 + 0 : Int).toNat (1 * ρ 2 + 0))
    obtain ⟨W, hW⟩ : ∃ W, W = (sU M 114 (1 * ρ 1 + 0).toNat (1 * ρ 2 + 0)) := ⟨_, rfl⟩
    rw [← hW]
    have base : sI0 W := by
      rw [hW]
      exact (si_u0 hI.1 (fun r hr => by rw [xt_114 hr]; exact ⟨by show (0 : Int) ≤ _; omega, by show _ ≤ (3 : Int); omega⟩))
    have k2 : XI2 W := by
      rw [hW]
      exact (xi2_u (sinc_ok rfl _) hI.2.1)
    have k3 : XI3 W := by
      rw [hW]
      exact (xi3_u (sinc_ok rfl _) hI.2.2.1)
    have k_xY1 : xY1 W := by
      rw [hW]
      exact (uxY1 (sinc_ok rfl _) hI.2.2.2.1.1)
    have k_xY2 : xY2 W := by
      have r91_991 : W 91 991 = M 91 991 := by rw [hW, sU_ne (fun z => by omega)]
      have r91_992 : W 91 992 = M 91 992 := by rw [hW, sU_ne (fun z => by omega)]
      have r91_984 : W 91 984 = M 91 984 := by rw [hW, sU_ne (fun z => by omega)]
      have r91_993 : W 91 993 = M 91 993 := by rw [hW, sU_ne (fun z => by omega)]
      have r91_45 : W 91 45 = M 91 45 := by rw [hW, sU_ne (fun z => by omega)]
      have r91_46 : W 91 46 = M 91 46 := by rw [hW, sU_ne (fun z => by omega)]
      have c113 : ∀ k, W 113 k = M 113 k := fun k => by rw [hW, sU_ne (fun z => by omega)]
      have c114 : ∀ k : Nat, k ≠ (1 * ρ 1 + 0).toNat → W 114 k = M 114 k := fun k hk => by rw [hW, sU_ne (fun z => by omega)]
      have a114 : W 114 (1 * ρ 1 + 0).toNat = 1 * ρ 2 + 0 := by rw [hW, sU_at]
      intro h1 i hi hv hx
      unfold xV at hv
      unfold xB
      rw [r91_991] at h1
      rw [r91_992] at hx
      rw [r91_45, r91_46, r91_984] at hv
      have h2 := qxY2 (by omega) i hi (by unfold xV; omega) (by omega)
      unfold xB at h2
      rw [c114 i (by omega), c113 i, r91_993]
      exact h2
    have k_xY3 : xY3 W := by
      have r91_984 : W 91 984 = M 91 984 := by rw [hW, sU_ne (fun z => by omega)]
      have r91_985 : W 91 985 = M 91 985 := by rw [hW, sU_ne (fun z => by omega)]
      have r91_986 : W 91 986 = M 91 986 := by rw [hW, sU_ne (fun z => by omega)]
      have r91_992 : W 91 992 = M 91 992 := by rw [hW, sU_ne (fun z => by omega)]
      have c113 : ∀ k, W 113 k = M 113 k := fun k => by rw [hW, sU_ne (fun z => by omega)]
      have c114 : ∀ k : Nat, k ≠ (1 * ρ 1 + 0).toNat → W 114 k = M 114 k := fun k hk => by rw [hW, sU_ne (fun z => by omega)]
      have a114 : W 114 (1 * ρ 1 + 0).toNat = 1 * ρ 2 + 0 := by rw [hW, sU_at]
      intro i hi he hx
      rw [r91_984] at he
      rw [r91_992] at hx
      rw [r91_985, r91_986]
      rw [c114 i (by omega), c113 i]
      exact qxY3 i hi he hx
    have k_xZ1 : xZ1 W := by
      rw [hW]
      exact (uxZ1 (sinc_ok rfl _) hI.2.2.2.1.2.2.2.1)
    have k_xZ2 : xZ2 W := by
      rw [hW]
      exact (uxZ2 (sinc_ok rfl _) hI.2.2.2.1.2.2.2.2.1)
    have k_xZ3 : xZ3 W := by
      rw [hW]
      exact (uxZ3 (sinc_ok rfl _) hI.2.2.2.1.2.2.2.2.2.1)
    have k_xZ4 : xZ4 W := by
      rw [hW]
      exact (uxZ4 (sinc_ok rfl _) hI.2.2.2.1.2.2.2.2.2.2.1)
    have k_xZ5 : xZ5 W := by
      rw [hW]
      exact (uxZ5 (sinc_ok rfl _) hI.2.2.2.1.2.2.2.2.2.2.2.1)
    have k_xZ6 : xZ6 W := by
      rw [hW]
      exact (uxZ6 (sinc_ok rfl _) hI.2.2.2.1.2.2.2.2.2.2.2.2.1)
    have k_xZ7 : xZ7 W := by
      rw [hW]
      exact (uxZ7 (sinc_ok rfl _) hI.2.2.2.1.2.2.2.2.2.2.2.2.2.1)
    have k_xZ8 : xZ8 W := by
      rw [hW]
      exact (uxZ8 (sinc_ok rfl _) hI.2.2.2.1.2.2.2.2.2.2.2.2.2.2.1)
    have k_xZ9 : xZ9 W := by
      rw [hW]
      exact (uxZ9 (sinc_ok rfl _) hI.2.2.2.1.2.2.2.2.2.2.2.2.2.2.2.1)
    have k_xZa : xZa W := by
      rw [hW]
      exact (uxZa (sinc_ok rfl _) hI.2.2.2.1.2.2.2.2.2.2.2.2.2.2.2.2.1)
    have k_xZb : xZb W := by
      rw [hW]
      exact (uxZb (sinc_ok rfl _) hI.2.2.2.1.2.2.2.2.2.2.2.2.2.2.2.2.2.1)
    have k_xT1 : xT1 W := by
      rw [hW]
      exact (uxT1 (sinc_ok rfl _) hI.2.2.2.1.2.2.2.2.2.2.2.2.2.2.2.2.2.2)
    have kXA : XA W := ⟨k_xY1, k_xY2, k_xY3, k_xZ1, k_xZ2, k_xZ3, k_xZ4, k_xZ5, k_xZ6, k_xZ7, k_xZ8, k_xZ9, k_xZa, k_xZb, k_xT1⟩
    have kXB : XB W := by
      rw [hW]
      exact (uXB (sinc_ok rfl _) hI.2.2.2.2)
    exact ⟨base, k2, k3, kXA, kXB⟩
-- undoLess
def xr_19 : qRu := (3, [[(1, 1), (-1, 2)], [(1, 2)], [(20, 0), (-1, 1)]], [(91, 46, [(1, 1)])], [(91, [(46, 0)], [(1, 2)])], [], [])
theorem xo_19 : qRok xr_19 := by
  intro ρ M h0 hf hm hI
  have f0 := hf [(1, 1), (-1, 2)] (by decide)
  have f1 := hf [(1, 2)] (by decide)
  have f2 := hf [(20, 0), (-1, 1)] (by decide)
  simp only [qD, h0] at f0 f1 f2
  have m0 : M 91 46 = 1 * ρ 1 + 0 := hm (91, 46, [(1, 1)]) (by decide)
  have qxY2 := hI.2.2.2.1.2.1
  refine ⟨ρ, fun _ _ => rfl, fun f h => ?_, ?_⟩
  · exact nomatch h
  · show sI (sU M 91 (46 * ρ 0 + 0 : Int).toNat (1 * ρ 2 + 0))
    rw [show (46 * ρ 0 + 0 : Int).toNat = 46 by (try rw [h0]); rfl]
    obtain ⟨W, hW⟩ : ∃ W, W = (sU M 91 46 (1 * ρ 2 + 0)) := ⟨_, rfl⟩
    rw [← hW]
    have base : sI0 W := by
      rw [hW]
      exact (si_u0 hI.1 (fun r hr => by have hr : some ((0 : Int), (20 : Int)) = some r := hr; cases hr; exact ⟨by show (0 : Int) ≤ _; (try rw [h0]); omega, by show _ ≤ (20 : Int); (try rw [h0]); omega⟩))
    have k2 : XI2 W := by
      rw [hW]
      exact (xi2_u rfl hI.2.1)
    have k3 : XI3 W := by
      rw [hW]
      exact (xi3_u rfl hI.2.2.1)
    have k_xY1 : xY1 W := by
      rw [hW]
      exact (uxY1 rfl hI.2.2.2.1.1)
    have k_xY2 : xY2 W := by
      have r91_991 : W 91 991 = M 91 991 := by rw [hW, sU_ne (fun z => by omega)]
      have r91_992 : W 91 992 = M 91 992 := by rw [hW, sU_ne (fun z => by omega)]
      have r91_984 : W 91 984 = M 91 984 := by rw [hW, sU_ne (fun z => by omega)]
      have r91_993 : W 91 993 = M 91 993 := by rw [hW, sU_ne (fun z => by omega)]
      have r91_45 : W 91 45 = M 91 45 := by rw [hW, sU_ne (fun z => by omega)]
      have r91_46 : W 91 46 = 1 * ρ 2 + 0 := by rw [hW, sU_at]
      have c113 : ∀ k, W 113 k = M 113 k := fun k => by rw [hW, sU_ne (fun z => by omega)]
      have c114 : ∀ k, W 114 k = M 114 k := fun k => by rw [hW, sU_ne (fun z => by omega)]
      intro h1 i hi hv hx
      unfold xV at hv
      unfold xB
      rw [r91_991] at h1
      rw [r91_992] at hx
      rw [r91_45, r91_46, r91_984] at hv
      have h2 := qxY2 (by omega) i hi (by unfold xV; omega) (by omega)
      unfold xB at h2
      rw [c113 i, c114 i, r91_993]
      exact h2
    have k_xY3 : xY3 W := by
      rw [hW]
      exact (uxY3 rfl hI.2.2.2.1.2.2.1)
    have k_xZ1 : xZ1 W := by
      rw [hW]
      exact (uxZ1 rfl hI.2.2.2.1.2.2.2.1)
    have k_xZ2 : xZ2 W := by
      rw [hW]
      exact (uxZ2 rfl hI.2.2.2.1.2.2.2.2.1)
    have k_xZ3 : xZ3 W := by
      rw [hW]
      exact (uxZ3 rfl hI.2.2.2.1.2.2.2.2.2.1)
    have k_xZ4 : xZ4 W := by
      rw [hW]
      exact (uxZ4 rfl hI.2.2.2.1.2.2.2.2.2.2.1)
    have k_xZ5 : xZ5 W := by
      rw [hW]
      exact (uxZ5 rfl hI.2.2.2.1.2.2.2.2.2.2.2.1)
    have k_xZ6 : xZ6 W := by
      rw [hW]
      exact (uxZ6 rfl hI.2.2.2.1.2.2.2.2.2.2.2.2.1)
    have k_xZ7 : xZ7 W := by
      rw [hW]
      exact (uxZ7 rfl hI.2.2.2.1.2.2.2.2.2.2.2.2.2.1)
    have k_xZ8 : xZ8 W := by
      rw [hW]
      exact (uxZ8 rfl hI.2.2.2.1.2.2.2.2.2.2.2.2.2.2.1)
    have k_xZ9 : xZ9 W := by
      rw [hW]
      exact (uxZ9 rfl hI.2.2.2.1.2.2.2.2.2.2.2.2.2.2.2.1)
    have k_xZa : xZa W := by
      rw [hW]
      exact (uxZa rfl hI.2.2.2.1.2.2.2.2.2.2.2.2.2.2.2.2.1)
    have k_xZb : xZb W := by
      rw [hW]
      exact (uxZb rfl hI.2.2.2.1.2.2.2.2.2.2.2.2.2.2.2.2.2.1)
    have k_xT1 : xT1 W := by
      rw [hW]
      exact (uxT1 rfl hI.2.2.2.1.2.2.2.2.2.2.2.2.2.2.2.2.2.2)
    have kXA : XA W := ⟨k_xY1, k_xY2, k_xY3, k_xZ1, k_xZ2, k_xZ3, k_xZ4, k_xZ5, k_xZ6, k_xZ7, k_xZ8, k_xZ9, k_xZa, k_xZb, k_xT1⟩
    have kXB : XB W := by
      rw [hW]
      exact (uXB rfl hI.2.2.2.2)
    exact ⟨base, k2, k3, kXA, kXB⟩
-- undoNone
def xr_20 : qRu := (1, [], [], [(91, [(46, 0)], [])], [], [])
theorem xo_20 : qRok xr_20 := by
  intro ρ M h0 hf hm hI
  have qxY2 := hI.2.2.2.1.2.1
  refine ⟨ρ, fun _ _ => rfl, fun f h => ?_, ?_⟩
  · exact nomatch h
  · show sI (sU M 91 (46 * ρ 0 + 0 : Int).toNat (0))
    rw [show (46 * ρ 0 + 0 : Int).toNat = 46 by (try rw [h0]); rfl]
    obtain ⟨W, hW⟩ : ∃ W, W = (sU M 91 46 (0)) := ⟨_, rfl⟩
    rw [← hW]
    have base : sI0 W := by
      rw [hW]
      exact (si_u0 hI.1 (fun r hr => by have hr : some ((0 : Int), (20 : Int)) = some r := hr; cases hr; exact ⟨by show (0 : Int) ≤ _; (try rw [h0]); omega, by show _ ≤ (20 : Int); (try rw [h0]); omega⟩))
    have k2 : XI2 W := by
      rw [hW]
      exact (xi2_u rfl hI.2.1)
    have k3 : XI3 W := by
      rw [hW]
      exact (xi3_u rfl hI.2.2.1)
    have k_xY1 : xY1 W := by
      rw [hW]
      exact (uxY1 rfl hI.2.2.2.1.1)
    have k_xY2 : xY2 W := by
      have r91_991 : W 91 991 = M 91 991 := by rw [hW, sU_ne (fun z => by omega)]
      have r91_992 : W 91 992 = M 91 992 := by rw [hW, sU_ne (fun z => by omega)]
      have r91_984 : W 91 984 = M 91 984 := by rw [hW, sU_ne (fun z => by omega)]
      have r91_993 : W 91 993 = M 91 993 := by rw [hW, sU_ne (fun z => by omega)]
      have r91_45 : W 91 45 = M 91 45 := by rw [hW, sU_ne (fun z => by omega)]
      have r91_46 : W 91 46 = 0 := by rw [hW, sU_at]
      have c113 : ∀ k, W 113 k = M 113 k := fun k => by rw [hW, sU_ne (fun z => by omega)]
      have c114 : ∀ k, W 114 k = M 114 k := fun k => by rw [hW, sU_ne (fun z => by omega)]
      intro h1 i hi hv hx
      unfold xV at hv
      unfold xB
      rw [r91_991] at h1
      rw [r91_992] at hx
      rw [r91_45, r91_46, r91_984] at hv
      have h2 := qxY2 (by omega) i hi (by unfold xV; omega) (by omega)
      unfold xB at h2
      rw [c113 i, c114 i, r91_993]
      exact h2
    have k_xY3 : xY3 W := by
      rw [hW]
      exact (uxY3 rfl hI.2.2.2.1.2.2.1)
    have k_xZ1 : xZ1 W := by
      rw [hW]
      exact (uxZ1 rfl hI.2.2.2.1.2.2.2.1)
    have k_xZ2 : xZ2 W := by
      rw [hW]
      exact (uxZ2 rfl hI.2.2.2.1.2.2.2.2.1)
    have k_xZ3 : xZ3 W := by
      rw [hW]
      exact (uxZ3 rfl hI.2.2.2.1.2.2.2.2.2.1)
    have k_xZ4 : xZ4 W := by
      rw [hW]
      exact (uxZ4 rfl hI.2.2.2.1.2.2.2.2.2.2.1)
    have k_xZ5 : xZ5 W := by
      rw [hW]
      exact (uxZ5 rfl hI.2.2.2.1.2.2.2.2.2.2.2.1)
    have k_xZ6 : xZ6 W := by
      rw [hW]
      exact (uxZ6 rfl hI.2.2.2.1.2.2.2.2.2.2.2.2.1)
    have k_xZ7 : xZ7 W := by
      rw [hW]
      exact (uxZ7 rfl hI.2.2.2.1.2.2.2.2.2.2.2.2.2.1)
    have k_xZ8 : xZ8 W := by
      rw [hW]
      exact (uxZ8 rfl hI.2.2.2.1.2.2.2.2.2.2.2.2.2.2.1)
    have k_xZ9 : xZ9 W := by
      rw [hW]
      exact (uxZ9 rfl hI.2.2.2.1.2.2.2.2.2.2.2.2.2.2.2.1)
    have k_xZa : xZa W := by
      rw [hW]
      exact (uxZa rfl hI.2.2.2.1.2.2.2.2.2.2.2.2.2.2.2.2.1)
    have k_xZb : xZb W := by
      rw [hW]
      exact (uxZb rfl hI.2.2.2.1.2.2.2.2.2.2.2.2.2.2.2.2.2.1)
    have k_xT1 : xT1 W := by
      rw [hW]
      exact (uxT1 rfl hI.2.2.2.1.2.2.2.2.2.2.2.2.2.2.2.2.2.2)
    have kXA : XA W := ⟨k_xY1, k_xY2, k_xY3, k_xZ1, k_xZ2, k_xZ3, k_xZ4, k_xZ5, k_xZ6, k_xZ7, k_xZ8, k_xZ9, k_xZa, k_xZb, k_xT1⟩
    have kXB : XB W := by
      rw [hW]
      exact (uXB rfl hI.2.2.2.2)
    exact ⟨base, k2, k3, kXA, kXB⟩
-- undoMore
def xr_21 : qRu := (5, [[(1, 1)], [(19, 0), (-1, 1)], [(-3, 0), (-1, 1), (1, 2)], [(3, 0), (1, 1), (-1, 2)], [(-1, 0), (-1, 1), (1, 3)], [(1, 0), (1, 1), (-1, 3)], [(-50, 0), (1, 4)], [(50, 0), (-1, 4)]], [(91, 46, [(1, 1)]), (91, 984, [(1, 2)]), (91, 992, [(1, 4)])], [(91, [(46, 0)], [(1, 3)])], [], [])
theorem xo_21 : qRok xr_21 := by
  intro ρ M h0 hf hm hI
  have f0 := hf [(1, 1)] (by decide)
  have f1 := hf [(19, 0), (-1, 1)] (by decide)
  have f2 := hf [(-3, 0), (-1, 1), (1, 2)] (by decide)
  have f3 := hf [(3, 0), (1, 1), (-1, 2)] (by decide)
  have f4 := hf [(-1, 0), (-1, 1), (1, 3)] (by decide)
  have f5 := hf [(1, 0), (1, 1), (-1, 3)] (by decide)
  have f6 := hf [(-50, 0), (1, 4)] (by decide)
  have f7 := hf [(50, 0), (-1, 4)] (by decide)
  simp only [qD, h0] at f0 f1 f2 f3 f4 f5 f6 f7
  have m0 : M 91 46 = 1 * ρ 1 + 0 := hm (91, 46, [(1, 1)]) (by decide)
  have m1 : M 91 984 = 1 * ρ 2 + 0 := hm (91, 984, [(1, 2)]) (by decide)
  have m2 : M 91 992 = 1 * ρ 4 + 0 := hm (91, 992, [(1, 4)]) (by decide)
  have qxY2 := hI.2.2.2.1.2.1
  refine ⟨ρ, fun _ _ => rfl, fun f h => ?_, ?_⟩
  · exact nomatch h
  · show sI (sU M 91 (46 * ρ 0 + 0 : Int).toNat (1 * ρ 3 + 0))
    rw [show (46 * ρ 0 + 0 : Int).toNat = 46 by (try rw [h0]); rfl]
    obtain ⟨W, hW⟩ : ∃ W, W = (sU M 91 46 (1 * ρ 3 + 0)) := ⟨_, rfl⟩
    rw [← hW]
    have base : sI0 W := by
      rw [hW]
      exact (si_u0 hI.1 (fun r hr => by have hr : some ((0 : Int), (20 : Int)) = some r := hr; cases hr; exact ⟨by show (0 : Int) ≤ _; (try rw [h0]); omega, by show _ ≤ (20 : Int); (try rw [h0]); omega⟩))
    have k2 : XI2 W := by
      rw [hW]
      exact (xi2_u rfl hI.2.1)
    have k3 : XI3 W := by
      rw [hW]
      exact (xi3_u rfl hI.2.2.1)
    have k_xY1 : xY1 W := by
      rw [hW]
      exact (uxY1 rfl hI.2.2.2.1.1)
    have k_xY2 : xY2 W := by
      have r91_991 : W 91 991 = M 91 991 := by rw [hW, sU_ne (fun z => by omega)]
      have r91_992 : W 91 992 = M 91 992 := by rw [hW, sU_ne (fun z => by omega)]
      have r91_984 : W 91 984 = M 91 984 := by rw [hW, sU_ne (fun z => by omega)]
      have r91_993 : W 91 993 = M 91 993 := by rw [hW, sU_ne (fun z => by omega)]
      have r91_45 : W 91 45 = M 91 45 := by rw [hW, sU_ne (fun z => by omega)]
      have r91_46 : W 91 46 = 1 * ρ 3 + 0 := by rw [hW, sU_at]
      have c113 : ∀ k, W 113 k = M 113 k := fun k => by rw [hW, sU_ne (fun z => by omega)]
      have c114 : ∀ k, W 114 k = M 114 k := fun k => by rw [hW, sU_ne (fun z => by omega)]
      intro h1 i hi hv hx
      unfold xV at hv
      unfold xB
      rw [r91_991] at h1
      rw [r91_992] at hx
      rw [r91_45, r91_46, r91_984] at hv
      have h2 := qxY2 (by omega) i hi (by unfold xV; omega) (by omega)
      unfold xB at h2
      rw [c113 i, c114 i, r91_993]
      exact h2
    have k_xY3 : xY3 W := by
      rw [hW]
      exact (uxY3 rfl hI.2.2.2.1.2.2.1)
    have k_xZ1 : xZ1 W := by
      rw [hW]
      exact (uxZ1 rfl hI.2.2.2.1.2.2.2.1)
    have k_xZ2 : xZ2 W := by
      rw [hW]
      exact (uxZ2 rfl hI.2.2.2.1.2.2.2.2.1)
    have k_xZ3 : xZ3 W := by
      rw [hW]
      exact (uxZ3 rfl hI.2.2.2.1.2.2.2.2.2.1)
    have k_xZ4 : xZ4 W := by
      rw [hW]
      exact (uxZ4 rfl hI.2.2.2.1.2.2.2.2.2.2.1)
    have k_xZ5 : xZ5 W := by
      rw [hW]
      exact (uxZ5 rfl hI.2.2.2.1.2.2.2.2.2.2.2.1)
    have k_xZ6 : xZ6 W := by
      rw [hW]
      exact (uxZ6 rfl hI.2.2.2.1.2.2.2.2.2.2.2.2.1)
    have k_xZ7 : xZ7 W := by
      rw [hW]
      exact (uxZ7 rfl hI.2.2.2.1.2.2.2.2.2.2.2.2.2.1)
    have k_xZ8 : xZ8 W := by
      rw [hW]
      exact (uxZ8 rfl hI.2.2.2.1.2.2.2.2.2.2.2.2.2.2.1)
    have k_xZ9 : xZ9 W := by
      rw [hW]
      exact (uxZ9 rfl hI.2.2.2.1.2.2.2.2.2.2.2.2.2.2.2.1)
    have k_xZa : xZa W := by
      rw [hW]
      exact (uxZa rfl hI.2.2.2.1.2.2.2.2.2.2.2.2.2.2.2.2.1)
    have k_xZb : xZb W := by
      rw [hW]
      exact (uxZb rfl hI.2.2.2.1.2.2.2.2.2.2.2.2.2.2.2.2.2.1)
    have k_xT1 : xT1 W := by
      rw [hW]
      exact (uxT1 rfl hI.2.2.2.1.2.2.2.2.2.2.2.2.2.2.2.2.2.2)
    have kXA : XA W := ⟨k_xY1, k_xY2, k_xY3, k_xZ1, k_xZ2, k_xZ3, k_xZ4, k_xZ5, k_xZ6, k_xZ7, k_xZ8, k_xZ9, k_xZa, k_xZb, k_xT1⟩
    have kXB : XB W := by
      rw [hW]
      exact (uXB rfl hI.2.2.2.2)
    exact ⟨base, k2, k3, kXA, kXB⟩
-- imageNo
def xr_22 : qRu := (1, [], [], [(91, [(45, 0)], [])], [], [])
theorem xo_22 : qRok xr_22 := by
  intro ρ M h0 hf hm hI
  have qxY2 := hI.2.2.2.1.2.1
  refine ⟨ρ, fun _ _ => rfl, fun f h => ?_, ?_⟩
  · exact nomatch h
  · show sI (sU M 91 (45 * ρ 0 + 0 : Int).toNat (0))
    rw [show (45 * ρ 0 + 0 : Int).toNat = 45 by (try rw [h0]); rfl]
    obtain ⟨W, hW⟩ : ∃ W, W = (sU M 91 45 (0)) := ⟨_, rfl⟩
    rw [← hW]
    have base : sI0 W := by
      rw [hW]
      exact (si_u0 hI.1 (fun r hr => by have hr : some ((0 : Int), (1 : Int)) = some r := hr; cases hr; exact ⟨by show (0 : Int) ≤ _; (try rw [h0]); omega, by show _ ≤ (1 : Int); (try rw [h0]); omega⟩))
    have k2 : XI2 W := by
      rw [hW]
      exact (xi2_u rfl hI.2.1)
    have k3 : XI3 W := by
      rw [hW]
      exact (xi3_u rfl hI.2.2.1)
    have k_xY1 : xY1 W := by
      rw [hW]
      exact (uxY1 rfl hI.2.2.2.1.1)
    have k_xY2 : xY2 W := by
      have r91_991 : W 91 991 = M 91 991 := by rw [hW, sU_ne (fun z => by omega)]
      have r91_992 : W 91 992 = M 91 992 := by rw [hW, sU_ne (fun z => by omega)]
      have r91_984 : W 91 984 = M 91 984 := by rw [hW, sU_ne (fun z => by omega)]
      have r91_993 : W 91 993 = M 91 993 := by rw [hW, sU_ne (fun z => by omega)]
      have r91_45 : W 91 45 = 0 := by rw [hW, sU_at]
      have r91_46 : W 91 46 = M 91 46 := by rw [hW, sU_ne (fun z => by omega)]
      have c113 : ∀ k, W 113 k = M 113 k := fun k => by rw [hW, sU_ne (fun z => by omega)]
      have c114 : ∀ k, W 114 k = M 114 k := fun k => by rw [hW, sU_ne (fun z => by omega)]
      intro h1 i hi hv hx
      unfold xV at hv
      unfold xB
      rw [r91_991] at h1
      rw [r91_992] at hx
      rw [r91_45, r91_46, r91_984] at hv
      have h2 := qxY2 (by omega) i hi (by unfold xV; omega) (by omega)
      unfold xB at h2
      rw [c113 i, c114 i, r91_993]
      exact h2
    have k_xY3 : xY3 W := by
      rw [hW]
      exact (uxY3 rfl hI.2.2.2.1.2.2.1)
    have k_xZ1 : xZ1 W := by
      rw [hW]
      exact (uxZ1 rfl hI.2.2.2.1.2.2.2.1)
    have k_xZ2 : xZ2 W := by
      rw [hW]
      exact (uxZ2 rfl hI.2.2.2.1.2.2.2.2.1)
    have k_xZ3 : xZ3 W := by
      rw [hW]
      exact (uxZ3 rfl hI.2.2.2.1.2.2.2.2.2.1)
    have k_xZ4 : xZ4 W := by
      rw [hW]
      exact (uxZ4 rfl hI.2.2.2.1.2.2.2.2.2.2.1)
    have k_xZ5 : xZ5 W := by
      rw [hW]
      exact (uxZ5 rfl hI.2.2.2.1.2.2.2.2.2.2.2.1)
    have k_xZ6 : xZ6 W := by
      rw [hW]
      exact (uxZ6 rfl hI.2.2.2.1.2.2.2.2.2.2.2.2.1)
    have k_xZ7 : xZ7 W := by
      rw [hW]
      exact (uxZ7 rfl hI.2.2.2.1.2.2.2.2.2.2.2.2.2.1)
    have k_xZ8 : xZ8 W := by
      rw [hW]
      exact (uxZ8 rfl hI.2.2.2.1.2.2.2.2.2.2.2.2.2.2.1)
    have k_xZ9 : xZ9 W := by
      rw [hW]
      exact (uxZ9 rfl hI.2.2.2.1.2.2.2.2.2.2.2.2.2.2.2.1)
    have k_xZa : xZa W := by
      rw [hW]
      exact (uxZa rfl hI.2.2.2.1.2.2.2.2.2.2.2.2.2.2.2.2.1)
    have k_xZb : xZb W := by
      rw [hW]
      exact (uxZb rfl hI.2.2.2.1.2.2.2.2.2.2.2.2.2.2.2.2.2.1)
    have k_xT1 : xT1 W := by
      rw [hW]
      exact (uxT1 rfl hI.2.2.2.1.2.2.2.2.2.2.2.2.2.2.2.2.2.2)
    have kXA : XA W := ⟨k_xY1, k_xY2, k_xY3, k_xZ1, k_xZ2, k_xZ3, k_xZ4, k_xZ5, k_xZ6, k_xZ7, k_xZ8, k_xZ9, k_xZa, k_xZb, k_xT1⟩
    have kXB : XB W := by
      rw [hW]
      exact (uXB rfl hI.2.2.2.2)
    exact ⟨base, k2, k3, kXA, kXB⟩
-- imageYes
def xr_23 : qRu := (3, [[(-2, 0), (1, 1)], [(2, 0), (-1, 1)], [(-50, 0), (1, 2)], [(50, 0), (-1, 2)]], [(91, 984, [(1, 1)]), (91, 992, [(1, 2)])], [(91, [(45, 0)], [(1, 0)])], [], [])
theorem xo_23 : qRok xr_23 := by
  intro ρ M h0 hf hm hI
  have f0 := hf [(-2, 0), (1, 1)] (by decide)
  have f1 := hf [(2, 0), (-1, 1)] (by decide)
  have f2 := hf [(-50, 0), (1, 2)] (by decide)
  have f3 := hf [(50, 0), (-1, 2)] (by decide)
  simp only [qD, h0] at f0 f1 f2 f3
  have m0 : M 91 984 = 1 * ρ 1 + 0 := hm (91, 984, [(1, 1)]) (by decide)
  have m1 : M 91 992 = 1 * ρ 2 + 0 := hm (91, 992, [(1, 2)]) (by decide)
  have qxY2 := hI.2.2.2.1.2.1
  refine ⟨ρ, fun _ _ => rfl, fun f h => ?_, ?_⟩
  · exact nomatch h
  · show sI (sU M 91 (45 * ρ 0 + 0 : Int).toNat (1 * ρ 0 + 0))
    rw [show (45 * ρ 0 + 0 : Int).toNat = 45 by (try rw [h0]); rfl]
    obtain ⟨W, hW⟩ : ∃ W, W = (sU M 91 45 (1 * ρ 0 + 0)) := ⟨_, rfl⟩
    rw [← hW]
    have base : sI0 W := by
      rw [hW]
      exact (si_u0 hI.1 (fun r hr => by have hr : some ((0 : Int), (1 : Int)) = some r := hr; cases hr; exact ⟨by show (0 : Int) ≤ _; (try rw [h0]); omega, by show _ ≤ (1 : Int); (try rw [h0]); omega⟩))
    have k2 : XI2 W := by
      rw [hW]
      exact (xi2_u rfl hI.2.1)
    have k3 : XI3 W := by
      rw [hW]
      exact (xi3_u rfl hI.2.2.1)
    have k_xY1 : xY1 W := by
      rw [hW]
      exact (uxY1 rfl hI.2.2.2.1.1)
    have k_xY2 : xY2 W := by
      have r91_991 : W 91 991 = M 91 991 := by rw [hW, sU_ne (fun z => by omega)]
      have r91_992 : W 91 992 = M 91 992 := by rw [hW, sU_ne (fun z => by omega)]
      have r91_984 : W 91 984 = M 91 984 := by rw [hW, sU_ne (fun z => by omega)]
      have r91_993 : W 91 993 = M 91 993 := by rw [hW, sU_ne (fun z => by omega)]
      have r91_45 : W 91 45 = 1 * ρ 0 + 0 := by rw [hW, sU_at]
      have r91_46 : W 91 46 = M 91 46 := by rw [hW, sU_ne (fun z => by omega)]
      have c113 : ∀ k, W 113 k = M 113 k := fun k => by rw [hW, sU_ne (fun z => by omega)]
      have c114 : ∀ k, W 114 k = M 114 k := fun k => by rw [hW, sU_ne (fun z => by omega)]
      intro h1 i hi hv hx
      unfold xV at hv
      unfold xB
      rw [r91_991] at h1
      rw [r91_992] at hx
      rw [r91_45, r91_46, r91_984] at hv
      have h2 := qxY2 (by omega) i hi (by unfold xV; rw [h0] at hv; omega) (by omega)
      unfold xB at h2
      rw [c113 i, c114 i, r91_993]
      exact h2
    have k_xY3 : xY3 W := by
      rw [hW]
      exact (uxY3 rfl hI.2.2.2.1.2.2.1)
    have k_xZ1 : xZ1 W := by
      rw [hW]
      exact (uxZ1 rfl hI.2.2.2.1.2.2.2.1)
    have k_xZ2 : xZ2 W := by
      rw [hW]
      exact (uxZ2 rfl hI.2.2.2.1.2.2.2.2.1)
    have k_xZ3 : xZ3 W := by
      rw [hW]
      exact (uxZ3 rfl hI.2.2.2.1.2.2.2.2.2.1)
    have k_xZ4 : xZ4 W := by
      rw [hW]
      exact (uxZ4 rfl hI.2.2.2.1.2.2.2.2.2.2.1)
    have k_xZ5 : xZ5 W := by
      rw [hW]
      exact (uxZ5 rfl hI.2.2.2.1.2.2.2.2.2.2.2.1)
    have k_xZ6 : xZ6 W := by
      rw [hW]
      exact (uxZ6 rfl hI.2.2.2.1.2.2.2.2.2.2.2.2.1)
    have k_xZ7 : xZ7 W := by
      rw [hW]
      exact (uxZ7 rfl hI.2.2.2.1.2.2.2.2.2.2.2.2.2.1)
    have k_xZ8 : xZ8 W := by
      rw [hW]
      exact (uxZ8 rfl hI.2.2.2.1.2.2.2.2.2.2.2.2.2.2.1)
    have k_xZ9 : xZ9 W := by
      rw [hW]
      exact (uxZ9 rfl hI.2.2.2.1.2.2.2.2.2.2.2.2.2.2.2.1)
    have k_xZa : xZa W := by
      rw [hW]
      exact (uxZa rfl hI.2.2.2.1.2.2.2.2.2.2.2.2.2.2.2.2.1)
    have k_xZb : xZb W := by
      rw [hW]
      exact (uxZb rfl hI.2.2.2.1.2.2.2.2.2.2.2.2.2.2.2.2.2.1)
    have k_xT1 : xT1 W := by
      rw [hW]
      exact (uxT1 rfl hI.2.2.2.1.2.2.2.2.2.2.2.2.2.2.2.2.2.2)
    have kXA : XA W := ⟨k_xY1, k_xY2, k_xY3, k_xZ1, k_xZ2, k_xZ3, k_xZ4, k_xZ5, k_xZ6, k_xZ7, k_xZ8, k_xZ9, k_xZa, k_xZb, k_xT1⟩
    have kXB : XB W := by
      rw [hW]
      exact (uXB rfl hI.2.2.2.2)
    exact ⟨base, k2, k3, kXA, kXB⟩
-- out
def xr_24 : qRu := (2, [], [(91, 992, [(50, 0)])], [], [(91, 992, [(1, 1)])], [])
theorem xo_24 : qRok xr_24 := by
  intro ρ M h0 hf hm hI
  have m0 : M 91 992 = 50 * ρ 0 + 0 := hm (91, 992, [(50, 0)]) (by decide)
  simp only [h0] at m0
  have qxY2 := hI.2.2.2.1.2.1
  have qxY3 := hI.2.2.2.1.2.2.1
  refine ⟨ρ, fun _ _ => rfl, fun f h => ?_, ?_⟩
  · exact nomatch h
  · show sI (sU M 91 992 (1 * ρ 1 + 0))
    obtain ⟨W, hW⟩ : ∃ W, W = (sU M 91 992 (1 * ρ 1 + 0)) := ⟨_, rfl⟩
    rw [← hW]
    have base : sI0 W := by
      rw [hW]
      exact (si_u0 hI.1 (fun r hr => by cases hr))
    have k2 : XI2 W := by
      rw [hW]
      exact (xi2_u rfl hI.2.1)
    have k3 : XI3 W := by
      rw [hW]
      exact (xi3_u rfl hI.2.2.1)
    have k_xY1 : xY1 W := by
      rw [hW]
      exact (uxY1 rfl hI.2.2.2.1.1)
    have k_xY2 : xY2 W := by
      have r91_991 : W 91 991 = M 91 991 := by rw [hW, sU_ne (fun z => by omega)]
      have r91_992 : W 91 992 = 1 * ρ 1 + 0 := by rw [hW, sU_at]
      have r91_984 : W 91 984 = M 91 984 := by rw [hW, sU_ne (fun z => by omega)]
      have r91_993 : W 91 993 = M 91 993 := by rw [hW, sU_ne (fun z => by omega)]
      have r91_45 : W 91 45 = M 91 45 := by rw [hW, sU_ne (fun z => by omega)]
      have r91_46 : W 91 46 = M 91 46 := by rw [hW, sU_ne (fun z => by omega)]
      have c113 : ∀ k, W 113 k = M 113 k := fun k => by rw [hW, sU_ne (fun z => by omega)]
      have c114 : ∀ k, W 114 k = M 114 k := fun k => by rw [hW, sU_ne (fun z => by omega)]
      intro h1 i hi hv hx
      unfold xV at hv
      unfold xB
      rw [r91_991] at h1
      rw [r91_992] at hx
      rw [r91_45, r91_46, r91_984] at hv
      have h2 := qxY2 (by omega) i hi (by unfold xV; omega) (by omega)
      unfold xB at h2
      rw [c113 i, c114 i, r91_993]
      exact h2
    have k_xY3 : xY3 W := by
      have r91_984 : W 91 984 = M 91 984 := by rw [hW, sU_ne (fun z => by omega)]
      have r91_985 : W 91 985 = M 91 985 := by rw [hW, sU_ne (fun z => by omega)]
      have r91_986 : W 91 986 = M 91 986 := by rw [hW, sU_ne (fun z => by omega)]
      have r91_992 : W 91 992 = 1 * ρ 1 + 0 := by rw [hW, sU_at]
      have c113 : ∀ k, W 113 k = M 113 k := fun k => by rw [hW, sU_ne (fun z => by omega)]
      have c114 : ∀ k, W 114 k = M 114 k := fun k => by rw [hW, sU_ne (fun z => by omega)]
      intro i hi he hx
      rw [r91_984] at he
      rw [r91_992] at hx
      rw [r91_985, r91_986]
      rw [c113 i, c114 i]
      exact qxY3 i hi he (by omega)
    have k_xZ1 : xZ1 W := by
      rw [hW]
      exact (uxZ1 rfl hI.2.2.2.1.2.2.2.1)
    have k_xZ2 : xZ2 W := by
      rw [hW]
      exact (uxZ2 rfl hI.2.2.2.1.2.2.2.2.1)
    have k_xZ3 : xZ3 W := by
      rw [hW]
      exact (uxZ3 rfl hI.2.2.2.1.2.2.2.2.2.1)
    have k_xZ4 : xZ4 W := by
      rw [hW]
      exact (uxZ4 rfl hI.2.2.2.1.2.2.2.2.2.2.1)
    have k_xZ5 : xZ5 W := by
      rw [hW]
      exact (uxZ5 rfl hI.2.2.2.1.2.2.2.2.2.2.2.1)
    have k_xZ6 : xZ6 W := by
      rw [hW]
      exact (uxZ6 rfl hI.2.2.2.1.2.2.2.2.2.2.2.2.1)
    have k_xZ7 : xZ7 W := by
      rw [hW]
      exact (uxZ7 rfl hI.2.2.2.1.2.2.2.2.2.2.2.2.2.1)
    have k_xZ8 : xZ8 W := by
      rw [hW]
      exact (uxZ8 rfl hI.2.2.2.1.2.2.2.2.2.2.2.2.2.2.1)
    have k_xZ9 : xZ9 W := by
      rw [hW]
      exact (uxZ9 rfl hI.2.2.2.1.2.2.2.2.2.2.2.2.2.2.2.1)
    have k_xZa : xZa W := by
      rw [hW]
      exact (uxZa rfl hI.2.2.2.1.2.2.2.2.2.2.2.2.2.2.2.2.1)
    have k_xZb : xZb W := by
      rw [hW]
      exact (uxZb rfl hI.2.2.2.1.2.2.2.2.2.2.2.2.2.2.2.2.2.1)
    have k_xT1 : xT1 W := by
      rw [hW]
      exact (uxT1 rfl hI.2.2.2.1.2.2.2.2.2.2.2.2.2.2.2.2.2.2)
    have kXA : XA W := ⟨k_xY1, k_xY2, k_xY3, k_xZ1, k_xZ2, k_xZ3, k_xZ4, k_xZ5, k_xZ6, k_xZ7, k_xZ8, k_xZ9, k_xZa, k_xZb, k_xT1⟩
    have kXB : XB W := by
      rw [hW]
      exact (uXB rfl hI.2.2.2.2)
    exact ⟨base, k2, k3, kXA, kXB⟩
-- in
def xr_25 : qRu := (6, [[(1, 1)], [(22, 0), (-1, 1)], [(-2, 0), (1, 2), (-1, 3), (9, 4)], [(1, 1), (-1, 5)], [(-1, 1), (1, 5)]], [(91, 992, [(1, 5)]), (91, 993, [(1, 2)]), (113, 1001, [(1, 3)]), (114, 1001, [(1, 4)])], [], [(91, 992, [(50, 0)]), (91, 984, [(1, 1)]), (91, 985, [(1, 3)]), (91, 986, [(1, 4)])], [])
theorem xo_25 : qRok xr_25 := by
  intro ρ M h0 hf hm hI
  have f0 := hf [(1, 1)] (by decide)
  have f1 := hf [(22, 0), (-1, 1)] (by decide)
  have f2 := hf [(-2, 0), (1, 2), (-1, 3), (9, 4)] (by decide)
  have f3 := hf [(1, 1), (-1, 5)] (by decide)
  have f4 := hf [(-1, 1), (1, 5)] (by decide)
  simp only [qD, h0] at f0 f1 f2 f3 f4
  have m0 : M 91 992 = 1 * ρ 5 + 0 := hm (91, 992, [(1, 5)]) (by decide)
  have m1 : M 91 993 = 1 * ρ 2 + 0 := hm (91, 993, [(1, 2)]) (by decide)
  have m2 : M 113 (zIx ρ (1000 + 1)) = 1 * ρ 3 + 0 := hm (113, 1001, [(1, 3)]) (by decide)
  rw [zix_p] at m2
  have m3 : M 114 (zIx ρ (1000 + 1)) = 1 * ρ 4 + 0 := hm (114, 1001, [(1, 4)]) (by decide)
  rw [zix_p] at m3
  have qxY2 := hI.2.2.2.1.2.1
  have qxY3 := hI.2.2.2.1.2.2.1
  refine ⟨ρ, fun _ _ => rfl, fun f h => ?_, ?_⟩
  · exact nomatch h
  · show sI (sU (sU (sU (sU M 91 992 (50 * ρ 0 + 0)) 91 984 (1 * ρ 1 + 0)) 91 985 (1 * ρ 3 + 0)) 91 986 (1 * ρ 4 + 0))
    obtain ⟨W, hW⟩ : ∃ W, W = (sU (sU (sU (sU M 91 992 (50 * ρ 0 + 0)) 91 984 (1 * ρ 1 + 0)) 91 985 (1 * ρ 3 + 0)) 91 986 (1 * ρ 4 + 0)) := ⟨_, rfl⟩
    rw [← hW]
    have base : sI0 W := by
      rw [hW]
      exact (si_u0 (si_u0 (si_u0 (si_u0 hI.1 (fun r hr => by cases hr)) (fun r hr => by cases hr)) (fun r hr => by cases hr)) (fun r hr => by cases hr))
    have k2 : XI2 W := by
      rw [hW]
      exact (xi2_u rfl (xi2_u rfl (xi2_u rfl (xi2_u rfl hI.2.1))))
    have k3 : XI3 W := by
      rw [hW]
      exact (xi3_u rfl (xi3_u rfl (xi3_u rfl (xi3_u rfl hI.2.2.1))))
    have k_xY1 : xY1 W := by
      rw [hW]
      exact (uxY1 rfl (uxY1 rfl (uxY1 rfl (uxY1 rfl hI.2.2.2.1.1))))
    have k_xY2 : xY2 W := by
      have r91_991 : W 91 991 = M 91 991 := by rw [hW, sU_ne (fun z => by omega), sU_ne (fun z => by omega), sU_ne (fun z => by omega), sU_ne (fun z => by omega)]
      have r91_992 : W 91 992 = 50 * ρ 0 + 0 := by rw [hW, sU_ne (fun z => by omega), sU_ne (fun z => by omega), sU_ne (fun z => by omega), sU_at]
      have r91_984 : W 91 984 = 1 * ρ 1 + 0 := by rw [hW, sU_ne (fun z => by omega), sU_ne (fun z => by omega), sU_at]
      have r91_993 : W 91 993 = M 91 993 := by rw [hW, sU_ne (fun z => by omega), sU_ne (fun z => by omega), sU_ne (fun z => by omega), sU_ne (fun z => by omega)]
      have r91_45 : W 91 45 = M 91 45 := by rw [hW, sU_ne (fun z => by omega), sU_ne (fun z => by omega), sU_ne (fun z => by omega), sU_ne (fun z => by omega)]
      have r91_46 : W 91 46 = M 91 46 := by rw [hW, sU_ne (fun z => by omega), sU_ne (fun z => by omega), sU_ne (fun z => by omega), sU_ne (fun z => by omega)]
      have c113 : ∀ k, W 113 k = M 113 k := fun k => by rw [hW, sU_ne (fun z => by omega), sU_ne (fun z => by omega), sU_ne (fun z => by omega), sU_ne (fun z => by omega)]
      have c114 : ∀ k, W 114 k = M 114 k := fun k => by rw [hW, sU_ne (fun z => by omega), sU_ne (fun z => by omega), sU_ne (fun z => by omega), sU_ne (fun z => by omega)]
      intro h1 i hi hv hx
      unfold xV at hv
      unfold xB
      rw [r91_991] at h1
      rw [r91_992] at hx
      rw [r91_45, r91_46, r91_984] at hv
      rw [c113 i, c114 i, r91_993]
      rw [h0] at hx
      by_cases hc : (i : Int) = ρ 1
      · rw [show i = (ρ 1).toNat by omega, m2, m3, m1]
        omega
      · have h2 := qxY2 (by omega) i hi (by unfold xV; omega) (by omega)
        unfold xB at h2
        exact h2
    have k_xY3 : xY3 W := by
      have r91_984 : W 91 984 = 1 * ρ 1 + 0 := by rw [hW, sU_ne (fun z => by omega), sU_ne (fun z => by omega), sU_at]
      have r91_985 : W 91 985 = 1 * ρ 3 + 0 := by rw [hW, sU_ne (fun z => by omega), sU_at]
      have r91_986 : W 91 986 = 1 * ρ 4 + 0 := by rw [hW, sU_at]
      have r91_992 : W 91 992 = 50 * ρ 0 + 0 := by rw [hW, sU_ne (fun z => by omega), sU_ne (fun z => by omega), sU_ne (fun z => by omega), sU_at]
      have c113 : ∀ k, W 113 k = M 113 k := fun k => by rw [hW, sU_ne (fun z => by omega), sU_ne (fun z => by omega), sU_ne (fun z => by omega), sU_ne (fun z => by omega)]
      have c114 : ∀ k, W 114 k = M 114 k := fun k => by rw [hW, sU_ne (fun z => by omega), sU_ne (fun z => by omega), sU_ne (fun z => by omega), sU_ne (fun z => by omega)]
      intro i hi he hx
      rw [r91_984] at he
      rw [r91_992] at hx
      rw [r91_985, r91_986]
      rw [c113 i, c114 i, show i = (ρ 1).toNat by omega, m2, m3]
      exact ⟨rfl, rfl⟩
    have k_xZ1 : xZ1 W := by
      rw [hW]
      exact (uxZ1 rfl (uxZ1 rfl (uxZ1 rfl (uxZ1 rfl hI.2.2.2.1.2.2.2.1))))
    have k_xZ2 : xZ2 W := by
      rw [hW]
      exact (uxZ2 rfl (uxZ2 rfl (uxZ2 rfl (uxZ2 rfl hI.2.2.2.1.2.2.2.2.1))))
    have k_xZ3 : xZ3 W := by
      rw [hW]
      exact (uxZ3 rfl (uxZ3 rfl (uxZ3 rfl (uxZ3 rfl hI.2.2.2.1.2.2.2.2.2.1))))
    have k_xZ4 : xZ4 W := by
      rw [hW]
      exact (uxZ4 rfl (uxZ4 rfl (uxZ4 rfl (uxZ4 rfl hI.2.2.2.1.2.2.2.2.2.2.1))))
    have k_xZ5 : xZ5 W := by
      rw [hW]
      exact (uxZ5 rfl (uxZ5 rfl (uxZ5 rfl (uxZ5 rfl hI.2.2.2.1.2.2.2.2.2.2.2.1))))
    have k_xZ6 : xZ6 W := by
      rw [hW]
      exact (uxZ6 rfl (uxZ6 rfl (uxZ6 rfl (uxZ6 rfl hI.2.2.2.1.2.2.2.2.2.2.2.2.1))))
    have k_xZ7 : xZ7 W := by
      rw [hW]
      exact (uxZ7 rfl (uxZ7 rfl (uxZ7 rfl (uxZ7 rfl hI.2.2.2.1.2.2.2.2.2.2.2.2.2.1))))
    have k_xZ8 : xZ8 W := by
      rw [hW]
      exact (uxZ8 rfl (uxZ8 rfl (uxZ8 rfl (uxZ8 rfl hI.2.2.2.1.2.2.2.2.2.2.2.2.2.2.1))))
    have k_xZ9 : xZ9 W := by
      rw [hW]
      exact (uxZ9 rfl (uxZ9 rfl (uxZ9 rfl (uxZ9 rfl hI.2.2.2.1.2.2.2.2.2.2.2.2.2.2.2.1))))
    have k_xZa : xZa W := by
      rw [hW]
      exact (uxZa rfl (uxZa rfl (uxZa rfl (uxZa rfl hI.2.2.2.1.2.2.2.2.2.2.2.2.2.2.2.2.1))))
    have k_xZb : xZb W := by
      rw [hW]
      exact (uxZb rfl (uxZb rfl (uxZb rfl (uxZb rfl hI.2.2.2.1.2.2.2.2.2.2.2.2.2.2.2.2.2.1))))
    have k_xT1 : xT1 W := by
      rw [hW]
      exact (uxT1 rfl (uxT1 rfl (uxT1 rfl (uxT1 rfl hI.2.2.2.1.2.2.2.2.2.2.2.2.2.2.2.2.2.2))))
    have kXA : XA W := ⟨k_xY1, k_xY2, k_xY3, k_xZ1, k_xZ2, k_xZ3, k_xZ4, k_xZ5, k_xZ6, k_xZ7, k_xZ8, k_xZ9, k_xZa, k_xZb, k_xT1⟩
    have kXB : XB W := by
      rw [hW]
      exact (uXB rfl (uXB rfl (uXB rfl (uXB rfl hI.2.2.2.2))))
    exact ⟨base, k2, k3, kXA, kXB⟩
-- it0
def xr_26 : qRu := (2, [], [(91, 991, [(1, 0)]), (91, 992, [(50, 0)]), (91, 993, [(1, 1)])], [], [(91, 984, []), (91, 985, [(1, 2)]), (91, 986, [(1, 3)])], [[(1, 2)], [(8, 0), (-1, 2)], [(1, 3)], [(3, 0), (-1, 3)], [(-2, 0), (1, 1), (-1, 2), (9, 3)]])
theorem xo_26 : qRok xr_26 := by
  intro ρ M h0 hf hm hI
  have m0 : M 91 991 = 1 * ρ 0 + 0 := hm (91, 991, [(1, 0)]) (by decide)
  have m1 : M 91 992 = 50 * ρ 0 + 0 := hm (91, 992, [(50, 0)]) (by decide)
  have m2 : M 91 993 = 1 * ρ 1 + 0 := hm (91, 993, [(1, 1)]) (by decide)
  simp only [h0] at m0 m1
  have qxY2 := hI.2.2.2.1.2.1
  have qxY3 := hI.2.2.2.1.2.2.1
  have b113 : (0 : Int) ≤ M 113 (0) ∧ M 113 (0) ≤ 8 := hI.1 113 (0) (0, 8) (xs_113 (by omega))
  have b114 : (0 : Int) ≤ M 114 (0) ∧ M 114 (0) ≤ 3 := hI.1 114 (0) (0, 3) (xs_114 (by omega))
  have hB := qxY2 (by omega) (0) (by omega) (by unfold xV; omega) (by omega)
  unfold xB at hB
  refine ⟨fun a => cond (Nat.blt a 2) (ρ a) (([M 113 (0), M 114 (0)] : List Int).getD (a - 2) 0), fun a ha => ?_, fun f h => ?_, ?_⟩
  · show cond (Nat.blt a 2) (ρ a) _ = ρ a
    rw [show Nat.blt a 2 = true from Nat.ble_eq_true_of_le ha]; rfl
  · have h : f ∈ ([[(1, 2)], [(8, 0), (-1, 2)], [(1, 3)], [(3, 0), (-1, 3)], [(-2, 0), (1, 1), (-1, 2), (9, 3)]] : List qF) := h
    simp only [List.mem_cons, List.not_mem_nil, or_false] at h
    rcases h with rfl | rfl | rfl | rfl | rfl
    · show 0 ≤ 1 * (M 113 (0)) + 0
      (try rw [h0]); omega
    · show 0 ≤ 8 * ρ 0 + (-1 * (M 113 (0)) + 0)
      (try rw [h0]); omega
    · show 0 ≤ 1 * (M 114 (0)) + 0
      (try rw [h0]); omega
    · show 0 ≤ 3 * ρ 0 + (-1 * (M 114 (0)) + 0)
      (try rw [h0]); omega
    · show 0 ≤ -2 * ρ 0 + (1 * ρ 1 + (-1 * (M 113 (0)) + (9 * (M 114 (0)) + 0)))
      (try rw [h0]); omega
  · show sI (sU (sU (sU M 91 984 (0)) 91 985 (1 * (M 113 (0)) + 0)) 91 986 (1 * (M 114 (0)) + 0))
    obtain ⟨W, hW⟩ : ∃ W, W = (sU (sU (sU M 91 984 (0)) 91 985 (1 * (M 113 (0)) + 0)) 91 986 (1 * (M 114 (0)) + 0)) := ⟨_, rfl⟩
    rw [← hW]
    have base : sI0 W := by
      rw [hW]
      exact (si_u0 (si_u0 (si_u0 hI.1 (fun r hr => by cases hr)) (fun r hr => by cases hr)) (fun r hr => by cases hr))
    have k2 : XI2 W := by
      rw [hW]
      exact (xi2_u rfl (xi2_u rfl (xi2_u rfl hI.2.1)))
    have k3 : XI3 W := by
      rw [hW]
      exact (xi3_u rfl (xi3_u rfl (xi3_u rfl hI.2.2.1)))
    have k_xY1 : xY1 W := by
      rw [hW]
      exact (uxY1 rfl (uxY1 rfl (uxY1 rfl hI.2.2.2.1.1)))
    have k_xY2 : xY2 W := by
      have r91_991 : W 91 991 = M 91 991 := by rw [hW, sU_ne (fun z => by omega), sU_ne (fun z => by omega), sU_ne (fun z => by omega)]
      have r91_992 : W 91 992 = M 91 992 := by rw [hW, sU_ne (fun z => by omega), sU_ne (fun z => by omega), sU_ne (fun z => by omega)]
      have r91_984 : W 91 984 = 0 := by rw [hW, sU_ne (fun z => by omega), sU_ne (fun z => by omega), sU_at]
      have r91_993 : W 91 993 = M 91 993 := by rw [hW, sU_ne (fun z => by omega), sU_ne (fun z => by omega), sU_ne (fun z => by omega)]
      have r91_45 : W 91 45 = M 91 45 := by rw [hW, sU_ne (fun z => by omega), sU_ne (fun z => by omega), sU_ne (fun z => by omega)]
      have r91_46 : W 91 46 = M 91 46 := by rw [hW, sU_ne (fun z => by omega), sU_ne (fun z => by omega), sU_ne (fun z => by omega)]
      have c113 : ∀ k, W 113 k = M 113 k := fun k => by rw [hW, sU_ne (fun z => by omega), sU_ne (fun z => by omega), sU_ne (fun z => by omega)]
      have c114 : ∀ k, W 114 k = M 114 k := fun k => by rw [hW, sU_ne (fun z => by omega), sU_ne (fun z => by omega), sU_ne (fun z => by omega)]
      intro h1 i hi hv hx
      unfold xV at hv
      unfold xB
      rw [r91_991] at h1
      rw [r91_992] at hx
      rw [r91_45, r91_46, r91_984] at hv
      rw [c113 i, c114 i, r91_993]
      by_cases hc : (i : Int) = 0
      · rw [show i = 0 by omega]
        exact hB
      · have h2 := qxY2 (by omega) i hi (by (try rw [h0] at hv); unfold xV; omega) (by omega)
        unfold xB at h2
        exact h2
    have k_xY3 : xY3 W := by
      have r91_984 : W 91 984 = 0 := by rw [hW, sU_ne (fun z => by omega), sU_ne (fun z => by omega), sU_at]
      have r91_985 : W 91 985 = 1 * (M 113 (0)) + 0 := by rw [hW, sU_ne (fun z => by omega), sU_at]
      have r91_986 : W 91 986 = 1 * (M 114 (0)) + 0 := by rw [hW, sU_at]
      have r91_992 : W 91 992 = M 91 992 := by rw [hW, sU_ne (fun z => by omega), sU_ne (fun z => by omega), sU_ne (fun z => by omega)]
      have c113 : ∀ k, W 113 k = M 113 k := fun k => by rw [hW, sU_ne (fun z => by omega), sU_ne (fun z => by omega), sU_ne (fun z => by omega)]
      have c114 : ∀ k, W 114 k = M 114 k := fun k => by rw [hW, sU_ne (fun z => by omega), sU_ne (fun z => by omega), sU_ne (fun z => by omega)]
      intro i hi he hx
      rw [r91_984] at he
      rw [r91_992] at hx
      rw [r91_985, r91_986]
      rw [c113 i, c114 i]
      (try rw [h0] at he)
      rw [show i = 0 by omega]
      exact ⟨by omega, by omega⟩
    have k_xZ1 : xZ1 W := by
      rw [hW]
      exact (uxZ1 rfl (uxZ1 rfl (uxZ1 rfl hI.2.2.2.1.2.2.2.1)))
    have k_xZ2 : xZ2 W := by
      rw [hW]
      exact (uxZ2 rfl (uxZ2 rfl (uxZ2 rfl hI.2.2.2.1.2.2.2.2.1)))
    have k_xZ3 : xZ3 W := by
      rw [hW]
      exact (uxZ3 rfl (uxZ3 rfl (uxZ3 rfl hI.2.2.2.1.2.2.2.2.2.1)))
    have k_xZ4 : xZ4 W := by
      rw [hW]
      exact (uxZ4 rfl (uxZ4 rfl (uxZ4 rfl hI.2.2.2.1.2.2.2.2.2.2.1)))
    have k_xZ5 : xZ5 W := by
      rw [hW]
      exact (uxZ5 rfl (uxZ5 rfl (uxZ5 rfl hI.2.2.2.1.2.2.2.2.2.2.2.1)))
    have k_xZ6 : xZ6 W := by
      rw [hW]
      exact (uxZ6 rfl (uxZ6 rfl (uxZ6 rfl hI.2.2.2.1.2.2.2.2.2.2.2.2.1)))
    have k_xZ7 : xZ7 W := by
      rw [hW]
      exact (uxZ7 rfl (uxZ7 rfl (uxZ7 rfl hI.2.2.2.1.2.2.2.2.2.2.2.2.2.1)))
    have k_xZ8 : xZ8 W := by
      rw [hW]
      exact (uxZ8 rfl (uxZ8 rfl (uxZ8 rfl hI.2.2.2.1.2.2.2.2.2.2.2.2.2.2.1)))
    have k_xZ9 : xZ9 W := by
      rw [hW]
      exact (uxZ9 rfl (uxZ9 rfl (uxZ9 rfl hI.2.2.2.1.2.2.2.2.2.2.2.2.2.2.2.1)))
    have k_xZa : xZa W := by
      rw [hW]
      exact (uxZa rfl (uxZa rfl (uxZa rfl hI.2.2.2.1.2.2.2.2.2.2.2.2.2.2.2.2.1)))
    have k_xZb : xZb W := by
      rw [hW]
      exact (uxZb rfl (uxZb rfl (uxZb rfl hI.2.2.2.1.2.2.2.2.2.2.2.2.2.2.2.2.2.1)))
    have k_xT1 : xT1 W := by
      rw [hW]
      exact (uxT1 rfl (uxT1 rfl (uxT1 rfl hI.2.2.2.1.2.2.2.2.2.2.2.2.2.2.2.2.2.2)))
    have kXA : XA W := ⟨k_xY1, k_xY2, k_xY3, k_xZ1, k_xZ2, k_xZ3, k_xZ4, k_xZ5, k_xZ6, k_xZ7, k_xZ8, k_xZ9, k_xZa, k_xZb, k_xT1⟩
    have kXB : XB W := by
      rw [hW]
      exact (uXB rfl (uXB rfl (uXB rfl hI.2.2.2.2)))
    exact ⟨base, k2, k3, kXA, kXB⟩
-- it2
def xr_27 : qRu := (3, [[(-1, 0), (1, 2)], [(1, 0), (-1, 2)]], [(91, 991, [(1, 0)]), (91, 992, [(50, 0)]), (91, 993, [(1, 1)]), (91, 45, [(1, 2)])], [], [(91, 984, [(2, 0)]), (91, 985, [(1, 3)]), (91, 986, [(1, 4)])], [[(1, 3)], [(8, 0), (-1, 3)], [(1, 4)], [(3, 0), (-1, 4)], [(-2, 0), (1, 1), (-1, 3), (9, 4)]])
theorem xo_27 : qRok xr_27 := by
  intro ρ M h0 hf hm hI
  have f0 := hf [(-1, 0), (1, 2)] (by decide)
  have f1 := hf [(1, 0), (-1, 2)] (by decide)
  simp only [qD, h0] at f0 f1
  have m0 : M 91 991 = 1 * ρ 0 + 0 := hm (91, 991, [(1, 0)]) (by decide)
  have m1 : M 91 992 = 50 * ρ 0 + 0 := hm (91, 992, [(50, 0)]) (by decide)
  have m2 : M 91 993 = 1 * ρ 1 + 0 := hm (91, 993, [(1, 1)]) (by decide)
  have m3 : M 91 45 = 1 * ρ 2 + 0 := hm (91, 45, [(1, 2)]) (by decide)
  simp only [h0] at m0 m1
  have qxY2 := hI.2.2.2.1.2.1
  have qxY3 := hI.2.2.2.1.2.2.1
  have b113 : (0 : Int) ≤ M 113 (2) ∧ M 113 (2) ≤ 8 := hI.1 113 (2) (0, 8) (xs_113 (by omega))
  have b114 : (0 : Int) ≤ M 114 (2) ∧ M 114 (2) ≤ 3 := hI.1 114 (2) (0, 3) (xs_114 (by omega))
  have hB := qxY2 (by omega) (2) (by omega) (by unfold xV; omega) (by omega)
  unfold xB at hB
  refine ⟨fun a => cond (Nat.blt a 3) (ρ a) (([M 113 (2), M 114 (2)] : List Int).getD (a - 3) 0), fun a ha => ?_, fun f h => ?_, ?_⟩
  · show cond (Nat.blt a 3) (ρ a) _ = ρ a
    rw [show Nat.blt a 3 = true from Nat.ble_eq_true_of_le ha]; rfl
  · have h : f ∈ ([[(1, 3)], [(8, 0), (-1, 3)], [(1, 4)], [(3, 0), (-1, 4)], [(-2, 0), (1, 1), (-1, 3), (9, 4)]] : List qF) := h
    simp only [List.mem_cons, List.not_mem_nil, or_false] at h
    rcases h with rfl | rfl | rfl | rfl | rfl
    · show 0 ≤ 1 * (M 113 (2)) + 0
      (try rw [h0]); omega
    · show 0 ≤ 8 * ρ 0 + (-1 * (M 113 (2)) + 0)
      (try rw [h0]); omega
    · show 0 ≤ 1 * (M 114 (2)) + 0
      (try rw [h0]); omega
    · show 0 ≤ 3 * ρ 0 + (-1 * (M 114 (2)) + 0)
      (try rw [h0]); omega
    · show 0 ≤ -2 * ρ 0 + (1 * ρ 1 + (-1 * (M 113 (2)) + (9 * (M 114 (2)) + 0)))
      (try rw [h0]); omega
  · show sI (sU (sU (sU M 91 984 (2 * ρ 0 + 0)) 91 985 (1 * (M 113 (2)) + 0)) 91 986 (1 * (M 114 (2)) + 0))
    obtain ⟨W, hW⟩ : ∃ W, W = (sU (sU (sU M 91 984 (2 * ρ 0 + 0)) 91 985 (1 * (M 113 (2)) + 0)) 91 986 (1 * (M 114 (2)) + 0)) := ⟨_, rfl⟩
    rw [← hW]
    have base : sI0 W := by
      rw [hW]
      exact (si_u0 (si_u0 (si_u0 hI.1 (fun r hr => by cases hr)) (fun r hr => by cases hr)) (fun r hr => by cases hr))
    have k2 : XI2 W := by
      rw [hW]
      exact (xi2_u rfl (xi2_u rfl (xi2_u rfl hI.2.1)))
    have k3 : XI3 W := by
      rw [hW]
      exact (xi3_u rfl (xi3_u rfl (xi3_u rfl hI.2.2.1)))
    have k_xY1 : xY1 W := by
      rw [hW]
      exact (uxY1 rfl (uxY1 rfl (uxY1 rfl hI.2.2.2.1.1)))
    have k_xY2 : xY2 W := by
      have r91_991 : W 91 991 = M 91 991 := by rw [hW, sU_ne (fun z => by omega), sU_ne (fun z => by omega), sU_ne (fun z => by omega)]
      have r91_992 : W 91 992 = M 91 992 := by rw [hW, sU_ne (fun z => by omega), sU_ne (fun z => by omega), sU_ne (fun z => by omega)]
      have r91_984 : W 91 984 = 2 * ρ 0 + 0 := by rw [hW, sU_ne (fun z => by omega), sU_ne (fun z => by omega), sU_at]
      have r91_993 : W 91 993 = M 91 993 := by rw [hW, sU_ne (fun z => by omega), sU_ne (fun z => by omega), sU_ne (fun z => by omega)]
      have r91_45 : W 91 45 = M 91 45 := by rw [hW, sU_ne (fun z => by omega), sU_ne (fun z => by omega), sU_ne (fun z => by omega)]
      have r91_46 : W 91 46 = M 91 46 := by rw [hW, sU_ne (fun z => by omega), sU_ne (fun z => by omega), sU_ne (fun z => by omega)]
      have c113 : ∀ k, W 113 k = M 113 k := fun k => by rw [hW, sU_ne (fun z => by omega), sU_ne (fun z => by omega), sU_ne (fun z => by omega)]
      have c114 : ∀ k, W 114 k = M 114 k := fun k => by rw [hW, sU_ne (fun z => by omega), sU_ne (fun z => by omega), sU_ne (fun z => by omega)]
      intro h1 i hi hv hx
      unfold xV at hv
      unfold xB
      rw [r91_991] at h1
      rw [r91_992] at hx
      rw [r91_45, r91_46, r91_984] at hv
      rw [c113 i, c114 i, r91_993]
      by_cases hc : (i : Int) = 2 * 1 + 0
      · rw [show i = 2 by omega]
        exact hB
      · have h2 := qxY2 (by omega) i hi (by (try rw [h0] at hv); unfold xV; omega) (by omega)
        unfold xB at h2
        exact h2
    have k_xY3 : xY3 W := by
      have r91_984 : W 91 984 = 2 * ρ 0 + 0 := by rw [hW, sU_ne (fun z => by omega), sU_ne (fun z => by omega), sU_at]
      have r91_985 : W 91 985 = 1 * (M 113 (2)) + 0 := by rw [hW, sU_ne (fun z => by omega), sU_at]
      have r91_986 : W 91 986 = 1 * (M 114 (2)) + 0 := by rw [hW, sU_at]
      have r91_992 : W 91 992 = M 91 992 := by rw [hW, sU_ne (fun z => by omega), sU_ne (fun z => by omega), sU_ne (fun z => by omega)]
      have c113 : ∀ k, W 113 k = M 113 k := fun k => by rw [hW, sU_ne (fun z => by omega), sU_ne (fun z => by omega), sU_ne (fun z => by omega)]
      have c114 : ∀ k, W 114 k = M 114 k := fun k => by rw [hW, sU_ne (fun z => by omega), sU_ne (fun z => by omega), sU_ne (fun z => by omega)]
      intro i hi he hx
      rw [r91_984] at he
      rw [r91_992] at hx
      rw [r91_985, r91_986]
      rw [c113 i, c114 i]
      (try rw [h0] at he)
      rw [show i = 2 by omega]
      exact ⟨by omega, by omega⟩
    have k_xZ1 : xZ1 W := by
      rw [hW]
      exact (uxZ1 rfl (uxZ1 rfl (uxZ1 rfl hI.2.2.2.1.2.2.2.1)))
    have k_xZ2 : xZ2 W := by
      rw [hW]
      exact (uxZ2 rfl (uxZ2 rfl (uxZ2 rfl hI.2.2.2.1.2.2.2.2.1)))
    have k_xZ3 : xZ3 W := by
      rw [hW]
      exact (uxZ3 rfl (uxZ3 rfl (uxZ3 rfl hI.2.2.2.1.2.2.2.2.2.1)))
    have k_xZ4 : xZ4 W := by
      rw [hW]
      exact (uxZ4 rfl (uxZ4 rfl (uxZ4 rfl hI.2.2.2.1.2.2.2.2.2.2.1)))
    have k_xZ5 : xZ5 W := by
      rw [hW]
      exact (uxZ5 rfl (uxZ5 rfl (uxZ5 rfl hI.2.2.2.1.2.2.2.2.2.2.2.1)))
    have k_xZ6 : xZ6 W := by
      rw [hW]
      exact (uxZ6 rfl (uxZ6 rfl (uxZ6 rfl hI.2.2.2.1.2.2.2.2.2.2.2.2.1)))
    have k_xZ7 : xZ7 W := by
      rw [hW]
      exact (uxZ7 rfl (uxZ7 rfl (uxZ7 rfl hI.2.2.2.1.2.2.2.2.2.2.2.2.2.1)))
    have k_xZ8 : xZ8 W := by
      rw [hW]
      exact (uxZ8 rfl (uxZ8 rfl (uxZ8 rfl hI.2.2.2.1.2.2.2.2.2.2.2.2.2.2.1)))
    have k_xZ9 : xZ9 W := by
      rw [hW]
      exact (uxZ9 rfl (uxZ9 rfl (uxZ9 rfl hI.2.2.2.1.2.2.2.2.2.2.2.2.2.2.2.1)))
    have k_xZa : xZa W := by
      rw [hW]
      exact (uxZa rfl (uxZa rfl (uxZa rfl hI.2.2.2.1.2.2.2.2.2.2.2.2.2.2.2.2.1)))
    have k_xZb : xZb W := by
      rw [hW]
      exact (uxZb rfl (uxZb rfl (uxZb rfl hI.2.2.2.1.2.2.2.2.2.2.2.2.2.2.2.2.2.1)))
    have k_xT1 : xT1 W := by
      rw [hW]
      exact (uxT1 rfl (uxT1 rfl (uxT1 rfl hI.2.2.2.1.2.2.2.2.2.2.2.2.2.2.2.2.2.2)))
    have kXA : XA W := ⟨k_xY1, k_xY2, k_xY3, k_xZ1, k_xZ2, k_xZ3, k_xZ4, k_xZ5, k_xZ6, k_xZ7, k_xZ8, k_xZ9, k_xZa, k_xZb, k_xT1⟩
    have kXB : XB W := by
      rw [hW]
      exact (uXB rfl (uXB rfl (uXB rfl hI.2.2.2.2)))
    exact ⟨base, k2, k3, kXA, kXB⟩
-- itk
def xr_28 : qRu := (4, [[(-3, 0), (1, 2)], [(2, 0), (-1, 2), (1, 3)], [(20, 0), (-1, 3)]], [(91, 991, [(1, 0)]), (91, 992, [(50, 0)]), (91, 993, [(1, 1)]), (91, 46, [(1, 3)])], [], [(91, 984, [(1, 2)]), (91, 985, [(1, 4)]), (91, 986, [(1, 5)])], [[(1, 4)], [(8, 0), (-1, 4)], [(1, 5)], [(3, 0), (-1, 5)], [(-2, 0), (1, 1), (-1, 4), (9, 5)]])
theorem xo_28 : qRok xr_28 := by
  intro ρ M h0 hf hm hI
  have f0 := hf [(-3, 0), (1, 2)] (by decide)
  have f1 := hf [(2, 0), (-1, 2), (1, 3)] (by decide)
  have f2 := hf [(20, 0), (-1, 3)] (by decide)
  simp only [qD, h0] at f0 f1 f2
  have m0 : M 91 991 = 1 * ρ 0 + 0 := hm (91, 991, [(1, 0)]) (by decide)
  have m1 : M 91 992 = 50 * ρ 0 + 0 := hm (91, 992, [(50, 0)]) (by decide)
  have m2 : M 91 993 = 1 * ρ 1 + 0 := hm (91, 993, [(1, 1)]) (by decide)
  have m3 : M 91 46 = 1 * ρ 3 + 0 := hm (91, 46, [(1, 3)]) (by decide)
  simp only [h0] at m0 m1
  have qxY2 := hI.2.2.2.1.2.1
  have qxY3 := hI.2.2.2.1.2.2.1
  have b113 : (0 : Int) ≤ M 113 ((ρ 2).toNat) ∧ M 113 ((ρ 2).toNat) ≤ 8 := hI.1 113 ((ρ 2).toNat) (0, 8) (xs_113 (by omega))
  have b114 : (0 : Int) ≤ M 114 ((ρ 2).toNat) ∧ M 114 ((ρ 2).toNat) ≤ 3 := hI.1 114 ((ρ 2).toNat) (0, 3) (xs_114 (by omega))
  have hB := qxY2 (by omega) ((ρ 2).toNat) (by omega) (by unfold xV; omega) (by omega)
  unfold xB at hB
  refine ⟨fun a => cond (Nat.blt a 4) (ρ a) (([M 113 ((ρ 2).toNat), M 114 ((ρ 2).toNat)] : List Int).getD (a - 4) 0), fun a ha => ?_, fun f h => ?_, ?_⟩
  · show cond (Nat.blt a 4) (ρ a) _ = ρ a
    rw [show Nat.blt a 4 = true from Nat.ble_eq_true_of_le ha]; rfl
  · have h : f ∈ ([[(1, 4)], [(8, 0), (-1, 4)], [(1, 5)], [(3, 0), (-1, 5)], [(-2, 0), (1, 1), (-1, 4), (9, 5)]] : List qF) := h
    simp only [List.mem_cons, List.not_mem_nil, or_false] at h
    rcases h with rfl | rfl | rfl | rfl | rfl
    · show 0 ≤ 1 * (M 113 ((ρ 2).toNat)) + 0
      (try rw [h0]); omega
    · show 0 ≤ 8 * ρ 0 + (-1 * (M 113 ((ρ 2).toNat)) + 0)
      (try rw [h0]); omega
    · show 0 ≤ 1 * (M 114 ((ρ 2).toNat)) + 0
      (try rw [h0]); omega
    · show 0 ≤ 3 * ρ 0 + (-1 * (M 114 ((ρ 2).toNat)) + 0)
      (try rw [h0]); omega
    · show 0 ≤ -2 * ρ 0 + (1 * ρ 1 + (-1 * (M 113 ((ρ 2).toNat)) + (9 * (M 114 ((ρ 2).toNat)) + 0)))
      (try rw [h0]); omega
  · show sI (sU (sU (sU M 91 984 (1 * ρ 2 + 0)) 91 985 (1 * (M 113 ((ρ 2).toNat)) + 0)) 91 986 (1 * (M 114 ((ρ 2).toNat)) + 0))
    obtain ⟨W, hW⟩ : ∃ W, W = (sU (sU (sU M 91 984 (1 * ρ 2 + 0)) 91 985 (1 * (M 113 ((ρ 2).toNat)) + 0)) 91 986 (1 * (M 114 ((ρ 2).toNat)) + 0)) := ⟨_, rfl⟩
    rw [← hW]
    have base : sI0 W := by
      rw [hW]
      exact (si_u0 (si_u0 (si_u0 hI.1 (fun r hr => by cases hr)) (fun r hr => by cases hr)) (fun r hr => by cases hr))
    have k2 : XI2 W := by
      rw [hW]
      exact (xi2_u rfl (xi2_u rfl (xi2_u rfl hI.2.1)))
    have k3 : XI3 W := by
      rw [hW]
      exact (xi3_u rfl (xi3_u rfl (xi3_u rfl hI.2.2.1)))
    have k_xY1 : xY1 W := by
      rw [hW]
      exact (uxY1 rfl (uxY1 rfl (uxY1 rfl hI.2.2.2.1.1)))
    have k_xY2 : xY2 W := by
      have r91_991 : W 91 991 = M 91 991 := by rw [hW, sU_ne (fun z => by omega), sU_ne (fun z => by omega), sU_ne (fun z => by omega)]
      have r91_992 : W 91 992 = M 91 992 := by rw [hW, sU_ne (fun z => by omega), sU_ne (fun z => by omega), sU_ne (fun z => by omega)]
      have r91_984 : W 91 984 = 1 * ρ 2 + 0 := by rw [hW, sU_ne (fun z => by omega), sU_ne (fun z => by omega), sU_at]
      have r91_993 : W 91 993 = M 91 993 := by rw [hW, sU_ne (fun z => by omega), sU_ne (fun z => by omega), sU_ne (fun z => by omega)]
      have r91_45 : W 91 45 = M 91 45 := by rw [hW, sU_ne (fun z => by omega), sU_ne (fun z => by omega), sU_ne (fun z => by omega)]
      have r91_46 : W 91 46 = M 91 46 := by rw [hW, sU_ne (fun z => by omega), sU_ne (fun z => by omega), sU_ne (fun z => by omega)]
      have c113 : ∀ k, W 113 k = M 113 k := fun k => by rw [hW, sU_ne (fun z => by omega), sU_ne (fun z => by omega), sU_ne (fun z => by omega)]
      have c114 : ∀ k, W 114 k = M 114 k := fun k => by rw [hW, sU_ne (fun z => by omega), sU_ne (fun z => by omega), sU_ne (fun z => by omega)]
      intro h1 i hi hv hx
      unfold xV at hv
      unfold xB
      rw [r91_991] at h1
      rw [r91_992] at hx
      rw [r91_45, r91_46, r91_984] at hv
      rw [c113 i, c114 i, r91_993]
      by_cases hc : (i : Int) = 1 * ρ 2 + 0
      · rw [show i = (ρ 2).toNat by omega]
        exact hB
      · have h2 := qxY2 (by omega) i hi (by (try rw [h0] at hv); unfold xV; omega) (by omega)
        unfold xB at h2
        exact h2
    have k_xY3 : xY3 W := by
      have r91_984 : W 91 984 = 1 * ρ 2 + 0 := by rw [hW, sU_ne (fun z => by omega), sU_ne (fun z => by omega), sU_at]
      have r91_985 : W 91 985 = 1 * (M 113 ((ρ 2).toNat)) + 0 := by rw [hW, sU_ne (fun z => by omega), sU_at]
      have r91_986 : W 91 986 = 1 * (M 114 ((ρ 2).toNat)) + 0 := by rw [hW, sU_at]
      have r91_992 : W 91 992 = M 91 992 := by rw [hW, sU_ne (fun z => by omega), sU_ne (fun z => by omega), sU_ne (fun z => by omega)]
      have c113 : ∀ k, W 113 k = M 113 k := fun k => by rw [hW, sU_ne (fun z => by omega), sU_ne (fun z => by omega), sU_ne (fun z => by omega)]
      have c114 : ∀ k, W 114 k = M 114 k := fun k => by rw [hW, sU_ne (fun z => by omega), sU_ne (fun z => by omega), sU_ne (fun z => by omega)]
      intro i hi he hx
      rw [r91_984] at he
      rw [r91_992] at hx
      rw [r91_985, r91_986]
      rw [c113 i, c114 i]
      (try rw [h0] at he)
      rw [show i = (ρ 2).toNat by omega]
      exact ⟨by omega, by omega⟩
    have k_xZ1 : xZ1 W := by
      rw [hW]
      exact (uxZ1 rfl (uxZ1 rfl (uxZ1 rfl hI.2.2.2.1.2.2.2.1)))
    have k_xZ2 : xZ2 W := by
      rw [hW]
      exact (uxZ2 rfl (uxZ2 rfl (uxZ2 rfl hI.2.2.2.1.2.2.2.2.1)))
    have k_xZ3 : xZ3 W := by
      rw [hW]
      exact (uxZ3 rfl (uxZ3 rfl (uxZ3 rfl hI.2.2.2.1.2.2.2.2.2.1)))
    have k_xZ4 : xZ4 W := by
      rw [hW]
      exact (uxZ4 rfl (uxZ4 rfl (uxZ4 rfl hI.2.2.2.1.2.2.2.2.2.2.1)))
    have k_xZ5 : xZ5 W := by
      rw [hW]
      exact (uxZ5 rfl (uxZ5 rfl (uxZ5 rfl hI.2.2.2.1.2.2.2.2.2.2.2.1)))
    have k_xZ6 : xZ6 W := by
      rw [hW]
      exact (uxZ6 rfl (uxZ6 rfl (uxZ6 rfl hI.2.2.2.1.2.2.2.2.2.2.2.2.1)))
    have k_xZ7 : xZ7 W := by
      rw [hW]
      exact (uxZ7 rfl (uxZ7 rfl (uxZ7 rfl hI.2.2.2.1.2.2.2.2.2.2.2.2.2.1)))
    have k_xZ8 : xZ8 W := by
      rw [hW]
      exact (uxZ8 rfl (uxZ8 rfl (uxZ8 rfl hI.2.2.2.1.2.2.2.2.2.2.2.2.2.2.1)))
    have k_xZ9 : xZ9 W := by
      rw [hW]
      exact (uxZ9 rfl (uxZ9 rfl (uxZ9 rfl hI.2.2.2.1.2.2.2.2.2.2.2.2.2.2.2.1)))
    have k_xZa : xZa W := by
      rw [hW]
      exact (uxZa rfl (uxZa rfl (uxZa rfl hI.2.2.2.1.2.2.2.2.2.2.2.2.2.2.2.2.1)))
    have k_xZb : xZb W := by
      rw [hW]
      exact (uxZb rfl (uxZb rfl (uxZb rfl hI.2.2.2.1.2.2.2.2.2.2.2.2.2.2.2.2.2.1)))
    have k_xT1 : xT1 W := by
      rw [hW]
      exact (uxT1 rfl (uxT1 rfl (uxT1 rfl hI.2.2.2.1.2.2.2.2.2.2.2.2.2.2.2.2.2.2)))
    have kXA : XA W := ⟨k_xY1, k_xY2, k_xY3, k_xZ1, k_xZ2, k_xZ3, k_xZ4, k_xZ5, k_xZ6, k_xZ7, k_xZ8, k_xZ9, k_xZa, k_xZb, k_xT1⟩
    have kXB : XB W := by
      rw [hW]
      exact (uXB rfl (uXB rfl (uXB rfl hI.2.2.2.2)))
    exact ⟨base, k2, k3, kXA, kXB⟩
-- bendU
def xr_29 : qRu := (6, [[(1, 1)], [(22, 0), (-1, 1)], [(-1, 0), (-1, 1), (1, 2)], [(1, 1), (-1, 5)], [(-1, 1), (1, 5)]], [(91, 984, [(1, 5)]), (91, 992, [(1, 2)]), (91, 985, [(1, 3)]), (113, 1001, [(1, 4)])], [], [], [[(1, 3), (-1, 4)], [(-1, 3), (1, 4)]])
theorem xo_29 : qRok xr_29 := by
  intro ρ M h0 hf hm hI
  have f0 := hf [(1, 1)] (by decide)
  have f1 := hf [(22, 0), (-1, 1)] (by decide)
  have f2 := hf [(-1, 0), (-1, 1), (1, 2)] (by decide)
  have f3 := hf [(1, 1), (-1, 5)] (by decide)
  have f4 := hf [(-1, 1), (1, 5)] (by decide)
  simp only [qD, h0] at f0 f1 f2 f3 f4
  have m0 : M 91 984 = 1 * ρ 5 + 0 := hm (91, 984, [(1, 5)]) (by decide)
  have m1 : M 91 992 = 1 * ρ 2 + 0 := hm (91, 992, [(1, 2)]) (by decide)
  have m2 : M 91 985 = 1 * ρ 3 + 0 := hm (91, 985, [(1, 3)]) (by decide)
  have m3 : M 113 (zIx ρ (1000 + 1)) = 1 * ρ 4 + 0 := hm (113, 1001, [(1, 4)]) (by decide)
  rw [zix_p] at m3
  have qxY3 := hI.2.2.2.1.2.2.1
  have h2 := qxY3 (ρ 1).toNat (by omega) (by omega) (by omega)
  refine ⟨ρ, fun _ _ => rfl, fun f h => ?_, ?_⟩
  · have h3 := h2.1
    have h : f ∈ ([[(1, 3), (-1, 4)], [(-1, 3), (1, 4)]] : List qF) := h
    simp only [List.mem_cons, List.not_mem_nil, or_false] at h
    rcases h with rfl | rfl
    · show 0 ≤ 1 * ρ 3 + (-1 * ρ 4 + 0)
      (try rw [h0]); omega
    · show 0 ≤ -1 * ρ 3 + (1 * ρ 4 + 0)
      (try rw [h0]); omega
  · show sI M
    exact hI
-- bendD
def xr_30 : qRu := (6, [[(1, 1)], [(22, 0), (-1, 1)], [(-1, 0), (1, 1), (-1, 2)], [(1, 1), (-1, 5)], [(-1, 1), (1, 5)]], [(91, 984, [(1, 5)]), (91, 992, [(1, 2)]), (91, 985, [(1, 3)]), (113, 1001, [(1, 4)])], [], [], [[(1, 3), (-1, 4)], [(-1, 3), (1, 4)]])
theorem xo_30 : qRok xr_30 := by
  intro ρ M h0 hf hm hI
  have f0 := hf [(1, 1)] (by decide)
  have f1 := hf [(22, 0), (-1, 1)] (by decide)
  have f2 := hf [(-1, 0), (1, 1), (-1, 2)] (by decide)
  have f3 := hf [(1, 1), (-1, 5)] (by decide)
  have f4 := hf [(-1, 1), (1, 5)] (by decide)
  simp only [qD, h0] at f0 f1 f2 f3 f4
  have m0 : M 91 984 = 1 * ρ 5 + 0 := hm (91, 984, [(1, 5)]) (by decide)
  have m1 : M 91 992 = 1 * ρ 2 + 0 := hm (91, 992, [(1, 2)]) (by decide)
  have m2 : M 91 985 = 1 * ρ 3 + 0 := hm (91, 985, [(1, 3)]) (by decide)
  have m3 : M 113 (zIx ρ (1000 + 1)) = 1 * ρ 4 + 0 := hm (113, 1001, [(1, 4)]) (by decide)
  rw [zix_p] at m3
  have qxY3 := hI.2.2.2.1.2.2.1
  have h2 := qxY3 (ρ 1).toNat (by omega) (by omega) (by omega)
  refine ⟨ρ, fun _ _ => rfl, fun f h => ?_, ?_⟩
  · have h3 := h2.1
    have h : f ∈ ([[(1, 3), (-1, 4)], [(-1, 3), (1, 4)]] : List qF) := h
    simp only [List.mem_cons, List.not_mem_nil, or_false] at h
    rcases h with rfl | rfl
    · show 0 ≤ 1 * ρ 3 + (-1 * ρ 4 + 0)
      (try rw [h0]); omega
    · show 0 ≤ -1 * ρ 3 + (1 * ρ 4 + 0)
      (try rw [h0]); omega
  · show sI M
    exact hI
-- stateU
def xr_31 : qRu := (6, [[(1, 1)], [(22, 0), (-1, 1)], [(-1, 0), (-1, 1), (1, 2)], [(1, 1), (-1, 5)], [(-1, 1), (1, 5)]], [(91, 984, [(1, 5)]), (91, 992, [(1, 2)]), (91, 986, [(1, 3)]), (114, 1001, [(1, 4)])], [], [], [[(1, 3), (-1, 4)], [(-1, 3), (1, 4)]])
theorem xo_31 : qRok xr_31 := by
  intro ρ M h0 hf hm hI
  have f0 := hf [(1, 1)] (by decide)
  have f1 := hf [(22, 0), (-1, 1)] (by decide)
  have f2 := hf [(-1, 0), (-1, 1), (1, 2)] (by decide)
  have f3 := hf [(1, 1), (-1, 5)] (by decide)
  have f4 := hf [(-1, 1), (1, 5)] (by decide)
  simp only [qD, h0] at f0 f1 f2 f3 f4
  have m0 : M 91 984 = 1 * ρ 5 + 0 := hm (91, 984, [(1, 5)]) (by decide)
  have m1 : M 91 992 = 1 * ρ 2 + 0 := hm (91, 992, [(1, 2)]) (by decide)
  have m2 : M 91 986 = 1 * ρ 3 + 0 := hm (91, 986, [(1, 3)]) (by decide)
  have m3 : M 114 (zIx ρ (1000 + 1)) = 1 * ρ 4 + 0 := hm (114, 1001, [(1, 4)]) (by decide)
  rw [zix_p] at m3
  have qxY3 := hI.2.2.2.1.2.2.1
  have h2 := qxY3 (ρ 1).toNat (by omega) (by omega) (by omega)
  refine ⟨ρ, fun _ _ => rfl, fun f h => ?_, ?_⟩
  · have h3 := h2.2
    have h : f ∈ ([[(1, 3), (-1, 4)], [(-1, 3), (1, 4)]] : List qF) := h
    simp only [List.mem_cons, List.not_mem_nil, or_false] at h
    rcases h with rfl | rfl
    · show 0 ≤ 1 * ρ 3 + (-1 * ρ 4 + 0)
      (try rw [h0]); omega
    · show 0 ≤ -1 * ρ 3 + (1 * ρ 4 + 0)
      (try rw [h0]); omega
  · show sI M
    exact hI
-- stateD
def xr_32 : qRu := (6, [[(1, 1)], [(22, 0), (-1, 1)], [(-1, 0), (1, 1), (-1, 2)], [(1, 1), (-1, 5)], [(-1, 1), (1, 5)]], [(91, 984, [(1, 5)]), (91, 992, [(1, 2)]), (91, 986, [(1, 3)]), (114, 1001, [(1, 4)])], [], [], [[(1, 3), (-1, 4)], [(-1, 3), (1, 4)]])
theorem xo_32 : qRok xr_32 := by
  intro ρ M h0 hf hm hI
  have f0 := hf [(1, 1)] (by decide)
  have f1 := hf [(22, 0), (-1, 1)] (by decide)
  have f2 := hf [(-1, 0), (1, 1), (-1, 2)] (by decide)
  have f3 := hf [(1, 1), (-1, 5)] (by decide)
  have f4 := hf [(-1, 1), (1, 5)] (by decide)
  simp only [qD, h0] at f0 f1 f2 f3 f4
  have m0 : M 91 984 = 1 * ρ 5 + 0 := hm (91, 984, [(1, 5)]) (by decide)
  have m1 : M 91 992 = 1 * ρ 2 + 0 := hm (91, 992, [(1, 2)]) (by decide)
  have m2 : M 91 986 = 1 * ρ 3 + 0 := hm (91, 986, [(1, 3)]) (by decide)
  have m3 : M 114 (zIx ρ (1000 + 1)) = 1 * ρ 4 + 0 := hm (114, 1001, [(1, 4)]) (by decide)
  rw [zix_p] at m3
  have qxY3 := hI.2.2.2.1.2.2.1
  have h2 := qxY3 (ρ 1).toNat (by omega) (by omega) (by omega)
  refine ⟨ρ, fun _ _ => rfl, fun f h => ?_, ?_⟩
  · have h3 := h2.2
    have h : f ∈ ([[(1, 3), (-1, 4)], [(-1, 3), (1, 4)]] : List qF) := h
    simp only [List.mem_cons, List.not_mem_nil, or_false] at h
    rcases h with rfl | rfl
    · show 0 ≤ 1 * ρ 3 + (-1 * ρ 4 + 0)
      (try rw [h0]); omega
    · show 0 ≤ -1 * ρ 3 + (1 * ρ 4 + 0)
      (try rw [h0]); omega
  · show sI M
    exact hI
-- bm
def xr_33 : qRu := (3, [[(-2, 0), (1, 1)]], [(93, 0, [(1, 1)]), (91, 993, [(1, 2)])], [], [], [[(1, 1), (-1, 2)], [(-1, 1), (1, 2)]])
theorem xo_33 : qRok xr_33 := by
  intro ρ M h0 hf hm hI
  have f0 := hf [(-2, 0), (1, 1)] (by decide)
  simp only [qD, h0] at f0
  have m0 : M 93 0 = 1 * ρ 1 + 0 := hm (93, 0, [(1, 1)]) (by decide)
  have m1 : M 91 993 = 1 * ρ 2 + 0 := hm (91, 993, [(1, 2)]) (by decide)
  have qxY1 := hI.2.2.2.1.1
  have h2 : M 91 993 = (if M 93 0 < 2 then 2 else M 93 0) := qxY1
  rw [if_neg (by omega)] at h2
  refine ⟨ρ, fun _ _ => rfl, fun f h => ?_, ?_⟩
  · have h : f ∈ ([[(1, 1), (-1, 2)], [(-1, 1), (1, 2)]] : List qF) := h
    simp only [List.mem_cons, List.not_mem_nil, or_false] at h
    rcases h with rfl | rfl
    · show 0 ≤ 1 * ρ 1 + (-1 * ρ 2 + 0)
      (try rw [h0]); omega
    · show 0 ≤ -1 * ρ 1 + (1 * ρ 2 + 0)
      (try rw [h0]); omega
  · show sI M
    exact hI
-- bm9
def xr_34 : qRu := (2, [], [(91, 993, [(1, 1)])], [], [], [[(-2, 0), (1, 1)], [(9, 0), (-1, 1)]])
theorem xo_34 : qRok xr_34 := by
  intro ρ M h0 hf hm hI
  have m0 : M 91 993 = 1 * ρ 1 + 0 := hm (91, 993, [(1, 1)]) (by decide)
  have qxY1 := hI.2.2.2.1.1
  have h2 : M 91 993 = (if M 93 0 < 2 then 2 else M 93 0) := qxY1
  have h3 : (0 : Int) ≤ M 93 0 ∧ M 93 0 ≤ 9 := hI.1 93 0 (0, 9) rfl
  have h4 : 2 ≤ M 91 993 ∧ M 91 993 ≤ 9 := by
    rw [h2]
    split <;> omega
  refine ⟨ρ, fun _ _ => rfl, fun f h => ?_, ?_⟩
  · have h : f ∈ ([[(-2, 0), (1, 1)], [(9, 0), (-1, 1)]] : List qF) := h
    simp only [List.mem_cons, List.not_mem_nil, or_false] at h
    rcases h with rfl | rfl
    · show 0 ≤ -2 * ρ 0 + (1 * ρ 1 + 0)
      (try rw [h0]); omega
    · show 0 ≤ 9 * ρ 0 + (-1 * ρ 1 + 0)
      (try rw [h0]); omega
  · show sI M
    exact hI
-- bends
def xr_35 : qRu := (2, [[(1, 1)], [(9, 0), (-1, 1)]], [(91, 991, [])], [(93, [], [(1, 1)])], [(91, 993, [(1, 2)]), (91, 949, []), (91, 930, []), (91, 928, []), (91, 919, []), (91, 909, []), (91, 900, []), (91, 889, []), (91, 888, []), (91, 884, [])], [])
theorem xo_35 : qRok xr_35 := by
  intro ρ M h0 hf hm hI
  have f0 := hf [(1, 1)] (by decide)
  have f1 := hf [(9, 0), (-1, 1)] (by decide)
  simp only [qD, h0] at f0 f1
  have m0 : M 91 991 = 0 := hm (91, 991, []) (by decide)
  have qxY1 := hI.2.2.2.1.1
  have qxY2 := hI.2.2.2.1.2.1
  refine ⟨fun a => cond (Nat.blt a 2) (ρ a) (([if 1 * ρ 1 + 0 < 2 then 2 else 1 * ρ 1 + 0] : List Int).getD (a - 2) 0), fun a ha => ?_, fun f h => ?_, ?_⟩
  · show cond (Nat.blt a 2) (ρ a) _ = ρ a
    rw [show Nat.blt a 2 = true from Nat.ble_eq_true_of_le ha]; rfl
  · exact nomatch h
  · show sI (sU (sU (sU (sU (sU (sU (sU (sU (sU (sU (sU M 93 (0 : Int).toNat (1 * ρ 1 + 0)) 91 993 (1 * (if 1 * ρ 1 + 0 < 2 then 2 else 1 * ρ 1 + 0) + 0)) 91 949 (0)) 91 930 (0)) 91 928 (0)) 91 919 (0)) 91 909 (0)) 91 900 (0)) 91 889 (0)) 91 888 (0)) 91 884 (0))
    rw [show (0 : Int).toNat = 0 by (try rw [h0]); rfl]
    obtain ⟨W, hW⟩ : ∃ W, W = (sU (sU (sU (sU (sU (sU (sU (sU (sU (sU (sU M 93 0 (1 * ρ 1 + 0)) 91 993 (1 * (if 1 * ρ 1 + 0 < 2 then 2 else 1 * ρ 1 + 0) + 0)) 91 949 (0)) 91 930 (0)) 91 928 (0)) 91 919 (0)) 91 909 (0)) 91 900 (0)) 91 889 (0)) 91 888 (0)) 91 884 (0)) := ⟨_, rfl⟩
    rw [← hW]
    have base : sI0 W := by
      rw [hW]
      exact (si_u0 (si_u0 (si_u0 (si_u0 (si_u0 (si_u0 (si_u0 (si_u0 (si_u0 (si_u0 (si_u0 hI.1 (fun r hr => by have hr : some ((0 : Int), (9 : Int)) = some r := hr; cases hr; exact ⟨by show (0 : Int) ≤ _; (try rw [h0]); omega, by show _ ≤ (9 : Int); (try rw [h0]); omega⟩)) (fun r hr => by cases hr)) (fun r hr => by cases hr)) (fun r hr => by cases hr)) (fun r hr => by cases hr)) (fun r hr => by cases hr)) (fun r hr => by cases hr)) (fun r hr => by cases hr)) (fun r hr => by cases hr)) (fun r hr => by cases hr)) (fun r hr => by cases hr))
    have k2 : XI2 W := by
      rw [hW]
      exact (xi2_u rfl (xi2_u rfl (xi2_u rfl (xi2_u rfl (xi2_u rfl (xi2_u rfl (xi2_u rfl (xi2_u rfl (xi2_u rfl (xi2_u rfl (xi2_u rfl hI.2.1)))))))))))
    have k3 : XI3 W := by
      rw [hW]
      exact (xi3_u rfl (xi3_u rfl (xi3_u rfl (xi3_u rfl (xi3_u rfl (xi3_u rfl (xi3_u rfl (xi3_u rfl (xi3_u rfl (xi3_u rfl (xi3_u rfl hI.2.2.1)))))))))))
    have k_xY1 : xY1 W := by
      have r91_993 : W 91 993 = 1 * (if 1 * ρ 1 + 0 < 2 then 2 else 1 * ρ 1 + 0) + 0 := by rw [hW, sU_ne (fun z => by omega), sU_ne (fun z => by omega), sU_ne (fun z => by omega), sU_ne (fun z => by omega), sU_ne (fun z => by omega), sU_ne (fun z => by omega), sU_ne (fun z => by omega), sU_ne (fun z => by omega), sU_ne (fun z => by omega), sU_at]
      have r93_0 : W 93 0 = 1 * ρ 1 + 0 := by rw [hW, sU_ne (fun z => by omega), sU_ne (fun z => by omega), sU_ne (fun z => by omega), sU_ne (fun z => by omega), sU_ne (fun z => by omega), sU_ne (fun z => by omega), sU_ne (fun z => by omega), sU_ne (fun z => by omega), sU_ne (fun z => by omega), sU_ne (fun z => by omega), sU_at]
      unfold xY1
      rw [r91_993, r93_0]
      split <;> omega
    have k_xY2 : xY2 W := by
      have r91_991 : W 91 991 = M 91 991 := by rw [hW, sU_ne (fun z => by omega), sU_ne (fun z => by omega), sU_ne (fun z => by omega), sU_ne (fun z => by omega), sU_ne (fun z => by omega), sU_ne (fun z => by omega), sU_ne (fun z => by omega), sU_ne (fun z => by omega), sU_ne (fun z => by omega), sU_ne (fun z => by omega), sU_ne (fun z => by omega)]
      have r91_992 : W 91 992 = M 91 992 := by rw [hW, sU_ne (fun z => by omega), sU_ne (fun z => by omega), sU_ne (fun z => by omega), sU_ne (fun z => by omega), sU_ne (fun z => by omega), sU_ne (fun z => by omega), sU_ne (fun z => by omega), sU_ne (fun z => by omega), sU_ne (fun z => by omega), sU_ne (fun z => by omega), sU_ne (fun z => by omega)]
      have r91_984 : W 91 984 = M 91 984 := by rw [hW, sU_ne (fun z => by omega), sU_ne (fun z => by omega), sU_ne (fun z => by omega), sU_ne (fun z => by omega), sU_ne (fun z => by omega), sU_ne (fun z => by omega), sU_ne (fun z => by omega), sU_ne (fun z => by omega), sU_ne (fun z => by omega), sU_ne (fun z => by omega), sU_ne (fun z => by omega)]
      have r91_993 : W 91 993 = 1 * (if 1 * ρ 1 + 0 < 2 then 2 else 1 * ρ 1 + 0) + 0 := by rw [hW, sU_ne (fun z => by omega), sU_ne (fun z => by omega), sU_ne (fun z => by omega), sU_ne (fun z => by omega), sU_ne (fun z => by omega), sU_ne (fun z => by omega), sU_ne (fun z => by omega), sU_ne (fun z => by omega), sU_ne (fun z => by omega), sU_at]
      have r91_45 : W 91 45 = M 91 45 := by rw [hW, sU_ne (fun z => by omega), sU_ne (fun z => by omega), sU_ne (fun z => by omega), sU_ne (fun z => by omega), sU_ne (fun z => by omega), sU_ne (fun z => by omega), sU_ne (fun z => by omega), sU_ne (fun z => by omega), sU_ne (fun z => by omega), sU_ne (fun z => by omega), sU_ne (fun z => by omega)]
      have r91_46 : W 91 46 = M 91 46 := by rw [hW, sU_ne (fun z => by omega), sU_ne (fun z => by omega), sU_ne (fun z => by omega), sU_ne (fun z => by omega), sU_ne (fun z => by omega), sU_ne (fun z => by omega), sU_ne (fun z => by omega), sU_ne (fun z => by omega), sU_ne (fun z => by omega), sU_ne (fun z => by omega), sU_ne (fun z => by omega)]
      have c113 : ∀ k, W 113 k = M 113 k := fun k => by rw [hW, sU_ne (fun z => by omega), sU_ne (fun z => by omega), sU_ne (fun z => by omega), sU_ne (fun z => by omega), sU_ne (fun z => by omega), sU_ne (fun z => by omega), sU_ne (fun z => by omega), sU_ne (fun z => by omega), sU_ne (fun z => by omega), sU_ne (fun z => by omega), sU_ne (fun z => by omega)]
      have c114 : ∀ k, W 114 k = M 114 k := fun k => by rw [hW, sU_ne (fun z => by omega), sU_ne (fun z => by omega), sU_ne (fun z => by omega), sU_ne (fun z => by omega), sU_ne (fun z => by omega), sU_ne (fun z => by omega), sU_ne (fun z => by omega), sU_ne (fun z => by omega), sU_ne (fun z => by omega), sU_ne (fun z => by omega), sU_ne (fun z => by omega)]
      intro h1 i hi hv hx
      unfold xV at hv
      unfold xB
      rw [r91_991] at h1
      rw [r91_992] at hx
      rw [r91_45, r91_46, r91_984] at hv
      omega
    have k_xY3 : xY3 W := by
      rw [hW]
      exact (uxY3 rfl (uxY3 rfl (uxY3 rfl (uxY3 rfl (uxY3 rfl (uxY3 rfl (uxY3 rfl (uxY3 rfl (uxY3 rfl (uxY3 rfl (uxY3 rfl hI.2.2.2.1.2.2.1)))))))))))
    have k_xZ1 : xZ1 W := by
      rw [hW]
      exact (uxZ1 rfl (uxZ1 rfl (uxZ1 rfl (uxZ1 rfl (uxZ1 rfl (uxZ1 rfl (uxZ1 rfl (uxZ1 rfl (uxZ1 rfl (uxZ1 rfl (uxZ1 rfl hI.2.2.2.1.2.2.2.1)))))))))))
    have k_xZ2 : xZ2 W := by
      rw [hW]
      exact (uxZ2 rfl (uxZ2 rfl (uxZ2 rfl (uxZ2 rfl (uxZ2 rfl (uxZ2 rfl (uxZ2 rfl (uxZ2 rfl (uxZ2 rfl (uxZ2 rfl (uxZ2 rfl hI.2.2.2.1.2.2.2.2.1)))))))))))
    have k_xZ3 : xZ3 W := by
      rw [hW]
      exact (uxZ3 rfl (uxZ3 rfl (uxZ3 rfl (uxZ3 rfl (uxZ3 rfl (uxZ3 rfl (uxZ3 rfl (uxZ3 rfl (uxZ3 rfl (uxZ3 rfl (uxZ3 rfl hI.2.2.2.1.2.2.2.2.2.1)))))))))))
    have k_xZ4 : xZ4 W := by
      rw [hW]
      exact (uxZ4 rfl (uxZ4 rfl (uxZ4 rfl (uxZ4 rfl (uxZ4 rfl (uxZ4 rfl (uxZ4 rfl (uxZ4 rfl (uxZ4 rfl (uxZ4 rfl (uxZ4 rfl hI.2.2.2.1.2.2.2.2.2.2.1)))))))))))
    have k_xZ5 : xZ5 W := by
      rw [hW]
      exact (uxZ5 rfl (uxZ5 rfl (uxZ5 rfl (uxZ5 rfl (uxZ5 rfl (uxZ5 rfl (uxZ5 rfl (uxZ5 rfl (uxZ5 rfl (uxZ5 rfl (uxZ5 rfl hI.2.2.2.1.2.2.2.2.2.2.2.1)))))))))))
    have k_xZ6 : xZ6 W := by
      rw [hW]
      exact (uxZ6 rfl (uxZ6 rfl (uxZ6 rfl (uxZ6 rfl (uxZ6 rfl (uxZ6 rfl (uxZ6 rfl (uxZ6 rfl (uxZ6 rfl (uxZ6 rfl (uxZ6 rfl hI.2.2.2.1.2.2.2.2.2.2.2.2.1)))))))))))
    have k_xZ7 : xZ7 W := by
      rw [hW]
      exact (uxZ7 rfl (uxZ7 rfl (uxZ7 rfl (uxZ7 rfl (uxZ7 rfl (uxZ7 rfl (uxZ7 rfl (uxZ7 rfl (uxZ7 rfl (uxZ7 rfl (uxZ7 rfl hI.2.2.2.1.2.2.2.2.2.2.2.2.2.1)))))))))))
    have k_xZ8 : xZ8 W := by
      rw [hW]
      exact (uxZ8 rfl (uxZ8 rfl (uxZ8 rfl (uxZ8 rfl (uxZ8 rfl (uxZ8 rfl (uxZ8 rfl (uxZ8 rfl (uxZ8 rfl (uxZ8 rfl (uxZ8 rfl hI.2.2.2.1.2.2.2.2.2.2.2.2.2.2.1)))))))))))
    have k_xZ9 : xZ9 W := by
      rw [hW]
      exact (uxZ9 rfl (uxZ9 rfl (uxZ9 rfl (uxZ9 rfl (uxZ9 rfl (uxZ9 rfl (uxZ9 rfl (uxZ9 rfl (uxZ9 rfl (uxZ9 rfl (uxZ9 rfl hI.2.2.2.1.2.2.2.2.2.2.2.2.2.2.2.1)))))))))))
    have k_xZa : xZa W := by
      rw [hW]
      exact (uxZa rfl (uxZa rfl (uxZa rfl (uxZa rfl (uxZa rfl (uxZa rfl (uxZa rfl (uxZa rfl (uxZa rfl (uxZa rfl (uxZa rfl hI.2.2.2.1.2.2.2.2.2.2.2.2.2.2.2.2.1)))))))))))
    have k_xZb : xZb W := by
      rw [hW]
      exact (uxZb rfl (uxZb rfl (uxZb rfl (uxZb rfl (uxZb rfl (uxZb rfl (uxZb rfl (uxZb rfl (uxZb rfl (uxZb rfl (uxZb rfl hI.2.2.2.1.2.2.2.2.2.2.2.2.2.2.2.2.2.1)))))))))))
    have k_xT1 : xT1 W := by
      rw [hW]
      exact (uxT1 rfl (uxT1 rfl (uxT1 rfl (uxT1 rfl (uxT1 rfl (uxT1 rfl (uxT1 rfl (uxT1 rfl (uxT1 rfl (uxT1 rfl (uxT1 rfl hI.2.2.2.1.2.2.2.2.2.2.2.2.2.2.2.2.2.2)))))))))))
    have kXA : XA W := ⟨k_xY1, k_xY2, k_xY3, k_xZ1, k_xZ2, k_xZ3, k_xZ4, k_xZ5, k_xZ6, k_xZ7, k_xZ8, k_xZ9, k_xZa, k_xZb, k_xT1⟩
    have k_xN1 : xN1 W := by
      have r : W 91 949 = 0 := by rw [hW, sU_ne (fun z => by omega), sU_ne (fun z => by omega), sU_ne (fun z => by omega), sU_ne (fun z => by omega), sU_ne (fun z => by omega), sU_ne (fun z => by omega), sU_ne (fun z => by omega), sU_ne (fun z => by omega), sU_at]
      intro h
      rw [r] at h
      omega
    have k_xN2 : xN2 W := by
      have r : W 91 930 = 0 := by rw [hW, sU_ne (fun z => by omega), sU_ne (fun z => by omega), sU_ne (fun z => by omega), sU_ne (fun z => by omega), sU_ne (fun z => by omega), sU_ne (fun z => by omega), sU_ne (fun z => by omega), sU_at]
      intro h
      rw [r] at h
      omega
    have k_xN3 : xN3 W := by
      have r : W 91 928 = 0 := by rw [hW, sU_ne (fun z => by omega), sU_ne (fun z => by omega), sU_ne (fun z => by omega), sU_ne (fun z => by omega), sU_ne (fun z => by omega), sU_ne (fun z => by omega), sU_at]
      intro h
      rw [r] at h
      omega
    have k_xN4 : xN4 W := by
      rw [hW]
      exact (uxN4 rfl (uxN4 rfl (uxN4 rfl (uxN4 rfl (uxN4 rfl (uxN4 rfl (uxN4 rfl (uxN4 rfl (uxN4 rfl (uxN4 rfl (uxN4 rfl hI.2.2.2.2.2.2.2.1)))))))))))
    have k_xN5 : xN5 W := by
      rw [hW]
      exact (uxN5 rfl (uxN5 rfl (uxN5 rfl (uxN5 rfl (uxN5 rfl (uxN5 rfl (uxN5 rfl (uxN5 rfl (uxN5 rfl (uxN5 rfl (uxN5 rfl hI.2.2.2.2.2.2.2.2.1)))))))))))
    have k_xN6 : xN6 W := by
      rw [hW]
      exact (uxN6 rfl (uxN6 rfl (uxN6 rfl (uxN6 rfl (uxN6 rfl (uxN6 rfl (uxN6 rfl (uxN6 rfl (uxN6 rfl (uxN6 rfl (uxN6 rfl hI.2.2.2.2.2.2.2.2.2.1)))))))))))
    have k_xH1 : xH1 W := by
      have r : W 91 919 = 0 := by rw [hW, sU_ne (fun z => by omega), sU_ne (fun z => by omega), sU_ne (fun z => by omega), sU_ne (fun z => by omega), sU_ne (fun z => by omega), sU_at]
      intro h
      rw [r] at h
      omega
    have k_xK1 : xK1 W := by
      have r : W 91 909 = 0 := by rw [hW, sU_ne (fun z => by omega), sU_ne (fun z => by omega), sU_ne (fun z => by omega), sU_ne (fun z => by omega), sU_at]
      intro h
      rw [r] at h
      omega
    have k_xC1 : xC1 W := by
      have r : W 91 900 = 0 := by rw [hW, sU_ne (fun z => by omega), sU_ne (fun z => by omega), sU_ne (fun z => by omega), sU_at]
      intro h
      rw [r] at h
      omega
    have k_xRW : xRW W := by
      have r : W 91 889 = 0 := by rw [hW, sU_ne (fun z => by omega), sU_ne (fun z => by omega), sU_at]
      intro h
      rw [r] at h
      omega
    have k_xWT : xWT W := by
      have r : W 91 888 = 0 := by rw [hW, sU_ne (fun z => by omega), sU_at]
      intro h
      rw [r] at h
      omega
    have k_xCU : xCU W := by
      have r : W 91 884 = 0 := by rw [hW, sU_at]
      intro h
      rw [r] at h
      omega
    have k_xG2 : xG2 W := by
      rw [hW]
      exact (uxG2 rfl (uxG2 rfl (uxG2 rfl (uxG2 rfl (uxG2 rfl (uxG2 rfl (uxG2 rfl (uxG2 rfl (uxG2 rfl (uxG2 rfl (uxG2 rfl hI.2.2.2.2.2.2.2.2.2.2.2.2.2.2.2.2.1)))))))))))
    have k_xG3 : xG3 W := by
      rw [hW]
      exact (uxG3 rfl (uxG3 rfl (uxG3 rfl (uxG3 rfl (uxG3 rfl (uxG3 rfl (uxG3 rfl (uxG3 rfl (uxG3 rfl (uxG3 rfl (uxG3 rfl hI.2.2.2.2.2.2.2.2.2.2.2.2.2.2.2.2.2.1)))))))))))
    have k_xG4 : xG4 W := by
      rw [hW]
      exact (uxG4 rfl (uxG4 rfl (uxG4 rfl (uxG4 rfl (uxG4 rfl (uxG4 rfl (uxG4 rfl (uxG4 rfl (uxG4 rfl (uxG4 rfl (uxG4 rfl hI.2.2.2.2.2.2.2.2.2.2.2.2.2.2.2.2.2.2.1)))))))))))
    have k_xG5 : xG5 W := by
      rw [hW]
      exact (uxG5 rfl (uxG5 rfl (uxG5 rfl (uxG5 rfl (uxG5 rfl (uxG5 rfl (uxG5 rfl (uxG5 rfl (uxG5 rfl (uxG5 rfl (uxG5 rfl hI.2.2.2.2.2.2.2.2.2.2.2.2.2.2.2.2.2.2.2.1)))))))))))
    have k_xG6 : xG6 W := by
      rw [hW]
      exact (uxG6 rfl (uxG6 rfl (uxG6 rfl (uxG6 rfl (uxG6 rfl (uxG6 rfl (uxG6 rfl (uxG6 rfl (uxG6 rfl (uxG6 rfl (uxG6 rfl hI.2.2.2.2.2.2.2.2.2.2.2.2.2.2.2.2.2.2.2.2.1)))))))))))
    have k_XC : XC W := by
      rw [hW]
      exact (uXC rfl (uXC rfl (uXC rfl (uXC rfl (uXC rfl (uXC rfl (uXC rfl (uXC rfl (uXC rfl (uXC rfl (uXC rfl hI.2.2.2.2.2.2.2.2.2.2.2.2.2.2.2.2.2.2.2.2.2)))))))))))
    have kXB : XB W := ⟨k_xN1, k_xN2, k_xN3, k_xN4, k_xN5, k_xN6, k_xH1, k_xK1, k_xC1, k_xRW, k_xWT, k_xCU, k_xG2, k_xG3, k_xG4, k_xG5, k_xG6, k_XC⟩
    exact ⟨base, k2, k3, kXA, kXB⟩
-- unclaim
def xr_36 : qRu := (1, [], [], [], [(91, 991, []), (91, 992, []), (91, 984, [(50, 0)])], [])
theorem xo_36 : qRok xr_36 := by
  intro ρ M h0 hf hm hI
  have qxY2 := hI.2.2.2.1.2.1
  have qxY3 := hI.2.2.2.1.2.2.1
  refine ⟨ρ, fun _ _ => rfl, fun f h => ?_, ?_⟩
  · exact nomatch h
  · show sI (sU (sU (sU M 91 991 (0)) 91 992 (0)) 91 984 (50 * ρ 0 + 0))
    obtain ⟨W, hW⟩ : ∃ W, W = (sU (sU (sU M 91 991 (0)) 91 992 (0)) 91 984 (50 * ρ 0 + 0)) := ⟨_, rfl⟩
    rw [← hW]
    have base : sI0 W := by
      rw [hW]
      exact (si_u0 (si_u0 (si_u0 hI.1 (fun r hr => by cases hr)) (fun r hr => by cases hr)) (fun r hr => by cases hr))
    have k2 : XI2 W := by
      rw [hW]
      exact (xi2_u rfl (xi2_u rfl (xi2_u rfl hI.2.1)))
    have k3 : XI3 W := by
      rw [hW]
      exact (xi3_u rfl (xi3_u rfl (xi3_u rfl hI.2.2.1)))
    have k_xY1 : xY1 W := by
      rw [hW]
      exact (uxY1 rfl (uxY1 rfl (uxY1 rfl hI.2.2.2.1.1)))
    have k_xY2 : xY2 W := by
      have r91_991 : W 91 991 = 0 := by rw [hW, sU_ne (fun z => by omega), sU_ne (fun z => by omega), sU_at]
      have r91_992 : W 91 992 = 0 := by rw [hW, sU_ne (fun z => by omega), sU_at]
      have r91_984 : W 91 984 = 50 * ρ 0 + 0 := by rw [hW, sU_at]
      have r91_993 : W 91 993 = M 91 993 := by rw [hW, sU_ne (fun z => by omega), sU_ne (fun z => by omega), sU_ne (fun z => by omega)]
      have r91_45 : W 91 45 = M 91 45 := by rw [hW, sU_ne (fun z => by omega), sU_ne (fun z => by omega), sU_ne (fun z => by omega)]
      have r91_46 : W 91 46 = M 91 46 := by rw [hW, sU_ne (fun z => by omega), sU_ne (fun z => by omega), sU_ne (fun z => by omega)]
      have c113 : ∀ k, W 113 k = M 113 k := fun k => by rw [hW, sU_ne (fun z => by omega), sU_ne (fun z => by omega), sU_ne (fun z => by omega)]
      have c114 : ∀ k, W 114 k = M 114 k := fun k => by rw [hW, sU_ne (fun z => by omega), sU_ne (fun z => by omega), sU_ne (fun z => by omega)]
      intro h1 i hi hv hx
      unfold xV at hv
      unfold xB
      rw [r91_991] at h1
      rw [r91_992] at hx
      rw [r91_45, r91_46, r91_984] at hv
      omega
    have k_xY3 : xY3 W := by
      have r91_984 : W 91 984 = 50 * ρ 0 + 0 := by rw [hW, sU_at]
      have r91_985 : W 91 985 = M 91 985 := by rw [hW, sU_ne (fun z => by omega), sU_ne (fun z => by omega), sU_ne (fun z => by omega)]
      have r91_986 : W 91 986 = M 91 986 := by rw [hW, sU_ne (fun z => by omega), sU_ne (fun z => by omega), sU_ne (fun z => by omega)]
      have r91_992 : W 91 992 = 0 := by rw [hW, sU_ne (fun z => by omega), sU_at]
      have c113 : ∀ k, W 113 k = M 113 k := fun k => by rw [hW, sU_ne (fun z => by omega), sU_ne (fun z => by omega), sU_ne (fun z => by omega)]
      have c114 : ∀ k, W 114 k = M 114 k := fun k => by rw [hW, sU_ne (fun z => by omega), sU_ne (fun z => by omega), sU_ne (fun z => by omega)]
      intro i hi he hx
      rw [r91_984, h0] at he
      omega
    have k_xZ1 : xZ1 W := by
      rw [hW]
      exact (uxZ1 rfl (uxZ1 rfl (uxZ1 rfl hI.2.2.2.1.2.2.2.1)))
    have k_xZ2 : xZ2 W := by
      rw [hW]
      exact (uxZ2 rfl (uxZ2 rfl (uxZ2 rfl hI.2.2.2.1.2.2.2.2.1)))
    have k_xZ3 : xZ3 W := by
      rw [hW]
      exact (uxZ3 rfl (uxZ3 rfl (uxZ3 rfl hI.2.2.2.1.2.2.2.2.2.1)))
    have k_xZ4 : xZ4 W := by
      rw [hW]
      exact (uxZ4 rfl (uxZ4 rfl (uxZ4 rfl hI.2.2.2.1.2.2.2.2.2.2.1)))
    have k_xZ5 : xZ5 W := by
      rw [hW]
      exact (uxZ5 rfl (uxZ5 rfl (uxZ5 rfl hI.2.2.2.1.2.2.2.2.2.2.2.1)))
    have k_xZ6 : xZ6 W := by
      rw [hW]
      exact (uxZ6 rfl (uxZ6 rfl (uxZ6 rfl hI.2.2.2.1.2.2.2.2.2.2.2.2.1)))
    have k_xZ7 : xZ7 W := by
      rw [hW]
      exact (uxZ7 rfl (uxZ7 rfl (uxZ7 rfl hI.2.2.2.1.2.2.2.2.2.2.2.2.2.1)))
    have k_xZ8 : xZ8 W := by
      rw [hW]
      exact (uxZ8 rfl (uxZ8 rfl (uxZ8 rfl hI.2.2.2.1.2.2.2.2.2.2.2.2.2.2.1)))
    have k_xZ9 : xZ9 W := by
      rw [hW]
      exact (uxZ9 rfl (uxZ9 rfl (uxZ9 rfl hI.2.2.2.1.2.2.2.2.2.2.2.2.2.2.2.1)))
    have k_xZa : xZa W := by
      rw [hW]
      exact (uxZa rfl (uxZa rfl (uxZa rfl hI.2.2.2.1.2.2.2.2.2.2.2.2.2.2.2.2.1)))
    have k_xZb : xZb W := by
      rw [hW]
      exact (uxZb rfl (uxZb rfl (uxZb rfl hI.2.2.2.1.2.2.2.2.2.2.2.2.2.2.2.2.2.1)))
    have k_xT1 : xT1 W := by
      rw [hW]
      exact (uxT1 rfl (uxT1 rfl (uxT1 rfl hI.2.2.2.1.2.2.2.2.2.2.2.2.2.2.2.2.2.2)))
    have kXA : XA W := ⟨k_xY1, k_xY2, k_xY3, k_xZ1, k_xZ2, k_xZ3, k_xZ4, k_xZ5, k_xZ6, k_xZ7, k_xZ8, k_xZ9, k_xZa, k_xZb, k_xT1⟩
    have kXB : XB W := by
      rw [hW]
      exact (uXB rfl (uXB rfl (uXB rfl hI.2.2.2.2)))
    exact ⟨base, k2, k3, kXA, kXB⟩
-- reclaim
def xr_37 : qRu := (1, [], [(113, 0, []), (114, 0, []), (91, 45, []), (91, 46, [])], [], [(91, 991, [(1, 0)]), (91, 992, [(50, 0)]), (91, 984, [(50, 0)])], [])
theorem xo_37 : qRok xr_37 := by
  intro ρ M h0 hf hm hI
  have m0 : M 113 0 = 0 := hm (113, 0, []) (by decide)
  have m1 : M 114 0 = 0 := hm (114, 0, []) (by decide)
  have m2 : M 91 45 = 0 := hm (91, 45, []) (by decide)
  have m3 : M 91 46 = 0 := hm (91, 46, []) (by decide)
  have qxY1 := hI.2.2.2.1.1
  have qxY2 := hI.2.2.2.1.2.1
  have qxY3 := hI.2.2.2.1.2.2.1
  refine ⟨ρ, fun _ _ => rfl, fun f h => ?_, ?_⟩
  · exact nomatch h
  · show sI (sU (sU (sU M 91 991 (1 * ρ 0 + 0)) 91 992 (50 * ρ 0 + 0)) 91 984 (50 * ρ 0 + 0))
    obtain ⟨W, hW⟩ : ∃ W, W = (sU (sU (sU M 91 991 (1 * ρ 0 + 0)) 91 992 (50 * ρ 0 + 0)) 91 984 (50 * ρ 0 + 0)) := ⟨_, rfl⟩
    rw [← hW]
    have base : sI0 W := by
      rw [hW]
      exact (si_u0 (si_u0 (si_u0 hI.1 (fun r hr => by cases hr)) (fun r hr => by cases hr)) (fun r hr => by cases hr))
    have k2 : XI2 W := by
      rw [hW]
      exact (xi2_u rfl (xi2_u rfl (xi2_u rfl hI.2.1)))
    have k3 : XI3 W := by
      rw [hW]
      exact (xi3_u rfl (xi3_u rfl (xi3_u rfl hI.2.2.1)))
    have k_xY1 : xY1 W := by
      rw [hW]
      exact (uxY1 rfl (uxY1 rfl (uxY1 rfl hI.2.2.2.1.1)))
    have k_xY2 : xY2 W := by
      have r91_991 : W 91 991 = 1 * ρ 0 + 0 := by rw [hW, sU_ne (fun z => by omega), sU_ne (fun z => by omega), sU_at]
      have r91_992 : W 91 992 = 50 * ρ 0 + 0 := by rw [hW, sU_ne (fun z => by omega), sU_at]
      have r91_984 : W 91 984 = 50 * ρ 0 + 0 := by rw [hW, sU_at]
      have r91_993 : W 91 993 = M 91 993 := by rw [hW, sU_ne (fun z => by omega), sU_ne (fun z => by omega), sU_ne (fun z => by omega)]
      have r91_45 : W 91 45 = M 91 45 := by rw [hW, sU_ne (fun z => by omega), sU_ne (fun z => by omega), sU_ne (fun z => by omega)]
      have r91_46 : W 91 46 = M 91 46 := by rw [hW, sU_ne (fun z => by omega), sU_ne (fun z => by omega), sU_ne (fun z => by omega)]
      have c113 : ∀ k, W 113 k = M 113 k := fun k => by rw [hW, sU_ne (fun z => by omega), sU_ne (fun z => by omega), sU_ne (fun z => by omega)]
      have c114 : ∀ k, W 114 k = M 114 k := fun k => by rw [hW, sU_ne (fun z => by omega), sU_ne (fun z => by omega), sU_ne (fun z => by omega)]
      intro h1 i hi hv hx
      unfold xV at hv
      unfold xB
      rw [r91_991] at h1
      rw [r91_992] at hx
      rw [r91_45, r91_46, r91_984] at hv
      rw [c113 i, c114 i, r91_993]
      rw [h0] at hv
      have h2 : M 91 993 = (if M 93 0 < 2 then 2 else M 93 0) := qxY1
      have h4 : 2 ≤ M 91 993 := by
        rw [h2]
        split <;> omega
      rw [show i = 0 by omega]
      omega
    have k_xY3 : xY3 W := by
      have r91_984 : W 91 984 = 50 * ρ 0 + 0 := by rw [hW, sU_at]
      have r91_985 : W 91 985 = M 91 985 := by rw [hW, sU_ne (fun z => by omega), sU_ne (fun z => by omega), sU_ne (fun z => by omega)]
      have r91_986 : W 91 986 = M 91 986 := by rw [hW, sU_ne (fun z => by omega), sU_ne (fun z => by omega), sU_ne (fun z => by omega)]
      have r91_992 : W 91 992 = 50 * ρ 0 + 0 := by rw [hW, sU_ne (fun z => by omega), sU_at]
      have c113 : ∀ k, W 113 k = M 113 k := fun k => by rw [hW, sU_ne (fun z => by omega), sU_ne (fun z => by omega), sU_ne (fun z => by omega)]
      have c114 : ∀ k, W 114 k = M 114 k := fun k => by rw [hW, sU_ne (fun z => by omega), sU_ne (fun z => by omega), sU_ne (fun z => by omega)]
      intro i hi he hx
      rw [r91_984, h0] at he
      omega
    have k_xZ1 : xZ1 W := by
      rw [hW]
      exact (uxZ1 rfl (uxZ1 rfl (uxZ1 rfl hI.2.2.2.1.2.2.2.1)))
    have k_xZ2 : xZ2 W := by
      rw [hW]
      exact (uxZ2 rfl (uxZ2 rfl (uxZ2 rfl hI.2.2.2.1.2.2.2.2.1)))
    have k_xZ3 : xZ3 W := by
      rw [hW]
      exact (uxZ3 rfl (uxZ3 rfl (uxZ3 rfl hI.2.2.2.1.2.2.2.2.2.1)))
    have k_xZ4 : xZ4 W := by
      rw [hW]
      exact (uxZ4 rfl (uxZ4 rfl (uxZ4 rfl hI.2.2.2.1.2.2.2.2.2.2.1)))
    have k_xZ5 : xZ5 W := by
      rw [hW]
      exact (uxZ5 rfl (uxZ5 rfl (uxZ5 rfl hI.2.2.2.1.2.2.2.2.2.2.2.1)))
    have k_xZ6 : xZ6 W := by
      rw [hW]
      exact (uxZ6 rfl (uxZ6 rfl (uxZ6 rfl hI.2.2.2.1.2.2.2.2.2.2.2.2.1)))
    have k_xZ7 : xZ7 W := by
      rw [hW]
      exact (uxZ7 rfl (uxZ7 rfl (uxZ7 rfl hI.2.2.2.1.2.2.2.2.2.2.2.2.2.1)))
    have k_xZ8 : xZ8 W := by
      rw [hW]
      exact (uxZ8 rfl (uxZ8 rfl (uxZ8 rfl hI.2.2.2.1.2.2.2.2.2.2.2.2.2.2.1)))
    have k_xZ9 : xZ9 W := by
      rw [hW]
      exact (uxZ9 rfl (uxZ9 rfl (uxZ9 rfl hI.2.2.2.1.2.2.2.2.2.2.2.2.2.2.2.1)))
    have k_xZa : xZa W := by
      rw [hW]
      exact (uxZa rfl (uxZa rfl (uxZa rfl hI.2.2.2.1.2.2.2.2.2.2.2.2.2.2.2.2.1)))
    have k_xZb : xZb W := by
      rw [hW]
      exact (uxZb rfl (uxZb rfl (uxZb rfl hI.2.2.2.1.2.2.2.2.2.2.2.2.2.2.2.2.2.1)))
    have k_xT1 : xT1 W := by
      rw [hW]
      exact (uxT1 rfl (uxT1 rfl (uxT1 rfl hI.2.2.2.1.2.2.2.2.2.2.2.2.2.2.2.2.2.2)))
    have kXA : XA W := ⟨k_xY1, k_xY2, k_xY3, k_xZ1, k_xZ2, k_xZ3, k_xZ4, k_xZ5, k_xZ6, k_xZ7, k_xZ8, k_xZ9, k_xZa, k_xZb, k_xT1⟩
    have kXB : XB W := by
      rw [hW]
      exact (uXB rfl (uXB rfl (uXB rfl hI.2.2.2.2)))
    exact ⟨base, k2, k3, kXA, kXB⟩
-- knotSort
def xr_38 : qRu := (4, [[(-64, 0), (1, 1), (-1, 2)], [(64, 0), (-1, 1), (1, 2)], [(1, 3)], [(2, 0), (-1, 3)]], [(93, 17, [(1, 2)])], [(110, [(1, 1)], [(1, 3)])], [(91, 972, [(1, 3)]), (91, 987, [(1, 4)]), (91, 988, [(1, 5)]), (91, 989, []), (91, 978, []), (91, 964, [])], [])
theorem xo_38 : qRok xr_38 := by
  intro ρ M h0 hf hm hI
  have f0 := hf [(-64, 0), (1, 1), (-1, 2)] (by decide)
  have f1 := hf [(64, 0), (-1, 1), (1, 2)] (by decide)
  have f2 := hf [(1, 3)] (by decide)
  have f3 := hf [(2, 0), (-1, 3)] (by decide)
  simp only [qD, h0] at f0 f1 f2 f3
  have m0 : M 93 17 = 1 * ρ 2 + 0 := hm (93, 17, [(1, 2)]) (by decide)
  have qxZ1 := hI.2.2.2.1.2.2.2.1
  have qxZ2 := hI.2.2.2.1.2.2.2.2.1
  have qxZ3 := hI.2.2.2.1.2.2.2.2.2.1
  have qxZ4 := hI.2.2.2.1.2.2.2.2.2.2.1
  have qxZ7 := hI.2.2.2.1.2.2.2.2.2.2.2.2.2.1
  have qxZ9 := hI.2.2.2.1.2.2.2.2.2.2.2.2.2.2.2.1
  have qxZa := hI.2.2.2.1.2.2.2.2.2.2.2.2.2.2.2.2.1
  have hn : (0 : Int) ≤ M 93 17 ∧ M 93 17 ≤ 64 := hI.1 93 17 (0, 64) rfl
  refine ⟨fun a => cond (Nat.blt a 4) (ρ a) (([xkE (1 * ρ 3 + 0) (M 91 973), xkN (1 * ρ 3 + 0) (M 91 973)] : List Int).getD (a - 4) 0), fun a ha => ?_, fun f h => ?_, ?_⟩
  · show cond (Nat.blt a 4) (ρ a) _ = ρ a
    rw [show Nat.blt a 4 = true from Nat.ble_eq_true_of_le ha]; rfl
  · exact nomatch h
  · show sI (sU (sU (sU (sU (sU (sU (sU M 110 (1 * ρ 1 + 0 : Int).toNat (1 * ρ 3 + 0)) 91 972 (1 * ρ 3 + 0)) 91 987 (1 * (xkE (1 * ρ 3 + 0) (M 91 973)) + 0)) 91 988 (1 * (xkN (1 * ρ 3 + 0) (M 91 973)) + 0)) 91 989 (0)) 91 978 (0)) 91 964 (0))
    obtain ⟨W, hW⟩ : ∃ W, W = (sU (sU (sU (sU (sU (sU (sU M 110 (1 * ρ 1 + 0).toNat (1 * ρ 3 + 0)) 91 972 (1 * ρ 3 + 0)) 91 987 (1 * (xkE (1 * ρ 3 + 0) (M 91 973)) + 0)) 91 988 (1 * (xkN (1 * ρ 3 + 0) (M 91 973)) + 0)) 91 989 (0)) 91 978 (0)) 91 964 (0)) := ⟨_, rfl⟩
    rw [← hW]
    have base : sI0 W := by
      rw [hW]
      exact (si_u0 (si_u0 (si_u0 (si_u0 (si_u0 (si_u0 (si_u0 hI.1 (fun r hr => by rw [xt_110 hr]; exact ⟨by show (0 : Int) ≤ _; omega, by show _ ≤ (2 : Int); omega⟩)) (fun r hr => by cases hr)) (fun r hr => by cases hr)) (fun r hr => by cases hr)) (fun r hr => by cases hr)) (fun r hr => by cases hr)) (fun r hr => by cases hr))
    have k2 : XI2 W := by
      rw [hW]
      exact (xi2_u rfl (xi2_u rfl (xi2_u rfl (xi2_u rfl (xi2_u rfl (xi2_u rfl (xi2_u (sinc_ok rfl _) hI.2.1)))))))
    have k3 : XI3 W := by
      rw [hW]
      exact (xi3_u rfl (xi3_u rfl (xi3_u rfl (xi3_u rfl (xi3_u rfl (xi3_u rfl (xi3_u (sinc_ok rfl _) hI.2.2.1)))))))
    have k_xY1 : xY1 W := by
      rw [hW]
      exact (uxY1 rfl (uxY1 rfl (uxY1 rfl (uxY1 rfl (uxY1 rfl (uxY1 rfl (uxY1 (sinc_ok rfl _) hI.2.2.2.1.1)))))))
    have k_xY2 : xY2 W := by
      rw [hW]
      exact (uxY2 rfl (uxY2 rfl (uxY2 rfl (uxY2 rfl (uxY2 rfl (uxY2 rfl (uxY2 (sinc_ok rfl _) hI.2.2.2.1.2.1)))))))
    have k_xY3 : xY3 W := by
      rw [hW]
      exact (uxY3 rfl (uxY3 rfl (uxY3 rfl (uxY3 rfl (uxY3 rfl (uxY3 rfl (uxY3 (sinc_ok rfl _) hI.2.2.2.1.2.2.1)))))))
    have k_xZ1 : xZ1 W := by
      have r91_970 : W 91 970 = M 91 970 := by rw [hW, sU_ne (fun z => by omega), sU_ne (fun z => by omega), sU_ne (fun z => by omega), sU_ne (fun z => by omega), sU_ne (fun z => by omega), sU_ne (fun z => by omega), sU_ne (fun z => by omega)]
      have r91_971 : W 91 971 = M 91 971 := by rw [hW, sU_ne (fun z => by omega), sU_ne (fun z => by omega), sU_ne (fun z => by omega), sU_ne (fun z => by omega), sU_ne (fun z => by omega), sU_ne (fun z => by omega), sU_ne (fun z => by omega)]
      have r93_17 : W 93 17 = M 93 17 := by rw [hW, sU_ne (fun z => by omega), sU_ne (fun z => by omega), sU_ne (fun z => by omega), sU_ne (fun z => by omega), sU_ne (fun z => by omega), sU_ne (fun z => by omega), sU_ne (fun z => by omega)]
      have c110 : ∀ k : Nat, k ≠ (1 * ρ 1 + 0).toNat → W 110 k = M 110 k := fun k hk => by rw [hW, sU_ne (fun z => by omega), sU_ne (fun z => by omega), sU_ne (fun z => by omega), sU_ne (fun z => by omega), sU_ne (fun z => by omega), sU_ne (fun z => by omega), sU_ne (fun z => by omega)]
      have a110 : W 110 (1 * ρ 1 + 0).toNat = 1 * ρ 3 + 0 := by rw [hW, sU_ne (fun z => by omega), sU_ne (fun z => by omega), sU_ne (fun z => by omega), sU_ne (fun z => by omega), sU_ne (fun z => by omega), sU_ne (fun z => by omega), sU_at]
      have c111 : ∀ k, W 111 k = M 111 k := fun k => by rw [hW, sU_ne (fun z => by omega), sU_ne (fun z => by omega), sU_ne (fun z => by omega), sU_ne (fun z => by omega), sU_ne (fun z => by omega), sU_ne (fun z => by omega), sU_ne (fun z => by omega)]
      exact xz1_of r91_970 r91_971 r93_17 (fun k a b => ⟨c110 k (by omega), c111 k⟩) qxZ1
    have k_xZ2 : xZ2 W := by
      have r91_972 : W 91 972 = 1 * ρ 3 + 0 := by rw [hW, sU_ne (fun z => by omega), sU_ne (fun z => by omega), sU_ne (fun z => by omega), sU_ne (fun z => by omega), sU_ne (fun z => by omega), sU_at]
      have r91_973 : W 91 973 = M 91 973 := by rw [hW, sU_ne (fun z => by omega), sU_ne (fun z => by omega), sU_ne (fun z => by omega), sU_ne (fun z => by omega), sU_ne (fun z => by omega), sU_ne (fun z => by omega), sU_ne (fun z => by omega)]
      have r91_987 : W 91 987 = 1 * (xkE (1 * ρ 3 + 0) (M 91 973)) + 0 := by rw [hW, sU_ne (fun z => by omega), sU_ne (fun z => by omega), sU_ne (fun z => by omega), sU_ne (fun z => by omega), sU_at]
      have r91_988 : W 91 988 = 1 * (xkN (1 * ρ 3 + 0) (M 91 973)) + 0 := by rw [hW, sU_ne (fun z => by omega), sU_ne (fun z => by omega), sU_ne (fun z => by omega), sU_at]
      have r91_989 : W 91 989 = 0 := by rw [hW, sU_ne (fun z => by omega), sU_ne (fun z => by omega), sU_at]
      have r93_17 : W 93 17 = M 93 17 := by rw [hW, sU_ne (fun z => by omega), sU_ne (fun z => by omega), sU_ne (fun z => by omega), sU_ne (fun z => by omega), sU_ne (fun z => by omega), sU_ne (fun z => by omega), sU_ne (fun z => by omega)]
      have c110 : ∀ k : Nat, k ≠ (1 * ρ 1 + 0).toNat → W 110 k = M 110 k := fun k hk => by rw [hW, sU_ne (fun z => by omega), sU_ne (fun z => by omega), sU_ne (fun z => by omega), sU_ne (fun z => by omega), sU_ne (fun z => by omega), sU_ne (fun z => by omega), sU_ne (fun z => by omega)]
      have a110 : W 110 (1 * ρ 1 + 0).toNat = 1 * ρ 3 + 0 := by rw [hW, sU_ne (fun z => by omega), sU_ne (fun z => by omega), sU_ne (fun z => by omega), sU_ne (fun z => by omega), sU_ne (fun z => by omega), sU_ne (fun z => by omega), sU_at]
      have c111 : ∀ k, W 111 k = M 111 k := fun k => by rw [hW, sU_ne (fun z => by omega), sU_ne (fun z => by omega), sU_ne (fun z => by omega), sU_ne (fun z => by omega), sU_ne (fun z => by omega), sU_ne (fun z => by omega), sU_ne (fun z => by omega)]
      have e : 64 + (M 93 17).toNat = (1 * ρ 1 + 0).toNat := by omega
      have g := qxZ2.2.1
      rw [e] at g
      unfold xZ2
      rw [r91_972, r91_973, r91_987, r91_988, r91_989, r93_17, e, a110, c111]
      exact ⟨rfl, g, x10 _, x10 _, fun z => absurd z (by omega)⟩
    have k_xZ3 : xZ3 W := by
      have r91_974 : W 91 974 = M 91 974 := by rw [hW, sU_ne (fun z => by omega), sU_ne (fun z => by omega), sU_ne (fun z => by omega), sU_ne (fun z => by omega), sU_ne (fun z => by omega), sU_ne (fun z => by omega), sU_ne (fun z => by omega)]
      have r93_17 : W 93 17 = M 93 17 := by rw [hW, sU_ne (fun z => by omega), sU_ne (fun z => by omega), sU_ne (fun z => by omega), sU_ne (fun z => by omega), sU_ne (fun z => by omega), sU_ne (fun z => by omega), sU_ne (fun z => by omega)]
      have c108 : ∀ k, W 108 k = M 108 k := fun k => by rw [hW, sU_ne (fun z => by omega), sU_ne (fun z => by omega), sU_ne (fun z => by omega), sU_ne (fun z => by omega), sU_ne (fun z => by omega), sU_ne (fun z => by omega), sU_ne (fun z => by omega)]
      have c109 : ∀ k, W 109 k = M 109 k := fun k => by rw [hW, sU_ne (fun z => by omega), sU_ne (fun z => by omega), sU_ne (fun z => by omega), sU_ne (fun z => by omega), sU_ne (fun z => by omega), sU_ne (fun z => by omega), sU_ne (fun z => by omega)]
      have c110 : ∀ k : Nat, k ≠ (1 * ρ 1 + 0).toNat → W 110 k = M 110 k := fun k hk => by rw [hW, sU_ne (fun z => by omega), sU_ne (fun z => by omega), sU_ne (fun z => by omega), sU_ne (fun z => by omega), sU_ne (fun z => by omega), sU_ne (fun z => by omega), sU_ne (fun z => by omega)]
      have a110 : W 110 (1 * ρ 1 + 0).toNat = 1 * ρ 3 + 0 := by rw [hW, sU_ne (fun z => by omega), sU_ne (fun z => by omega), sU_ne (fun z => by omega), sU_ne (fun z => by omega), sU_ne (fun z => by omega), sU_ne (fun z => by omega), sU_at]
      have c111 : ∀ k, W 111 k = M 111 k := fun k => by rw [hW, sU_ne (fun z => by omega), sU_ne (fun z => by omega), sU_ne (fun z => by omega), sU_ne (fun z => by omega), sU_ne (fun z => by omega), sU_ne (fun z => by omega), sU_ne (fun z => by omega)]
      exact xz3_of r91_974 (by rw [r93_17]; exact Int.le_refl _) (fun k a b => ⟨c108 k, c109 k⟩) (fun k a b => ⟨c110 k (by omega), c111 k⟩) qxZ3
    have k_xZ4 : xZ4 W := by
      have r91_975 : W 91 975 = M 91 975 := by rw [hW, sU_ne (fun z => by omega), sU_ne (fun z => by omega), sU_ne (fun z => by omega), sU_ne (fun z => by omega), sU_ne (fun z => by omega), sU_ne (fun z => by omega), sU_ne (fun z => by omega)]
      have c108 : ∀ k, W 108 k = M 108 k := fun k => by rw [hW, sU_ne (fun z => by omega), sU_ne (fun z => by omega), sU_ne (fun z => by omega), sU_ne (fun z => by omega), sU_ne (fun z => by omega), sU_ne (fun z => by omega), sU_ne (fun z => by omega)]
      have c109 : ∀ k, W 109 k = M 109 k := fun k => by rw [hW, sU_ne (fun z => by omega), sU_ne (fun z => by omega), sU_ne (fun z => by omega), sU_ne (fun z => by omega), sU_ne (fun z => by omega), sU_ne (fun z => by omega), sU_ne (fun z => by omega)]
      have c110 : ∀ k : Nat, k ≠ (1 * ρ 1 + 0).toNat → W 110 k = M 110 k := fun k hk => by rw [hW, sU_ne (fun z => by omega), sU_ne (fun z => by omega), sU_ne (fun z => by omega), sU_ne (fun z => by omega), sU_ne (fun z => by omega), sU_ne (fun z => by omega), sU_ne (fun z => by omega)]
      have a110 : W 110 (1 * ρ 1 + 0).toNat = 1 * ρ 3 + 0 := by rw [hW, sU_ne (fun z => by omega), sU_ne (fun z => by omega), sU_ne (fun z => by omega), sU_ne (fun z => by omega), sU_ne (fun z => by omega), sU_ne (fun z => by omega), sU_at]
      have c111 : ∀ k, W 111 k = M 111 k := fun k => by rw [hW, sU_ne (fun z => by omega), sU_ne (fun z => by omega), sU_ne (fun z => by omega), sU_ne (fun z => by omega), sU_ne (fun z => by omega), sU_ne (fun z => by omega), sU_ne (fun z => by omega)]
      exact xz4_of hI.1 r91_975 (fun k a => ⟨c108 k, c109 k⟩) (fun k a => ⟨c110 k (by omega), c111 k⟩) qxZ4
    have k_xZ5 : xZ5 W := by
      rw [hW]
      exact (uxZ5 rfl (uxZ5 rfl (uxZ5 rfl (uxZ5 rfl (uxZ5 rfl (uxZ5 rfl (uxZ5 (sinc_ok rfl _) hI.2.2.2.1.2.2.2.2.2.2.2.1)))))))
    have k_xZ6 : xZ6 W := by
      rw [hW]
      exact (uxZ6 rfl (uxZ6 rfl (uxZ6 rfl (uxZ6 rfl (uxZ6 rfl (uxZ6 rfl (uxZ6 (sinc_ok rfl _) hI.2.2.2.1.2.2.2.2.2.2.2.2.1)))))))
    have k_xZ7 : xZ7 W := by
      have r91_978 : W 91 978 = 0 := by rw [hW, sU_ne (fun z => by omega), sU_at]
      have c110 : ∀ k : Nat, k ≠ (1 * ρ 1 + 0).toNat → W 110 k = M 110 k := fun k hk => by rw [hW, sU_ne (fun z => by omega), sU_ne (fun z => by omega), sU_ne (fun z => by omega), sU_ne (fun z => by omega), sU_ne (fun z => by omega), sU_ne (fun z => by omega), sU_ne (fun z => by omega)]
      have a110 : W 110 (1 * ρ 1 + 0).toNat = 1 * ρ 3 + 0 := by rw [hW, sU_ne (fun z => by omega), sU_ne (fun z => by omega), sU_ne (fun z => by omega), sU_ne (fun z => by omega), sU_ne (fun z => by omega), sU_ne (fun z => by omega), sU_at]
      intro j hj
      rw [r91_978] at hj
      omega
    have k_xZ8 : xZ8 W := by
      rw [hW]
      exact (uxZ8 rfl (uxZ8 rfl (uxZ8 rfl (uxZ8 rfl (uxZ8 rfl (uxZ8 rfl (uxZ8 (sinc_ok rfl _) hI.2.2.2.1.2.2.2.2.2.2.2.2.2.2.1)))))))
    have k_xZ9 : xZ9 W := by
      have r91_964 : W 91 964 = 0 := by rw [hW, sU_at]
      have r91_980 : W 91 980 = M 91 980 := by rw [hW, sU_ne (fun z => by omega), sU_ne (fun z => by omega), sU_ne (fun z => by omega), sU_ne (fun z => by omega), sU_ne (fun z => by omega), sU_ne (fun z => by omega), sU_ne (fun z => by omega)]
      have r91_981 : W 91 981 = M 91 981 := by rw [hW, sU_ne (fun z => by omega), sU_ne (fun z => by omega), sU_ne (fun z => by omega), sU_ne (fun z => by omega), sU_ne (fun z => by omega), sU_ne (fun z => by omega), sU_ne (fun z => by omega)]
      have r91_982 : W 91 982 = M 91 982 := by rw [hW, sU_ne (fun z => by omega), sU_ne (fun z => by omega), sU_ne (fun z => by omega), sU_ne (fun z => by omega), sU_ne (fun z => by omega), sU_ne (fun z => by omega), sU_ne (fun z => by omega)]
      have c110 : ∀ k : Nat, k ≠ (1 * ρ 1 + 0).toNat → W 110 k = M 110 k := fun k hk => by rw [hW, sU_ne (fun z => by omega), sU_ne (fun z => by omega), sU_ne (fun z => by omega), sU_ne (fun z => by omega), sU_ne (fun z => by omega), sU_ne (fun z => by omega), sU_ne (fun z => by omega)]
      have a110 : W 110 (1 * ρ 1 + 0).toNat = 1 * ρ 3 + 0 := by rw [hW, sU_ne (fun z => by omega), sU_ne (fun z => by omega), sU_ne (fun z => by omega), sU_ne (fun z => by omega), sU_ne (fun z => by omega), sU_ne (fun z => by omega), sU_at]
      have c111 : ∀ k, W 111 k = M 111 k := fun k => by rw [hW, sU_ne (fun z => by omega), sU_ne (fun z => by omega), sU_ne (fun z => by omega), sU_ne (fun z => by omega), sU_ne (fun z => by omega), sU_ne (fun z => by omega), sU_ne (fun z => by omega)]
      intro h
      rw [r91_964] at h
      omega
    have k_xZa : xZa W := by
      have r91_964 : W 91 964 = 0 := by rw [hW, sU_at]
      have r91_981 : W 91 981 = M 91 981 := by rw [hW, sU_ne (fun z => by omega), sU_ne (fun z => by omega), sU_ne (fun z => by omega), sU_ne (fun z => by omega), sU_ne (fun z => by omega), sU_ne (fun z => by omega), sU_ne (fun z => by omega)]
      have r91_960 : W 91 960 = M 91 960 := by rw [hW, sU_ne (fun z => by omega), sU_ne (fun z => by omega), sU_ne (fun z => by omega), sU_ne (fun z => by omega), sU_ne (fun z => by omega), sU_ne (fun z => by omega), sU_ne (fun z => by omega)]
      have r91_961 : W 91 961 = M 91 961 := by rw [hW, sU_ne (fun z => by omega), sU_ne (fun z => by omega), sU_ne (fun z => by omega), sU_ne (fun z => by omega), sU_ne (fun z => by omega), sU_ne (fun z => by omega), sU_ne (fun z => by omega)]
      have r91_962 : W 91 962 = M 91 962 := by rw [hW, sU_ne (fun z => by omega), sU_ne (fun z => by omega), sU_ne (fun z => by omega), sU_ne (fun z => by omega), sU_ne (fun z => by omega), sU_ne (fun z => by omega), sU_ne (fun z => by omega)]
      have r91_963 : W 91 963 = M 91 963 := by rw [hW, sU_ne (fun z => by omega), sU_ne (fun z => by omega), sU_ne (fun z => by omega), sU_ne (fun z => by omega), sU_ne (fun z => by omega), sU_ne (fun z => by omega), sU_ne (fun z => by omega)]
      have c110 : ∀ k : Nat, k ≠ (1 * ρ 1 + 0).toNat → W 110 k = M 110 k := fun k hk => by rw [hW, sU_ne (fun z => by omega), sU_ne (fun z => by omega), sU_ne (fun z => by omega), sU_ne (fun z => by omega), sU_ne (fun z => by omega), sU_ne (fun z => by omega), sU_ne (fun z => by omega)]
      have a110 : W 110 (1 * ρ 1 + 0).toNat = 1 * ρ 3 + 0 := by rw [hW, sU_ne (fun z => by omega), sU_ne (fun z => by omega), sU_ne (fun z => by omega), sU_ne (fun z => by omega), sU_ne (fun z => by omega), sU_ne (fun z => by omega), sU_at]
      have c111 : ∀ k, W 111 k = M 111 k := fun k => by rw [hW, sU_ne (fun z => by omega), sU_ne (fun z => by omega), sU_ne (fun z => by omega), sU_ne (fun z => by omega), sU_ne (fun z => by omega), sU_ne (fun z => by omega), sU_ne (fun z => by omega)]
      intro h
      rw [r91_964] at h
      omega
    have k_xZb : xZb W := by
      rw [hW]
      exact (uxZb rfl (uxZb rfl (uxZb rfl (uxZb rfl (uxZb rfl (uxZb rfl (uxZb (sinc_ok rfl _) hI.2.2.2.1.2.2.2.2.2.2.2.2.2.2.2.2.2.1)))))))
    have k_xT1 : xT1 W := by
      rw [hW]
      exact (uxT1 rfl (uxT1 rfl (uxT1 rfl (uxT1 rfl (uxT1 rfl (uxT1 rfl (uxT1 (sinc_ok rfl _) hI.2.2.2.1.2.2.2.2.2.2.2.2.2.2.2.2.2.2)))))))
    have kXA : XA W := ⟨k_xY1, k_xY2, k_xY3, k_xZ1, k_xZ2, k_xZ3, k_xZ4, k_xZ5, k_xZ6, k_xZ7, k_xZ8, k_xZ9, k_xZa, k_xZb, k_xT1⟩
    have kXB : XB W := by
      rw [hW]
      exact (uXB rfl (uXB rfl (uXB rfl (uXB rfl (uXB rfl (uXB rfl (uXB (sinc_ok rfl _) hI.2.2.2.2)))))))
    exact ⟨base, k2, k3, kXA, kXB⟩
-- knotValue
def xr_39 : qRu := (4, [[(-64, 0), (1, 1), (-1, 2)], [(64, 0), (-1, 1), (1, 2)], [(2147483648, 0), (1, 3)], [(2147483647, 0), (-1, 3)]], [(93, 17, [(1, 2)])], [(111, [(1, 1)], [(1, 3)])], [(91, 973, [(1, 3)]), (91, 987, [(1, 4)]), (91, 988, [(1, 5)]), (91, 989, []), (91, 979, []), (91, 964, [])], [])
theorem xo_39 : qRok xr_39 := by
  intro ρ M h0 hf hm hI
  have f0 := hf [(-64, 0), (1, 1), (-1, 2)] (by decide)
  have f1 := hf [(64, 0), (-1, 1), (1, 2)] (by decide)
  have f2 := hf [(2147483648, 0), (1, 3)] (by decide)
  have f3 := hf [(2147483647, 0), (-1, 3)] (by decide)
  simp only [qD, h0] at f0 f1 f2 f3
  have m0 : M 93 17 = 1 * ρ 2 + 0 := hm (93, 17, [(1, 2)]) (by decide)
  have qxZ1 := hI.2.2.2.1.2.2.2.1
  have qxZ2 := hI.2.2.2.1.2.2.2.2.1
  have qxZ3 := hI.2.2.2.1.2.2.2.2.2.1
  have qxZ4 := hI.2.2.2.1.2.2.2.2.2.2.1
  have qxZ8 := hI.2.2.2.1.2.2.2.2.2.2.2.2.2.2.1
  have qxZ9 := hI.2.2.2.1.2.2.2.2.2.2.2.2.2.2.2.1
  have qxZa := hI.2.2.2.1.2.2.2.2.2.2.2.2.2.2.2.2.1
  have hn : (0 : Int) ≤ M 93 17 ∧ M 93 17 ≤ 64 := hI.1 93 17 (0, 64) rfl
  refine ⟨fun a => cond (Nat.blt a 4) (ρ a) (([xkE (M 91 972) (1 * ρ 3 + 0), xkN (M 91 972) (1 * ρ 3 + 0)] : List Int).getD (a - 4) 0), fun a ha => ?_, fun f h => ?_, ?_⟩
  · show cond (Nat.blt a 4) (ρ a) _ = ρ a
    rw [show Nat.blt a 4 = true from Nat.ble_eq_true_of_le ha]; rfl
  · exact nomatch h
  · show sI (sU (sU (sU (sU (sU (sU (sU M 111 (1 * ρ 1 + 0 : Int).toNat (1 * ρ 3 + 0)) 91 973 (1 * ρ 3 + 0)) 91 987 (1 * (xkE (M 91 972) (1 * ρ 3 + 0)) + 0)) 91 988 (1 * (xkN (M 91 972) (1 * ρ 3 + 0)) + 0)) 91 989 (0)) 91 979 (0)) 91 964 (0))
    obtain ⟨W, hW⟩ : ∃ W, W = (sU (sU (sU (sU (sU (sU (sU M 111 (1 * ρ 1 + 0).toNat (1 * ρ 3 + 0)) 91 973 (1 * ρ 3 + 0)) 91 987 (1 * (xkE (M 91 972) (1 * ρ 3 + 0)) + 0)) 91 988 (1 * (xkN (M 91 972) (1 * ρ 3 + 0)) + 0)) 91 989 (0)) 91 979 (0)) 91 964 (0)) := ⟨_, rfl⟩
    rw [← hW]
    have base : sI0 W := by
      rw [hW]
      exact (si_u0 (si_u0 (si_u0 (si_u0 (si_u0 (si_u0 (si_u0 hI.1 (fun r hr => by rw [xt_111 hr]; exact ⟨by show (-2147483648 : Int) ≤ _; omega, by show _ ≤ (2147483647 : Int); omega⟩)) (fun r hr => by cases hr)) (fun r hr => by cases hr)) (fun r hr => by cases hr)) (fun r hr => by cases hr)) (fun r hr => by cases hr)) (fun r hr => by cases hr))
    have k2 : XI2 W := by
      rw [hW]
      exact (xi2_u rfl (xi2_u rfl (xi2_u rfl (xi2_u rfl (xi2_u rfl (xi2_u rfl (xi2_u (sinc_ok rfl _) hI.2.1)))))))
    have k3 : XI3 W := by
      rw [hW]
      exact (xi3_u rfl (xi3_u rfl (xi3_u rfl (xi3_u rfl (xi3_u rfl (xi3_u rfl (xi3_u (sinc_ok rfl _) hI.2.2.1)))))))
    have k_xY1 : xY1 W := by
      rw [hW]
      exact (uxY1 rfl (uxY1 rfl (uxY1 rfl (uxY1 rfl (uxY1 rfl (uxY1 rfl (uxY1 (sinc_ok rfl _) hI.2.2.2.1.1)))))))
    have k_xY2 : xY2 W := by
      rw [hW]
      exact (uxY2 rfl (uxY2 rfl (uxY2 rfl (uxY2 rfl (uxY2 rfl (uxY2 rfl (uxY2 (sinc_ok rfl _) hI.2.2.2.1.2.1)))))))
    have k_xY3 : xY3 W := by
      rw [hW]
      exact (uxY3 rfl (uxY3 rfl (uxY3 rfl (uxY3 rfl (uxY3 rfl (uxY3 rfl (uxY3 (sinc_ok rfl _) hI.2.2.2.1.2.2.1)))))))
    have k_xZ1 : xZ1 W := by
      have r91_970 : W 91 970 = M 91 970 := by rw [hW, sU_ne (fun z => by omega), sU_ne (fun z => by omega), sU_ne (fun z => by omega), sU_ne (fun z => by omega), sU_ne (fun z => by omega), sU_ne (fun z => by omega), sU_ne (fun z => by omega)]
      have r91_971 : W 91 971 = M 91 971 := by rw [hW, sU_ne (fun z => by omega), sU_ne (fun z => by omega), sU_ne (fun z => by omega), sU_ne (fun z => by omega), sU_ne (fun z => by omega), sU_ne (fun z => by omega), sU_ne (fun z => by omega)]
      have r93_17 : W 93 17 = M 93 17 := by rw [hW, sU_ne (fun z => by omega), sU_ne (fun z => by omega), sU_ne (fun z => by omega), sU_ne (fun z => by omega), sU_ne (fun z => by omega), sU_ne (fun z => by omega), sU_ne (fun z => by omega)]
      have c110 : ∀ k, W 110 k = M 110 k := fun k => by rw [hW, sU_ne (fun z => by omega), sU_ne (fun z => by omega), sU_ne (fun z => by omega), sU_ne (fun z => by omega), sU_ne (fun z => by omega), sU_ne (fun z => by omega), sU_ne (fun z => by omega)]
      have c111 : ∀ k : Nat, k ≠ (1 * ρ 1 + 0).toNat → W 111 k = M 111 k := fun k hk => by rw [hW, sU_ne (fun z => by omega), sU_ne (fun z => by omega), sU_ne (fun z => by omega), sU_ne (fun z => by omega), sU_ne (fun z => by omega), sU_ne (fun z => by omega), sU_ne (fun z => by omega)]
      have a111 : W 111 (1 * ρ 1 + 0).toNat = 1 * ρ 3 + 0 := by rw [hW, sU_ne (fun z => by omega), sU_ne (fun z => by omega), sU_ne (fun z => by omega), sU_ne (fun z => by omega), sU_ne (fun z => by omega), sU_ne (fun z => by omega), sU_at]
      exact xz1_of r91_970 r91_971 r93_17 (fun k a b => ⟨c110 k, c111 k (by omega)⟩) qxZ1
    have k_xZ2 : xZ2 W := by
      have r91_972 : W 91 972 = M 91 972 := by rw [hW, sU_ne (fun z => by omega), sU_ne (fun z => by omega), sU_ne (fun z => by omega), sU_ne (fun z => by omega), sU_ne (fun z => by omega), sU_ne (fun z => by omega), sU_ne (fun z => by omega)]
      have r91_973 : W 91 973 = 1 * ρ 3 + 0 := by rw [hW, sU_ne (fun z => by omega), sU_ne (fun z => by omega), sU_ne (fun z => by omega), sU_ne (fun z => by omega), sU_ne (fun z => by omega), sU_at]
      have r91_987 : W 91 987 = 1 * (xkE (M 91 972) (1 * ρ 3 + 0)) + 0 := by rw [hW, sU_ne (fun z => by omega), sU_ne (fun z => by omega), sU_ne (fun z => by omega), sU_ne (fun z => by omega), sU_at]
      have r91_988 : W 91 988 = 1 * (xkN (M 91 972) (1 * ρ 3 + 0)) + 0 := by rw [hW, sU_ne (fun z => by omega), sU_ne (fun z => by omega), sU_ne (fun z => by omega), sU_at]
      have r91_989 : W 91 989 = 0 := by rw [hW, sU_ne (fun z => by omega), sU_ne (fun z => by omega), sU_at]
      have r93_17 : W 93 17 = M 93 17 := by rw [hW, sU_ne (fun z => by omega), sU_ne (fun z => by omega), sU_ne (fun z => by omega), sU_ne (fun z => by omega), sU_ne (fun z => by omega), sU_ne (fun z => by omega), sU_ne (fun z => by omega)]
      have c110 : ∀ k, W 110 k = M 110 k := fun k => by rw [hW, sU_ne (fun z => by omega), sU_ne (fun z => by omega), sU_ne (fun z => by omega), sU_ne (fun z => by omega), sU_ne (fun z => by omega), sU_ne (fun z => by omega), sU_ne (fun z => by omega)]
      have c111 : ∀ k : Nat, k ≠ (1 * ρ 1 + 0).toNat → W 111 k = M 111 k := fun k hk => by rw [hW, sU_ne (fun z => by omega), sU_ne (fun z => by omega), sU_ne (fun z => by omega), sU_ne (fun z => by omega), sU_ne (fun z => by omega), sU_ne (fun z => by omega), sU_ne (fun z => by omega)]
      have a111 : W 111 (1 * ρ 1 + 0).toNat = 1 * ρ 3 + 0 := by rw [hW, sU_ne (fun z => by omega), sU_ne (fun z => by omega), sU_ne (fun z => by omega), sU_ne (fun z => by omega), sU_ne (fun z => by omega), sU_ne (fun z => by omega), sU_at]
      have e : 64 + (M 93 17).toNat = (1 * ρ 1 + 0).toNat := by omega
      have g := qxZ2.1
      rw [e] at g
      unfold xZ2
      rw [r91_972, r91_973, r91_987, r91_988, r91_989, r93_17, e, a111, c110]
      exact ⟨g, rfl, x10 _, x10 _, fun z => absurd z (by omega)⟩
    have k_xZ3 : xZ3 W := by
      have r91_974 : W 91 974 = M 91 974 := by rw [hW, sU_ne (fun z => by omega), sU_ne (fun z => by omega), sU_ne (fun z => by omega), sU_ne (fun z => by omega), sU_ne (fun z => by omega), sU_ne (fun z => by omega), sU_ne (fun z => by omega)]
      have r93_17 : W 93 17 = M 93 17 := by rw [hW, sU_ne (fun z => by omega), sU_ne (fun z => by omega), sU_ne (fun z => by omega), sU_ne (fun z => by omega), sU_ne (fun z => by omega), sU_ne (fun z => by omega), sU_ne (fun z => by omega)]
      have c108 : ∀ k, W 108 k = M 108 k := fun k => by rw [hW, sU_ne (fun z => by omega), sU_ne (fun z => by omega), sU_ne (fun z => by omega), sU_ne (fun z => by omega), sU_ne (fun z => by omega), sU_ne (fun z => by omega), sU_ne (fun z => by omega)]
      have c109 : ∀ k, W 109 k = M 109 k := fun k => by rw [hW, sU_ne (fun z => by omega), sU_ne (fun z => by omega), sU_ne (fun z => by omega), sU_ne (fun z => by omega), sU_ne (fun z => by omega), sU_ne (fun z => by omega), sU_ne (fun z => by omega)]
      have c110 : ∀ k, W 110 k = M 110 k := fun k => by rw [hW, sU_ne (fun z => by omega), sU_ne (fun z => by omega), sU_ne (fun z => by omega), sU_ne (fun z => by omega), sU_ne (fun z => by omega), sU_ne (fun z => by omega), sU_ne (fun z => by omega)]
      have c111 : ∀ k : Nat, k ≠ (1 * ρ 1 + 0).toNat → W 111 k = M 111 k := fun k hk => by rw [hW, sU_ne (fun z => by omega), sU_ne (fun z => by omega), sU_ne (fun z => by omega), sU_ne (fun z => by omega), sU_ne (fun z => by omega), sU_ne (fun z => by omega), sU_ne (fun z => by omega)]
      have a111 : W 111 (1 * ρ 1 + 0).toNat = 1 * ρ 3 + 0 := by rw [hW, sU_ne (fun z => by omega), sU_ne (fun z => by omega), sU_ne (fun z => by omega), sU_ne (fun z => by omega), sU_ne (fun z => by omega), sU_ne (fun z => by omega), sU_at]
      exact xz3_of r91_974 (by rw [r93_17]; exact Int.le_refl _) (fun k a b => ⟨c108 k, c109 k⟩) (fun k a b => ⟨c110 k, c111 k (by omega)⟩) qxZ3
    have k_xZ4 : xZ4 W := by
      have r91_975 : W 91 975 = M 91 975 := by rw [hW, sU_ne (fun z => by omega), sU_ne (fun z => by omega), sU_ne (fun z => by omega), sU_ne (fun z => by omega), sU_ne (fun z => by omega), sU_ne (fun z => by omega), sU_ne (fun z => by omega)]
      have c108 : ∀ k, W 108 k = M 108 k := fun k => by rw [hW, sU_ne (fun z => by omega), sU_ne (fun z => by omega), sU_ne (fun z => by omega), sU_ne (fun z => by omega), sU_ne (fun z => by omega), sU_ne (fun z => by omega), sU_ne (fun z => by omega)]
      have c109 : ∀ k, W 109 k = M 109 k := fun k => by rw [hW, sU_ne (fun z => by omega), sU_ne (fun z => by omega), sU_ne (fun z => by omega), sU_ne (fun z => by omega), sU_ne (fun z => by omega), sU_ne (fun z => by omega), sU_ne (fun z => by omega)]
      have c110 : ∀ k, W 110 k = M 110 k := fun k => by rw [hW, sU_ne (fun z => by omega), sU_ne (fun z => by omega), sU_ne (fun z => by omega), sU_ne (fun z => by omega), sU_ne (fun z => by omega), sU_ne (fun z => by omega), sU_ne (fun z => by omega)]
      have c111 : ∀ k : Nat, k ≠ (1 * ρ 1 + 0).toNat → W 111 k = M 111 k := fun k hk => by rw [hW, sU_ne (fun z => by omega), sU_ne (fun z => by omega), sU_ne (fun z => by omega), sU_ne (fun z => by omega), sU_ne (fun z => by omega), sU_ne (fun z => by omega), sU_ne (fun z => by omega)]
      have a111 : W 111 (1 * ρ 1 + 0).toNat = 1 * ρ 3 + 0 := by rw [hW, sU_ne (fun z => by omega), sU_ne (fun z => by omega), sU_ne (fun z => by omega), sU_ne (fun z => by omega), sU_ne (fun z => by omega), sU_ne (fun z => by omega), sU_at]
      exact xz4_of hI.1 r91_975 (fun k a => ⟨c108 k, c109 k⟩) (fun k a => ⟨c110 k, c111 k (by omega)⟩) qxZ4
    have k_xZ5 : xZ5 W := by
      rw [hW]
      exact (uxZ5 rfl (uxZ5 rfl (uxZ5 rfl (uxZ5 rfl (uxZ5 rfl (uxZ5 rfl (uxZ5 (sinc_ok rfl _) hI.2.2.2.1.2.2.2.2.2.2.2.1)))))))
    have k_xZ6 : xZ6 W := by
      rw [hW]
      exact (uxZ6 rfl (uxZ6 rfl (uxZ6 rfl (uxZ6 rfl (uxZ6 rfl (uxZ6 rfl (uxZ6 (sinc_ok rfl _) hI.2.2.2.1.2.2.2.2.2.2.2.2.1)))))))
    have k_xZ7 : xZ7 W := by
      rw [hW]
      exact (uxZ7 rfl (uxZ7 rfl (uxZ7 rfl (uxZ7 rfl (uxZ7 rfl (uxZ7 rfl (uxZ7 (sinc_ok rfl _) hI.2.2.2.1.2.2.2.2.2.2.2.2.2.1)))))))
    have k_xZ8 : xZ8 W := by
      have r91_979 : W 91 979 = 0 := by rw [hW, sU_ne (fun z => by omega), sU_at]
      have c111 : ∀ k : Nat, k ≠ (1 * ρ 1 + 0).toNat → W 111 k = M 111 k := fun k hk => by rw [hW, sU_ne (fun z => by omega), sU_ne (fun z => by omega), sU_ne (fun z => by omega), sU_ne (fun z => by omega), sU_ne (fun z => by omega), sU_ne (fun z => by omega), sU_ne (fun z => by omega)]
      have a111 : W 111 (1 * ρ 1 + 0).toNat = 1 * ρ 3 + 0 := by rw [hW, sU_ne (fun z => by omega), sU_ne (fun z => by omega), sU_ne (fun z => by omega), sU_ne (fun z => by omega), sU_ne (fun z => by omega), sU_ne (fun z => by omega), sU_at]
      intro j hj
      rw [r91_979] at hj
      omega
    have k_xZ9 : xZ9 W := by
      have r91_964 : W 91 964 = 0 := by rw [hW, sU_at]
      have r91_980 : W 91 980 = M 91 980 := by rw [hW, sU_ne (fun z => by omega), sU_ne (fun z => by omega), sU_ne (fun z => by omega), sU_ne (fun z => by omega), sU_ne (fun z => by omega), sU_ne (fun z => by omega), sU_ne (fun z => by omega)]
      have r91_981 : W 91 981 = M 91 981 := by rw [hW, sU_ne (fun z => by omega), sU_ne (fun z => by omega), sU_ne (fun z => by omega), sU_ne (fun z => by omega), sU_ne (fun z => by omega), sU_ne (fun z => by omega), sU_ne (fun z => by omega)]
      have r91_982 : W 91 982 = M 91 982 := by rw [hW, sU_ne (fun z => by omega), sU_ne (fun z => by omega), sU_ne (fun z => by omega), sU_ne (fun z => by omega), sU_ne (fun z => by omega), sU_ne (fun z => by omega), sU_ne (fun z => by omega)]
      have c110 : ∀ k, W 110 k = M 110 k := fun k => by rw [hW, sU_ne (fun z => by omega), sU_ne (fun z => by omega), sU_ne (fun z => by omega), sU_ne (fun z => by omega), sU_ne (fun z => by omega), sU_ne (fun z => by omega), sU_ne (fun z => by omega)]
      have c111 : ∀ k : Nat, k ≠ (1 * ρ 1 + 0).toNat → W 111 k = M 111 k := fun k hk => by rw [hW, sU_ne (fun z => by omega), sU_ne (fun z => by omega), sU_ne (fun z => by omega), sU_ne (fun z => by omega), sU_ne (fun z => by omega), sU_ne (fun z => by omega), sU_ne (fun z => by omega)]
      have a111 : W 111 (1 * ρ 1 + 0).toNat = 1 * ρ 3 + 0 := by rw [hW, sU_ne (fun z => by omega), sU_ne (fun z => by omega), sU_ne (fun z => by omega), sU_ne (fun z => by omega), sU_ne (fun z => by omega), sU_ne (fun z => by omega), sU_at]
      intro h
      rw [r91_964] at h
      omega
    have k_xZa : xZa W := by
      have r91_964 : W 91 964 = 0 := by rw [hW, sU_at]
      have r91_981 : W 91 981 = M 91 981 := by rw [hW, sU_ne (fun z => by omega), sU_ne (fun z => by omega), sU_ne (fun z => by omega), sU_ne (fun z => by omega), sU_ne (fun z => by omega), sU_ne (fun z => by omega), sU_ne (fun z => by omega)]
      have r91_960 : W 91 960 = M 91 960 := by rw [hW, sU_ne (fun z => by omega), sU_ne (fun z => by omega), sU_ne (fun z => by omega), sU_ne (fun z => by omega), sU_ne (fun z => by omega), sU_ne (fun z => by omega), sU_ne (fun z => by omega)]
      have r91_961 : W 91 961 = M 91 961 := by rw [hW, sU_ne (fun z => by omega), sU_ne (fun z => by omega), sU_ne (fun z => by omega), sU_ne (fun z => by omega), sU_ne (fun z => by omega), sU_ne (fun z => by omega), sU_ne (fun z => by omega)]
      have r91_962 : W 91 962 = M 91 962 := by rw [hW, sU_ne (fun z => by omega), sU_ne (fun z => by omega), sU_ne (fun z => by omega), sU_ne (fun z => by omega), sU_ne (fun z => by omega), sU_ne (fun z => by omega), sU_ne (fun z => by omega)]
      have r91_963 : W 91 963 = M 91 963 := by rw [hW, sU_ne (fun z => by omega), sU_ne (fun z => by omega), sU_ne (fun z => by omega), sU_ne (fun z => by omega), sU_ne (fun z => by omega), sU_ne (fun z => by omega), sU_ne (fun z => by omega)]
      have c110 : ∀ k, W 110 k = M 110 k := fun k => by rw [hW, sU_ne (fun z => by omega), sU_ne (fun z => by omega), sU_ne (fun z => by omega), sU_ne (fun z => by omega), sU_ne (fun z => by omega), sU_ne (fun z => by omega), sU_ne (fun z => by omega)]
      have c111 : ∀ k : Nat, k ≠ (1 * ρ 1 + 0).toNat → W 111 k = M 111 k := fun k hk => by rw [hW, sU_ne (fun z => by omega), sU_ne (fun z => by omega), sU_ne (fun z => by omega), sU_ne (fun z => by omega), sU_ne (fun z => by omega), sU_ne (fun z => by omega), sU_ne (fun z => by omega)]
      have a111 : W 111 (1 * ρ 1 + 0).toNat = 1 * ρ 3 + 0 := by rw [hW, sU_ne (fun z => by omega), sU_ne (fun z => by omega), sU_ne (fun z => by omega), sU_ne (fun z => by omega), sU_ne (fun z => by omega), sU_ne (fun z => by omega), sU_at]
      intro h
      rw [r91_964] at h
      omega
    have k_xZb : xZb W := by
      rw [hW]
      exact (uxZb rfl (uxZb rfl (uxZb rfl (uxZb rfl (uxZb rfl (uxZb rfl (uxZb (sinc_ok rfl _) hI.2.2.2.1.2.2.2.2.2.2.2.2.2.2.2.2.2.1)))))))
    have k_xT1 : xT1 W := by
      rw [hW]
      exact (uxT1 rfl (uxT1 rfl (uxT1 rfl (uxT1 rfl (uxT1 rfl (uxT1 rfl (uxT1 (sinc_ok rfl _) hI.2.2.2.1.2.2.2.2.2.2.2.2.2.2.2.2.2.2)))))))
    have kXA : XA W := ⟨k_xY1, k_xY2, k_xY3, k_xZ1, k_xZ2, k_xZ3, k_xZ4, k_xZ5, k_xZ6, k_xZ7, k_xZ8, k_xZ9, k_xZa, k_xZb, k_xT1⟩
    have kXB : XB W := by
      rw [hW]
      exact (uXB rfl (uXB rfl (uXB rfl (uXB rfl (uXB rfl (uXB rfl (uXB (sinc_ok rfl _) hI.2.2.2.2)))))))
    exact ⟨base, k2, k3, kXA, kXB⟩
-- kNum
def xr_40 : qRu := (5, [[(1, 1)], [(-1, 1)]], [(91, 972, [(1, 1)]), (91, 973, [(1, 2)]), (91, 987, [(1, 3)]), (91, 988, [(1, 4)])], [], [(91, 989, [(1, 0)])], [[(-1, 0), (1, 3)], [(1, 0), (-1, 3)], [(1, 4)], [(-1, 4)]])
theorem xo_40 : qRok xr_40 := by
  intro ρ M h0 hf hm hI
  have f0 := hf [(1, 1)] (by decide)
  have f1 := hf [(-1, 1)] (by decide)
  simp only [qD, h0] at f0 f1
  have m0 : M 91 972 = 1 * ρ 1 + 0 := hm (91, 972, [(1, 1)]) (by decide)
  have m1 : M 91 973 = 1 * ρ 2 + 0 := hm (91, 973, [(1, 2)]) (by decide)
  have m2 : M 91 987 = 1 * ρ 3 + 0 := hm (91, 987, [(1, 3)]) (by decide)
  have m3 : M 91 988 = 1 * ρ 4 + 0 := hm (91, 988, [(1, 4)]) (by decide)
  have qxZ2 := hI.2.2.2.1.2.2.2.2.1
  have hE := qxZ2.2.2.1
  have hN := qxZ2.2.2.2.1
  unfold xkE at hE
  unfold xkN at hN
  rw [if_neg (by omega)] at hE
  rw [if_neg (by omega)] at hN
  refine ⟨ρ, fun _ _ => rfl, fun f h => ?_, ?_⟩
  · have h : f ∈ ([[(-1, 0), (1, 3)], [(1, 0), (-1, 3)], [(1, 4)], [(-1, 4)]] : List qF) := h
    simp only [List.mem_cons, List.not_mem_nil, or_false] at h
    rcases h with rfl | rfl | rfl | rfl
    · show 0 ≤ -1 * ρ 0 + (1 * ρ 3 + 0)
      (try rw [h0]); omega
    · show 0 ≤ 1 * ρ 0 + (-1 * ρ 3 + 0)
      (try rw [h0]); omega
    · show 0 ≤ 1 * ρ 4 + 0
      (try rw [h0]); omega
    · show 0 ≤ -1 * ρ 4 + 0
      (try rw [h0]); omega
  · show sI (sU M 91 989 (1 * ρ 0 + 0))
    obtain ⟨W, hW⟩ : ∃ W, W = (sU M 91 989 (1 * ρ 0 + 0)) := ⟨_, rfl⟩
    rw [← hW]
    have base : sI0 W := by
      rw [hW]
      exact (si_u0 hI.1 (fun r hr => by cases hr))
    have k2 : XI2 W := by
      rw [hW]
      exact (xi2_u rfl hI.2.1)
    have k3 : XI3 W := by
      rw [hW]
      exact (xi3_u rfl hI.2.2.1)
    have k_xY1 : xY1 W := by
      rw [hW]
      exact (uxY1 rfl hI.2.2.2.1.1)
    have k_xY2 : xY2 W := by
      rw [hW]
      exact (uxY2 rfl hI.2.2.2.1.2.1)
    have k_xY3 : xY3 W := by
      rw [hW]
      exact (uxY3 rfl hI.2.2.2.1.2.2.1)
    have k_xZ1 : xZ1 W := by
      rw [hW]
      exact (uxZ1 rfl hI.2.2.2.1.2.2.2.1)
    have k_xZ2 : xZ2 W := by
      have r91_972 : W 91 972 = M 91 972 := by rw [hW, sU_ne (fun z => by omega)]
      have r91_973 : W 91 973 = M 91 973 := by rw [hW, sU_ne (fun z => by omega)]
      have r91_987 : W 91 987 = M 91 987 := by rw [hW, sU_ne (fun z => by omega)]
      have r91_988 : W 91 988 = M 91 988 := by rw [hW, sU_ne (fun z => by omega)]
      have r91_989 : W 91 989 = 1 * ρ 0 + 0 := by rw [hW, sU_at]
      have r93_17 : W 93 17 = M 93 17 := by rw [hW, sU_ne (fun z => by omega)]
      have c110 : ∀ k, W 110 k = M 110 k := fun k => by rw [hW, sU_ne (fun z => by omega)]
      have c111 : ∀ k, W 111 k = M 111 k := fun k => by rw [hW, sU_ne (fun z => by omega)]
      unfold xZ2
      rw [r91_972, r91_973, r91_987, r91_988, r91_989, r93_17, c110, c111]
      exact ⟨qxZ2.1, qxZ2.2.1, qxZ2.2.2.1, qxZ2.2.2.2.1, fun _ => by unfold xkV; omega⟩
    have k_xZ3 : xZ3 W := by
      rw [hW]
      exact (uxZ3 rfl hI.2.2.2.1.2.2.2.2.2.1)
    have k_xZ4 : xZ4 W := by
      rw [hW]
      exact (uxZ4 rfl hI.2.2.2.1.2.2.2.2.2.2.1)
    have k_xZ5 : xZ5 W := by
      rw [hW]
      exact (uxZ5 rfl hI.2.2.2.1.2.2.2.2.2.2.2.1)
    have k_xZ6 : xZ6 W := by
      rw [hW]
      exact (uxZ6 rfl hI.2.2.2.1.2.2.2.2.2.2.2.2.1)
    have k_xZ7 : xZ7 W := by
      rw [hW]
      exact (uxZ7 rfl hI.2.2.2.1.2.2.2.2.2.2.2.2.2.1)
    have k_xZ8 : xZ8 W := by
      rw [hW]
      exact (uxZ8 rfl hI.2.2.2.1.2.2.2.2.2.2.2.2.2.2.1)
    have k_xZ9 : xZ9 W := by
      rw [hW]
      exact (uxZ9 rfl hI.2.2.2.1.2.2.2.2.2.2.2.2.2.2.2.1)
    have k_xZa : xZa W := by
      rw [hW]
      exact (uxZa rfl hI.2.2.2.1.2.2.2.2.2.2.2.2.2.2.2.2.1)
    have k_xZb : xZb W := by
      rw [hW]
      exact (uxZb rfl hI.2.2.2.1.2.2.2.2.2.2.2.2.2.2.2.2.2.1)
    have k_xT1 : xT1 W := by
      rw [hW]
      exact (uxT1 rfl hI.2.2.2.1.2.2.2.2.2.2.2.2.2.2.2.2.2.2)
    have kXA : XA W := ⟨k_xY1, k_xY2, k_xY3, k_xZ1, k_xZ2, k_xZ3, k_xZ4, k_xZ5, k_xZ6, k_xZ7, k_xZ8, k_xZ9, k_xZa, k_xZb, k_xT1⟩
    have kXB : XB W := by
      rw [hW]
      exact (uXB rfl hI.2.2.2.2)
    exact ⟨base, k2, k3, kXA, kXB⟩
-- kName
def xr_41 : qRu := (5, [[(-1, 0), (1, 1)], [(1, 0), (-1, 1)], [(1, 2)], [(5, 0), (-1, 2)]], [(91, 972, [(1, 1)]), (91, 973, [(1, 2)]), (91, 987, [(1, 3)]), (91, 988, [(1, 4)])], [], [(91, 989, [(1, 0)])], [[(-1, 0), (1, 3)], [(1, 0), (-1, 3)], [(1, 4)], [(-1, 4)]])
theorem xo_41 : qRok xr_41 := by
  intro ρ M h0 hf hm hI
  have f0 := hf [(-1, 0), (1, 1)] (by decide)
  have f1 := hf [(1, 0), (-1, 1)] (by decide)
  have f2 := hf [(1, 2)] (by decide)
  have f3 := hf [(5, 0), (-1, 2)] (by decide)
  simp only [qD, h0] at f0 f1 f2 f3
  have m0 : M 91 972 = 1 * ρ 1 + 0 := hm (91, 972, [(1, 1)]) (by decide)
  have m1 : M 91 973 = 1 * ρ 2 + 0 := hm (91, 973, [(1, 2)]) (by decide)
  have m2 : M 91 987 = 1 * ρ 3 + 0 := hm (91, 987, [(1, 3)]) (by decide)
  have m3 : M 91 988 = 1 * ρ 4 + 0 := hm (91, 988, [(1, 4)]) (by decide)
  have qxZ2 := hI.2.2.2.1.2.2.2.2.1
  have hE := qxZ2.2.2.1
  have hN := qxZ2.2.2.2.1
  unfold xkE at hE
  unfold xkN at hN
  rw [if_neg (by omega)] at hE
  rw [if_neg (by omega)] at hN
  refine ⟨ρ, fun _ _ => rfl, fun f h => ?_, ?_⟩
  · have h : f ∈ ([[(-1, 0), (1, 3)], [(1, 0), (-1, 3)], [(1, 4)], [(-1, 4)]] : List qF) := h
    simp only [List.mem_cons, List.not_mem_nil, or_false] at h
    rcases h with rfl | rfl | rfl | rfl
    · show 0 ≤ -1 * ρ 0 + (1 * ρ 3 + 0)
      (try rw [h0]); omega
    · show 0 ≤ 1 * ρ 0 + (-1 * ρ 3 + 0)
      (try rw [h0]); omega
    · show 0 ≤ 1 * ρ 4 + 0
      (try rw [h0]); omega
    · show 0 ≤ -1 * ρ 4 + 0
      (try rw [h0]); omega
  · show sI (sU M 91 989 (1 * ρ 0 + 0))
    obtain ⟨W, hW⟩ : ∃ W, W = (sU M 91 989 (1 * ρ 0 + 0)) := ⟨_, rfl⟩
    rw [← hW]
    have base : sI0 W := by
      rw [hW]
      exact (si_u0 hI.1 (fun r hr => by cases hr))
    have k2 : XI2 W := by
      rw [hW]
      exact (xi2_u rfl hI.2.1)
    have k3 : XI3 W := by
      rw [hW]
      exact (xi3_u rfl hI.2.2.1)
    have k_xY1 : xY1 W := by
      rw [hW]
      exact (uxY1 rfl hI.2.2.2.1.1)
    have k_xY2 : xY2 W := by
      rw [hW]
      exact (uxY2 rfl hI.2.2.2.1.2.1)
    have k_xY3 : xY3 W := by
      rw [hW]
      exact (uxY3 rfl hI.2.2.2.1.2.2.1)
    have k_xZ1 : xZ1 W := by
      rw [hW]
      exact (uxZ1 rfl hI.2.2.2.1.2.2.2.1)
    have k_xZ2 : xZ2 W := by
      have r91_972 : W 91 972 = M 91 972 := by rw [hW, sU_ne (fun z => by omega)]
      have r91_973 : W 91 973 = M 91 973 := by rw [hW, sU_ne (fun z => by omega)]
      have r91_987 : W 91 987 = M 91 987 := by rw [hW, sU_ne (fun z => by omega)]
      have r91_988 : W 91 988 = M 91 988 := by rw [hW, sU_ne (fun z => by omega)]
      have r91_989 : W 91 989 = 1 * ρ 0 + 0 := by rw [hW, sU_at]
      have r93_17 : W 93 17 = M 93 17 := by rw [hW, sU_ne (fun z => by omega)]
      have c110 : ∀ k, W 110 k = M 110 k := fun k => by rw [hW, sU_ne (fun z => by omega)]
      have c111 : ∀ k, W 111 k = M 111 k := fun k => by rw [hW, sU_ne (fun z => by omega)]
      unfold xZ2
      rw [r91_972, r91_973, r91_987, r91_988, r91_989, r93_17, c110, c111]
      exact ⟨qxZ2.1, qxZ2.2.1, qxZ2.2.2.1, qxZ2.2.2.2.1, fun _ => by unfold xkV; omega⟩
    have k_xZ3 : xZ3 W := by
      rw [hW]
      exact (uxZ3 rfl hI.2.2.2.1.2.2.2.2.2.1)
    have k_xZ4 : xZ4 W := by
      rw [hW]
      exact (uxZ4 rfl hI.2.2.2.1.2.2.2.2.2.2.1)
    have k_xZ5 : xZ5 W := by
      rw [hW]
      exact (uxZ5 rfl hI.2.2.2.1.2.2.2.2.2.2.2.1)
    have k_xZ6 : xZ6 W := by
      rw [hW]
      exact (uxZ6 rfl hI.2.2.2.1.2.2.2.2.2.2.2.2.1)
    have k_xZ7 : xZ7 W := by
      rw [hW]
      exact (uxZ7 rfl hI.2.2.2.1.2.2.2.2.2.2.2.2.2.1)
    have k_xZ8 : xZ8 W := by
      rw [hW]
      exact (uxZ8 rfl hI.2.2.2.1.2.2.2.2.2.2.2.2.2.2.1)
    have k_xZ9 : xZ9 W := by
      rw [hW]
      exact (uxZ9 rfl hI.2.2.2.1.2.2.2.2.2.2.2.2.2.2.2.1)
    have k_xZa : xZa W := by
      rw [hW]
      exact (uxZa rfl hI.2.2.2.1.2.2.2.2.2.2.2.2.2.2.2.2.1)
    have k_xZb : xZb W := by
      rw [hW]
      exact (uxZb rfl hI.2.2.2.1.2.2.2.2.2.2.2.2.2.2.2.2.2.1)
    have k_xT1 : xT1 W := by
      rw [hW]
      exact (uxT1 rfl hI.2.2.2.1.2.2.2.2.2.2.2.2.2.2.2.2.2.2)
    have kXA : XA W := ⟨k_xY1, k_xY2, k_xY3, k_xZ1, k_xZ2, k_xZ3, k_xZ4, k_xZ5, k_xZ6, k_xZ7, k_xZ8, k_xZ9, k_xZa, k_xZb, k_xT1⟩
    have kXB : XB W := by
      rw [hW]
      exact (uXB rfl hI.2.2.2.2)
    exact ⟨base, k2, k3, kXA, kXB⟩
-- kNot
def xr_42 : qRu := (5, [[(-2, 0), (1, 1)], [(2, 0), (-1, 1)], [(-260, 0), (1, 2)], [(260, 0), (-1, 2)]], [(91, 972, [(1, 1)]), (91, 973, [(1, 2)]), (91, 987, [(1, 3)]), (91, 988, [(1, 4)])], [], [(91, 989, [(1, 0)])], [[(1, 3)], [(-1, 3)], [(-1, 0), (1, 4)], [(1, 0), (-1, 4)]])
theorem xo_42 : qRok xr_42 := by
  intro ρ M h0 hf hm hI
  have f0 := hf [(-2, 0), (1, 1)] (by decide)
  have f1 := hf [(2, 0), (-1, 1)] (by decide)
  have f2 := hf [(-260, 0), (1, 2)] (by decide)
  have f3 := hf [(260, 0), (-1, 2)] (by decide)
  simp only [qD, h0] at f0 f1 f2 f3
  have m0 : M 91 972 = 1 * ρ 1 + 0 := hm (91, 972, [(1, 1)]) (by decide)
  have m1 : M 91 973 = 1 * ρ 2 + 0 := hm (91, 973, [(1, 2)]) (by decide)
  have m2 : M 91 987 = 1 * ρ 3 + 0 := hm (91, 987, [(1, 3)]) (by decide)
  have m3 : M 91 988 = 1 * ρ 4 + 0 := hm (91, 988, [(1, 4)]) (by decide)
  have qxZ2 := hI.2.2.2.1.2.2.2.2.1
  have hE := qxZ2.2.2.1
  have hN := qxZ2.2.2.2.1
  unfold xkE at hE
  unfold xkN at hN
  rw [if_pos (by omega), if_pos (by omega)] at hE
  rw [if_pos (by omega), if_pos (by omega)] at hN
  refine ⟨ρ, fun _ _ => rfl, fun f h => ?_, ?_⟩
  · have h : f ∈ ([[(1, 3)], [(-1, 3)], [(-1, 0), (1, 4)], [(1, 0), (-1, 4)]] : List qF) := h
    simp only [List.mem_cons, List.not_mem_nil, or_false] at h
    rcases h with rfl | rfl | rfl | rfl
    · show 0 ≤ 1 * ρ 3 + 0
      (try rw [h0]); omega
    · show 0 ≤ -1 * ρ 3 + 0
      (try rw [h0]); omega
    · show 0 ≤ -1 * ρ 0 + (1 * ρ 4 + 0)
      (try rw [h0]); omega
    · show 0 ≤ 1 * ρ 0 + (-1 * ρ 4 + 0)
      (try rw [h0]); omega
  · show sI (sU M 91 989 (1 * ρ 0 + 0))
    obtain ⟨W, hW⟩ : ∃ W, W = (sU M 91 989 (1 * ρ 0 + 0)) := ⟨_, rfl⟩
    rw [← hW]
    have base : sI0 W := by
      rw [hW]
      exact (si_u0 hI.1 (fun r hr => by cases hr))
    have k2 : XI2 W := by
      rw [hW]
      exact (xi2_u rfl hI.2.1)
    have k3 : XI3 W := by
      rw [hW]
      exact (xi3_u rfl hI.2.2.1)
    have k_xY1 : xY1 W := by
      rw [hW]
      exact (uxY1 rfl hI.2.2.2.1.1)
    have k_xY2 : xY2 W := by
      rw [hW]
      exact (uxY2 rfl hI.2.2.2.1.2.1)
    have k_xY3 : xY3 W := by
      rw [hW]
      exact (uxY3 rfl hI.2.2.2.1.2.2.1)
    have k_xZ1 : xZ1 W := by
      rw [hW]
      exact (uxZ1 rfl hI.2.2.2.1.2.2.2.1)
    have k_xZ2 : xZ2 W := by
      have r91_972 : W 91 972 = M 91 972 := by rw [hW, sU_ne (fun z => by omega)]
      have r91_973 : W 91 973 = M 91 973 := by rw [hW, sU_ne (fun z => by omega)]
      have r91_987 : W 91 987 = M 91 987 := by rw [hW, sU_ne (fun z => by omega)]
      have r91_988 : W 91 988 = M 91 988 := by rw [hW, sU_ne (fun z => by omega)]
      have r91_989 : W 91 989 = 1 * ρ 0 + 0 := by rw [hW, sU_at]
      have r93_17 : W 93 17 = M 93 17 := by rw [hW, sU_ne (fun z => by omega)]
      have c110 : ∀ k, W 110 k = M 110 k := fun k => by rw [hW, sU_ne (fun z => by omega)]
      have c111 : ∀ k, W 111 k = M 111 k := fun k => by rw [hW, sU_ne (fun z => by omega)]
      unfold xZ2
      rw [r91_972, r91_973, r91_987, r91_988, r91_989, r93_17, c110, c111]
      exact ⟨qxZ2.1, qxZ2.2.1, qxZ2.2.2.1, qxZ2.2.2.2.1, fun _ => by unfold xkV; omega⟩
    have k_xZ3 : xZ3 W := by
      rw [hW]
      exact (uxZ3 rfl hI.2.2.2.1.2.2.2.2.2.1)
    have k_xZ4 : xZ4 W := by
      rw [hW]
      exact (uxZ4 rfl hI.2.2.2.1.2.2.2.2.2.2.1)
    have k_xZ5 : xZ5 W := by
      rw [hW]
      exact (uxZ5 rfl hI.2.2.2.1.2.2.2.2.2.2.2.1)
    have k_xZ6 : xZ6 W := by
      rw [hW]
      exact (uxZ6 rfl hI.2.2.2.1.2.2.2.2.2.2.2.2.1)
    have k_xZ7 : xZ7 W := by
      rw [hW]
      exact (uxZ7 rfl hI.2.2.2.1.2.2.2.2.2.2.2.2.2.1)
    have k_xZ8 : xZ8 W := by
      rw [hW]
      exact (uxZ8 rfl hI.2.2.2.1.2.2.2.2.2.2.2.2.2.2.1)
    have k_xZ9 : xZ9 W := by
      rw [hW]
      exact (uxZ9 rfl hI.2.2.2.1.2.2.2.2.2.2.2.2.2.2.2.1)
    have k_xZa : xZa W := by
      rw [hW]
      exact (uxZa rfl hI.2.2.2.1.2.2.2.2.2.2.2.2.2.2.2.2.1)
    have k_xZb : xZb W := by
      rw [hW]
      exact (uxZb rfl hI.2.2.2.1.2.2.2.2.2.2.2.2.2.2.2.2.2.1)
    have k_xT1 : xT1 W := by
      rw [hW]
      exact (uxT1 rfl hI.2.2.2.1.2.2.2.2.2.2.2.2.2.2.2.2.2.2)
    have kXA : XA W := ⟨k_xY1, k_xY2, k_xY3, k_xZ1, k_xZ2, k_xZ3, k_xZ4, k_xZ5, k_xZ6, k_xZ7, k_xZ8, k_xZ9, k_xZa, k_xZb, k_xT1⟩
    have kXB : XB W := by
      rw [hW]
      exact (uXB rfl hI.2.2.2.2)
    exact ⟨base, k2, k3, kXA, kXB⟩
-- kMore
def xr_43 : qRu := (5, [[(-2, 0), (1, 1)], [(2, 0), (-1, 1)], [(-261, 0), (1, 2)]], [(91, 972, [(1, 1)]), (91, 973, [(1, 2)]), (91, 987, [(1, 3)]), (91, 988, [(1, 4)])], [], [(91, 989, [(1, 0)])], [[(1, 0), (1, 3)], [(-1, 0), (-1, 3)], [(-2, 0), (1, 4)], [(2, 0), (-1, 4)]])
theorem xo_43 : qRok xr_43 := by
  intro ρ M h0 hf hm hI
  have f0 := hf [(-2, 0), (1, 1)] (by decide)
  have f1 := hf [(2, 0), (-1, 1)] (by decide)
  have f2 := hf [(-261, 0), (1, 2)] (by decide)
  simp only [qD, h0] at f0 f1 f2
  have m0 : M 91 972 = 1 * ρ 1 + 0 := hm (91, 972, [(1, 1)]) (by decide)
  have m1 : M 91 973 = 1 * ρ 2 + 0 := hm (91, 973, [(1, 2)]) (by decide)
  have m2 : M 91 987 = 1 * ρ 3 + 0 := hm (91, 987, [(1, 3)]) (by decide)
  have m3 : M 91 988 = 1 * ρ 4 + 0 := hm (91, 988, [(1, 4)]) (by decide)
  have qxZ2 := hI.2.2.2.1.2.2.2.2.1
  have hE := qxZ2.2.2.1
  have hN := qxZ2.2.2.2.1
  unfold xkE at hE
  unfold xkN at hN
  rw [if_pos (by omega), if_neg (by omega)] at hE
  rw [if_pos (by omega), if_neg (by omega)] at hN
  refine ⟨ρ, fun _ _ => rfl, fun f h => ?_, ?_⟩
  · have h : f ∈ ([[(1, 0), (1, 3)], [(-1, 0), (-1, 3)], [(-2, 0), (1, 4)], [(2, 0), (-1, 4)]] : List qF) := h
    simp only [List.mem_cons, List.not_mem_nil, or_false] at h
    rcases h with rfl | rfl | rfl | rfl
    · show 0 ≤ 1 * ρ 0 + (1 * ρ 3 + 0)
      (try rw [h0]); omega
    · show 0 ≤ -1 * ρ 0 + (-1 * ρ 3 + 0)
      (try rw [h0]); omega
    · show 0 ≤ -2 * ρ 0 + (1 * ρ 4 + 0)
      (try rw [h0]); omega
    · show 0 ≤ 2 * ρ 0 + (-1 * ρ 4 + 0)
      (try rw [h0]); omega
  · show sI (sU M 91 989 (1 * ρ 0 + 0))
    obtain ⟨W, hW⟩ : ∃ W, W = (sU M 91 989 (1 * ρ 0 + 0)) := ⟨_, rfl⟩
    rw [← hW]
    have base : sI0 W := by
      rw [hW]
      exact (si_u0 hI.1 (fun r hr => by cases hr))
    have k2 : XI2 W := by
      rw [hW]
      exact (xi2_u rfl hI.2.1)
    have k3 : XI3 W := by
      rw [hW]
      exact (xi3_u rfl hI.2.2.1)
    have k_xY1 : xY1 W := by
      rw [hW]
      exact (uxY1 rfl hI.2.2.2.1.1)
    have k_xY2 : xY2 W := by
      rw [hW]
      exact (uxY2 rfl hI.2.2.2.1.2.1)
    have k_xY3 : xY3 W := by
      rw [hW]
      exact (uxY3 rfl hI.2.2.2.1.2.2.1)
    have k_xZ1 : xZ1 W := by
      rw [hW]
      exact (uxZ1 rfl hI.2.2.2.1.2.2.2.1)
    have k_xZ2 : xZ2 W := by
      have r91_972 : W 91 972 = M 91 972 := by rw [hW, sU_ne (fun z => by omega)]
      have r91_973 : W 91 973 = M 91 973 := by rw [hW, sU_ne (fun z => by omega)]
      have r91_987 : W 91 987 = M 91 987 := by rw [hW, sU_ne (fun z => by omega)]
      have r91_988 : W 91 988 = M 91 988 := by rw [hW, sU_ne (fun z => by omega)]
      have r91_989 : W 91 989 = 1 * ρ 0 + 0 := by rw [hW, sU_at]
      have r93_17 : W 93 17 = M 93 17 := by rw [hW, sU_ne (fun z => by omega)]
      have c110 : ∀ k, W 110 k = M 110 k := fun k => by rw [hW, sU_ne (fun z => by omega)]
      have c111 : ∀ k, W 111 k = M 111 k := fun k => by rw [hW, sU_ne (fun z => by omega)]
      unfold xZ2
      rw [r91_972, r91_973, r91_987, r91_988, r91_989, r93_17, c110, c111]
      exact ⟨qxZ2.1, qxZ2.2.1, qxZ2.2.2.1, qxZ2.2.2.2.1, fun _ => by unfold xkV; omega⟩
    have k_xZ3 : xZ3 W := by
      rw [hW]
      exact (uxZ3 rfl hI.2.2.2.1.2.2.2.2.2.1)
    have k_xZ4 : xZ4 W := by
      rw [hW]
      exact (uxZ4 rfl hI.2.2.2.1.2.2.2.2.2.2.1)
    have k_xZ5 : xZ5 W := by
      rw [hW]
      exact (uxZ5 rfl hI.2.2.2.1.2.2.2.2.2.2.2.1)
    have k_xZ6 : xZ6 W := by
      rw [hW]
      exact (uxZ6 rfl hI.2.2.2.1.2.2.2.2.2.2.2.2.1)
    have k_xZ7 : xZ7 W := by
      rw [hW]
      exact (uxZ7 rfl hI.2.2.2.1.2.2.2.2.2.2.2.2.2.1)
    have k_xZ8 : xZ8 W := by
      rw [hW]
      exact (uxZ8 rfl hI.2.2.2.1.2.2.2.2.2.2.2.2.2.2.1)
    have k_xZ9 : xZ9 W := by
      rw [hW]
      exact (uxZ9 rfl hI.2.2.2.1.2.2.2.2.2.2.2.2.2.2.2.1)
    have k_xZa : xZa W := by
      rw [hW]
      exact (uxZa rfl hI.2.2.2.1.2.2.2.2.2.2.2.2.2.2.2.2.1)
    have k_xZb : xZb W := by
      rw [hW]
      exact (uxZb rfl hI.2.2.2.1.2.2.2.2.2.2.2.2.2.2.2.2.2.1)
    have k_xT1 : xT1 W := by
      rw [hW]
      exact (uxT1 rfl hI.2.2.2.1.2.2.2.2.2.2.2.2.2.2.2.2.2.2)
    have kXA : XA W := ⟨k_xY1, k_xY2, k_xY3, k_xZ1, k_xZ2, k_xZ3, k_xZ4, k_xZ5, k_xZ6, k_xZ7, k_xZ8, k_xZ9, k_xZa, k_xZb, k_xT1⟩
    have kXB : XB W := by
      rw [hW]
      exact (uXB rfl hI.2.2.2.2)
    exact ⟨base, k2, k3, kXA, kXB⟩
-- kLess
def xr_44 : qRu := (5, [[(-2, 0), (1, 1)], [(2, 0), (-1, 1)], [(259, 0), (-1, 2)]], [(91, 972, [(1, 1)]), (91, 973, [(1, 2)]), (91, 987, [(1, 3)]), (91, 988, [(1, 4)])], [], [(91, 989, [(1, 0)])], [[(1, 0), (1, 3)], [(-1, 0), (-1, 3)], [(-2, 0), (1, 4)], [(2, 0), (-1, 4)]])
theorem xo_44 : qRok xr_44 := by
  intro ρ M h0 hf hm hI
  have f0 := hf [(-2, 0), (1, 1)] (by decide)
  have f1 := hf [(2, 0), (-1, 1)] (by decide)
  have f2 := hf [(259, 0), (-1, 2)] (by decide)
  simp only [qD, h0] at f0 f1 f2
  have m0 : M 91 972 = 1 * ρ 1 + 0 := hm (91, 972, [(1, 1)]) (by decide)
  have m1 : M 91 973 = 1 * ρ 2 + 0 := hm (91, 973, [(1, 2)]) (by decide)
  have m2 : M 91 987 = 1 * ρ 3 + 0 := hm (91, 987, [(1, 3)]) (by decide)
  have m3 : M 91 988 = 1 * ρ 4 + 0 := hm (91, 988, [(1, 4)]) (by decide)
  have qxZ2 := hI.2.2.2.1.2.2.2.2.1
  have hE := qxZ2.2.2.1
  have hN := qxZ2.2.2.2.1
  unfold xkE at hE
  unfold xkN at hN
  rw [if_pos (by omega), if_neg (by omega)] at hE
  rw [if_pos (by omega), if_neg (by omega)] at hN
  refine ⟨ρ, fun _ _ => rfl, fun f h => ?_, ?_⟩
  · have h : f ∈ ([[(1, 0), (1, 3)], [(-1, 0), (-1, 3)], [(-2, 0), (1, 4)], [(2, 0), (-1, 4)]] : List qF) := h
    simp only [List.mem_cons, List.not_mem_nil, or_false] at h
    rcases h with rfl | rfl | rfl | rfl
    · show 0 ≤ 1 * ρ 0 + (1 * ρ 3 + 0)
      (try rw [h0]); omega
    · show 0 ≤ -1 * ρ 0 + (-1 * ρ 3 + 0)
      (try rw [h0]); omega
    · show 0 ≤ -2 * ρ 0 + (1 * ρ 4 + 0)
      (try rw [h0]); omega
    · show 0 ≤ 2 * ρ 0 + (-1 * ρ 4 + 0)
      (try rw [h0]); omega
  · show sI (sU M 91 989 (1 * ρ 0 + 0))
    obtain ⟨W, hW⟩ : ∃ W, W = (sU M 91 989 (1 * ρ 0 + 0)) := ⟨_, rfl⟩
    rw [← hW]
    have base : sI0 W := by
      rw [hW]
      exact (si_u0 hI.1 (fun r hr => by cases hr))
    have k2 : XI2 W := by
      rw [hW]
      exact (xi2_u rfl hI.2.1)
    have k3 : XI3 W := by
      rw [hW]
      exact (xi3_u rfl hI.2.2.1)
    have k_xY1 : xY1 W := by
      rw [hW]
      exact (uxY1 rfl hI.2.2.2.1.1)
    have k_xY2 : xY2 W := by
      rw [hW]
      exact (uxY2 rfl hI.2.2.2.1.2.1)
    have k_xY3 : xY3 W := by
      rw [hW]
      exact (uxY3 rfl hI.2.2.2.1.2.2.1)
    have k_xZ1 : xZ1 W := by
      rw [hW]
      exact (uxZ1 rfl hI.2.2.2.1.2.2.2.1)
    have k_xZ2 : xZ2 W := by
      have r91_972 : W 91 972 = M 91 972 := by rw [hW, sU_ne (fun z => by omega)]
      have r91_973 : W 91 973 = M 91 973 := by rw [hW, sU_ne (fun z => by omega)]
      have r91_987 : W 91 987 = M 91 987 := by rw [hW, sU_ne (fun z => by omega)]
      have r91_988 : W 91 988 = M 91 988 := by rw [hW, sU_ne (fun z => by omega)]
      have r91_989 : W 91 989 = 1 * ρ 0 + 0 := by rw [hW, sU_at]
      have r93_17 : W 93 17 = M 93 17 := by rw [hW, sU_ne (fun z => by omega)]
      have c110 : ∀ k, W 110 k = M 110 k := fun k => by rw [hW, sU_ne (fun z => by omega)]
      have c111 : ∀ k, W 111 k = M 111 k := fun k => by rw [hW, sU_ne (fun z => by omega)]
      unfold xZ2
      rw [r91_972, r91_973, r91_987, r91_988, r91_989, r93_17, c110, c111]
      exact ⟨qxZ2.1, qxZ2.2.1, qxZ2.2.2.1, qxZ2.2.2.2.1, fun _ => by unfold xkV; omega⟩
    have k_xZ3 : xZ3 W := by
      rw [hW]
      exact (uxZ3 rfl hI.2.2.2.1.2.2.2.2.2.1)
    have k_xZ4 : xZ4 W := by
      rw [hW]
      exact (uxZ4 rfl hI.2.2.2.1.2.2.2.2.2.2.1)
    have k_xZ5 : xZ5 W := by
      rw [hW]
      exact (uxZ5 rfl hI.2.2.2.1.2.2.2.2.2.2.2.1)
    have k_xZ6 : xZ6 W := by
      rw [hW]
      exact (uxZ6 rfl hI.2.2.2.1.2.2.2.2.2.2.2.2.1)
    have k_xZ7 : xZ7 W := by
      rw [hW]
      exact (uxZ7 rfl hI.2.2.2.1.2.2.2.2.2.2.2.2.2.1)
    have k_xZ8 : xZ8 W := by
      rw [hW]
      exact (uxZ8 rfl hI.2.2.2.1.2.2.2.2.2.2.2.2.2.2.1)
    have k_xZ9 : xZ9 W := by
      rw [hW]
      exact (uxZ9 rfl hI.2.2.2.1.2.2.2.2.2.2.2.2.2.2.2.1)
    have k_xZa : xZa W := by
      rw [hW]
      exact (uxZa rfl hI.2.2.2.1.2.2.2.2.2.2.2.2.2.2.2.2.1)
    have k_xZb : xZb W := by
      rw [hW]
      exact (uxZb rfl hI.2.2.2.1.2.2.2.2.2.2.2.2.2.2.2.2.2.1)
    have k_xT1 : xT1 W := by
      rw [hW]
      exact (uxT1 rfl hI.2.2.2.1.2.2.2.2.2.2.2.2.2.2.2.2.2.2)
    have kXA : XA W := ⟨k_xY1, k_xY2, k_xY3, k_xZ1, k_xZ2, k_xZ3, k_xZ4, k_xZ5, k_xZ6, k_xZ7, k_xZ8, k_xZ9, k_xZa, k_xZb, k_xT1⟩
    have kXB : XB W := by
      rw [hW]
      exact (uXB rfl hI.2.2.2.2)
    exact ⟨base, k2, k3, kXA, kXB⟩
-- knot
def xr_45 : qRu := (6, [[(-1, 0), (-1, 1), (1, 2)], [(1, 0), (1, 1), (-1, 2)], [(63, 0), (-1, 1)], [(1, 3), (-1, 5)]], [(93, 17, [(1, 1)]), (91, 971, [(1, 3)]), (91, 987, [(1, 4)]), (91, 988, [(1, 5)]), (91, 989, [(1, 0)])], [(93, [(17, 0)], [(1, 2)])], [(91, 971, [(1, 3), (1, 4)]), (91, 972, [(1, 6)]), (91, 973, [(1, 7)]), (91, 987, [(1, 8)]), (91, 988, [(1, 9)]), (91, 989, [])], [])
theorem xo_45 : qRok xr_45 := by
  intro ρ M h0 hf hm hI
  have f0 := hf [(-1, 0), (-1, 1), (1, 2)] (by decide)
  have f1 := hf [(1, 0), (1, 1), (-1, 2)] (by decide)
  have f2 := hf [(63, 0), (-1, 1)] (by decide)
  have f3 := hf [(1, 3), (-1, 5)] (by decide)
  simp only [qD, h0] at f0 f1 f2 f3
  have m0 : M 93 17 = 1 * ρ 1 + 0 := hm (93, 17, [(1, 1)]) (by decide)
  have m1 : M 91 971 = 1 * ρ 3 + 0 := hm (91, 971, [(1, 3)]) (by decide)
  have m2 : M 91 987 = 1 * ρ 4 + 0 := hm (91, 987, [(1, 4)]) (by decide)
  have m3 : M 91 988 = 1 * ρ 5 + 0 := hm (91, 988, [(1, 5)]) (by decide)
  have m4 : M 91 989 = 1 * ρ 0 + 0 := hm (91, 989, [(1, 0)]) (by decide)
  simp only [h0] at m4
  have qxZ1 := hI.2.2.2.1.2.2.2.1
  have qxZ2 := hI.2.2.2.1.2.2.2.2.1
  have qxZ3 := hI.2.2.2.1.2.2.2.2.2.1
  have hn : (0 : Int) ≤ M 93 17 ∧ M 93 17 ≤ 64 := hI.1 93 17 (0, 64) rfl
  refine ⟨fun a => cond (Nat.blt a 6) (ρ a) (([M 110 (64 + (1 * ρ 2 + 0).toNat), M 111 (64 + (1 * ρ 2 + 0).toNat), xkE (M 110 (64 + (1 * ρ 2 + 0).toNat)) (M 111 (64 + (1 * ρ 2 + 0).toNat)), xkN (M 110 (64 + (1 * ρ 2 + 0).toNat)) (M 111 (64 + (1 * ρ 2 + 0).toNat))] : List Int).getD (a - 6) 0), fun a ha => ?_, fun f h => ?_, ?_⟩
  · show cond (Nat.blt a 6) (ρ a) _ = ρ a
    rw [show Nat.blt a 6 = true from Nat.ble_eq_true_of_le ha]; rfl
  · exact nomatch h
  · show sI (sU (sU (sU (sU (sU (sU (sU M 93 (17 * ρ 0 + 0 : Int).toNat (1 * ρ 2 + 0)) 91 971 (1 * ρ 3 + (1 * ρ 4 + 0))) 91 972 (1 * (M 110 (64 + (1 * ρ 2 + 0).toNat)) + 0)) 91 973 (1 * (M 111 (64 + (1 * ρ 2 + 0).toNat)) + 0)) 91 987 (1 * (xkE (M 110 (64 + (1 * ρ 2 + 0).toNat)) (M 111 (64 + (1 * ρ 2 + 0).toNat))) + 0)) 91 988 (1 * (xkN (M 110 (64 + (1 * ρ 2 + 0).toNat)) (M 111 (64 + (1 * ρ 2 + 0).toNat))) + 0)) 91 989 (0))
    rw [show (17 * ρ 0 + 0 : Int).toNat = 17 by (try rw [h0]); rfl]
    obtain ⟨W, hW⟩ : ∃ W, W = (sU (sU (sU (sU (sU (sU (sU M 93 17 (1 * ρ 2 + 0)) 91 971 (1 * ρ 3 + (1 * ρ 4 + 0))) 91 972 (1 * (M 110 (64 + (1 * ρ 2 + 0).toNat)) + 0)) 91 973 (1 * (M 111 (64 + (1 * ρ 2 + 0).toNat)) + 0)) 91 987 (1 * (xkE (M 110 (64 + (1 * ρ 2 + 0).toNat)) (M 111 (64 + (1 * ρ 2 + 0).toNat))) + 0)) 91 988 (1 * (xkN (M 110 (64 + (1 * ρ 2 + 0).toNat)) (M 111 (64 + (1 * ρ 2 + 0).toNat))) + 0)) 91 989 (0)) := ⟨_, rfl⟩
    rw [← hW]
    have base : sI0 W := by
      rw [hW]
      exact (si_u0 (si_u0 (si_u0 (si_u0 (si_u0 (si_u0 (si_u0 hI.1 (fun r hr => by have hr : some ((0 : Int), (64 : Int)) = some r := hr; cases hr; exact ⟨by show (0 : Int) ≤ _; (try rw [h0]); omega, by show _ ≤ (64 : Int); (try rw [h0]); omega⟩)) (fun r hr => by cases hr)) (fun r hr => by cases hr)) (fun r hr => by cases hr)) (fun r hr => by cases hr)) (fun r hr => by cases hr)) (fun r hr => by cases hr))
    have k2 : XI2 W := by
      rw [hW]
      exact (xi2_u rfl (xi2_u rfl (xi2_u rfl (xi2_u rfl (xi2_u rfl (xi2_u rfl (xi2_u rfl hI.2.1)))))))
    have k3 : XI3 W := by
      rw [hW]
      exact (xi3_u rfl (xi3_u rfl (xi3_u rfl (xi3_u rfl (xi3_u rfl (xi3_u rfl (xi3_u rfl hI.2.2.1)))))))
    have k_xY1 : xY1 W := by
      rw [hW]
      exact (uxY1 rfl (uxY1 rfl (uxY1 rfl (uxY1 rfl (uxY1 rfl (uxY1 rfl (uxY1 rfl hI.2.2.2.1.1)))))))
    have k_xY2 : xY2 W := by
      rw [hW]
      exact (uxY2 rfl (uxY2 rfl (uxY2 rfl (uxY2 rfl (uxY2 rfl (uxY2 rfl (uxY2 rfl hI.2.2.2.1.2.1)))))))
    have k_xY3 : xY3 W := by
      rw [hW]
      exact (uxY3 rfl (uxY3 rfl (uxY3 rfl (uxY3 rfl (uxY3 rfl (uxY3 rfl (uxY3 rfl hI.2.2.2.1.2.2.1)))))))
    have k_xZ1 : xZ1 W := by
      have r91_970 : W 91 970 = M 91 970 := by rw [hW, sU_ne (fun z => by omega), sU_ne (fun z => by omega), sU_ne (fun z => by omega), sU_ne (fun z => by omega), sU_ne (fun z => by omega), sU_ne (fun z => by omega), sU_ne (fun z => by omega)]
      have r91_971 : W 91 971 = 1 * ρ 3 + (1 * ρ 4 + 0) := by rw [hW, sU_ne (fun z => by omega), sU_ne (fun z => by omega), sU_ne (fun z => by omega), sU_ne (fun z => by omega), sU_ne (fun z => by omega), sU_at]
      have r93_17 : W 93 17 = 1 * ρ 2 + 0 := by rw [hW, sU_ne (fun z => by omega), sU_ne (fun z => by omega), sU_ne (fun z => by omega), sU_ne (fun z => by omega), sU_ne (fun z => by omega), sU_ne (fun z => by omega), sU_at]
      have c110 : ∀ k, W 110 k = M 110 k := fun k => by rw [hW, sU_ne (fun z => by omega), sU_ne (fun z => by omega), sU_ne (fun z => by omega), sU_ne (fun z => by omega), sU_ne (fun z => by omega), sU_ne (fun z => by omega), sU_ne (fun z => by omega)]
      have c111 : ∀ k, W 111 k = M 111 k := fun k => by rw [hW, sU_ne (fun z => by omega), sU_ne (fun z => by omega), sU_ne (fun z => by omega), sU_ne (fun z => by omega), sU_ne (fun z => by omega), sU_ne (fun z => by omega), sU_ne (fun z => by omega)]
      obtain ⟨h1, h2, h3, h4⟩ := qxZ1
      obtain ⟨z1, z2, z3, z4, z5⟩ := qxZ2
      unfold xZ1
      rw [r91_970, r91_971, r93_17]
      have em : (1 * ρ 2 + 0).toNat - (M 91 970).toNat = ((M 93 17).toNat - (M 91 970).toNat) + 1 := by omega
      have ei : 64 + (M 91 970).toNat + ((M 93 17).toNat - (M 91 970).toNat) = 64 + (M 93 17).toNat := by omega
      rw [em]
      refine ⟨h1, by omega, ?_, ?_⟩
      · intro j hj
        rw [c110, c111, dp_congr (M := M) (fun k _ _ => ⟨c110 k, c111 k⟩)]
        by_cases hc : j < (M 93 17).toNat - (M 91 970).toNat
        · exact h3 j hc
        · rw [show j = (M 93 17).toNat - (M 91 970).toNat by omega, ei, ← z1, ← z2, ← z4, ← h4]
          exact ⟨by omega, z5 (by omega)⟩
      · rw [dp_s, dp_congr (M := M) (fun k _ _ => ⟨c110 k, c111 k⟩), c110, c111, ei, ← z1, ← z2, ← z3, ← h4]
        omega
    have k_xZ2 : xZ2 W := by
      have r91_972 : W 91 972 = 1 * (M 110 (64 + (1 * ρ 2 + 0).toNat)) + 0 := by rw [hW, sU_ne (fun z => by omega), sU_ne (fun z => by omega), sU_ne (fun z => by omega), sU_ne (fun z => by omega), sU_at]
      have r91_973 : W 91 973 = 1 * (M 111 (64 + (1 * ρ 2 + 0).toNat)) + 0 := by rw [hW, sU_ne (fun z => by omega), sU_ne (fun z => by omega), sU_ne (fun z => by omega), sU_at]
      have r91_987 : W 91 987 = 1 * (xkE (M 110 (64 + (1 * ρ 2 + 0).toNat)) (M 111 (64 + (1 * ρ 2 + 0).toNat))) + 0 := by rw [hW, sU_ne (fun z => by omega), sU_ne (fun z => by omega), sU_at]
      have r91_988 : W 91 988 = 1 * (xkN (M 110 (64 + (1 * ρ 2 + 0).toNat)) (M 111 (64 + (1 * ρ 2 + 0).toNat))) + 0 := by rw [hW, sU_ne (fun z => by omega), sU_at]
      have r91_989 : W 91 989 = 0 := by rw [hW, sU_at]
      have r93_17 : W 93 17 = 1 * ρ 2 + 0 := by rw [hW, sU_ne (fun z => by omega), sU_ne (fun z => by omega), sU_ne (fun z => by omega), sU_ne (fun z => by omega), sU_ne (fun z => by omega), sU_ne (fun z => by omega), sU_at]
      have c110 : ∀ k, W 110 k = M 110 k := fun k => by rw [hW, sU_ne (fun z => by omega), sU_ne (fun z => by omega), sU_ne (fun z => by omega), sU_ne (fun z => by omega), sU_ne (fun z => by omega), sU_ne (fun z => by omega), sU_ne (fun z => by omega)]
      have c111 : ∀ k, W 111 k = M 111 k := fun k => by rw [hW, sU_ne (fun z => by omega), sU_ne (fun z => by omega), sU_ne (fun z => by omega), sU_ne (fun z => by omega), sU_ne (fun z => by omega), sU_ne (fun z => by omega), sU_ne (fun z => by omega)]
      unfold xZ2
      rw [r91_972, r91_973, r91_987, r91_988, r91_989, r93_17, c110, c111]
      repeat rw [x10]
      exact ⟨rfl, rfl, rfl, rfl, fun z => absurd z (by decide)⟩
    have k_xZ3 : xZ3 W := by
      have r91_974 : W 91 974 = M 91 974 := by rw [hW, sU_ne (fun z => by omega), sU_ne (fun z => by omega), sU_ne (fun z => by omega), sU_ne (fun z => by omega), sU_ne (fun z => by omega), sU_ne (fun z => by omega), sU_ne (fun z => by omega)]
      have r93_17 : W 93 17 = 1 * ρ 2 + 0 := by rw [hW, sU_ne (fun z => by omega), sU_ne (fun z => by omega), sU_ne (fun z => by omega), sU_ne (fun z => by omega), sU_ne (fun z => by omega), sU_ne (fun z => by omega), sU_at]
      have c108 : ∀ k, W 108 k = M 108 k := fun k => by rw [hW, sU_ne (fun z => by omega), sU_ne (fun z => by omega), sU_ne (fun z => by omega), sU_ne (fun z => by omega), sU_ne (fun z => by omega), sU_ne (fun z => by omega), sU_ne (fun z => by omega)]
      have c109 : ∀ k, W 109 k = M 109 k := fun k => by rw [hW, sU_ne (fun z => by omega), sU_ne (fun z => by omega), sU_ne (fun z => by omega), sU_ne (fun z => by omega), sU_ne (fun z => by omega), sU_ne (fun z => by omega), sU_ne (fun z => by omega)]
      have c110 : ∀ k, W 110 k = M 110 k := fun k => by rw [hW, sU_ne (fun z => by omega), sU_ne (fun z => by omega), sU_ne (fun z => by omega), sU_ne (fun z => by omega), sU_ne (fun z => by omega), sU_ne (fun z => by omega), sU_ne (fun z => by omega)]
      have c111 : ∀ k, W 111 k = M 111 k := fun k => by rw [hW, sU_ne (fun z => by omega), sU_ne (fun z => by omega), sU_ne (fun z => by omega), sU_ne (fun z => by omega), sU_ne (fun z => by omega), sU_ne (fun z => by omega), sU_ne (fun z => by omega)]
      exact xz3_of r91_974 (by rw [r93_17]; omega) (fun k a b => ⟨c108 k, c109 k⟩) (fun k a b => ⟨c110 k, c111 k⟩) qxZ3
    have k_xZ4 : xZ4 W := by
      rw [hW]
      exact (uxZ4 rfl (uxZ4 rfl (uxZ4 rfl (uxZ4 rfl (uxZ4 rfl (uxZ4 rfl (uxZ4 rfl hI.2.2.2.1.2.2.2.2.2.2.1)))))))
    have k_xZ5 : xZ5 W := by
      rw [hW]
      exact (uxZ5 rfl (uxZ5 rfl (uxZ5 rfl (uxZ5 rfl (uxZ5 rfl (uxZ5 rfl (uxZ5 rfl hI.2.2.2.1.2.2.2.2.2.2.2.1)))))))
    have k_xZ6 : xZ6 W := by
      rw [hW]
      exact (uxZ6 rfl (uxZ6 rfl (uxZ6 rfl (uxZ6 rfl (uxZ6 rfl (uxZ6 rfl (uxZ6 rfl hI.2.2.2.1.2.2.2.2.2.2.2.2.1)))))))
    have k_xZ7 : xZ7 W := by
      rw [hW]
      exact (uxZ7 rfl (uxZ7 rfl (uxZ7 rfl (uxZ7 rfl (uxZ7 rfl (uxZ7 rfl (uxZ7 rfl hI.2.2.2.1.2.2.2.2.2.2.2.2.2.1)))))))
    have k_xZ8 : xZ8 W := by
      rw [hW]
      exact (uxZ8 rfl (uxZ8 rfl (uxZ8 rfl (uxZ8 rfl (uxZ8 rfl (uxZ8 rfl (uxZ8 rfl hI.2.2.2.1.2.2.2.2.2.2.2.2.2.2.1)))))))
    have k_xZ9 : xZ9 W := by
      rw [hW]
      exact (uxZ9 rfl (uxZ9 rfl (uxZ9 rfl (uxZ9 rfl (uxZ9 rfl (uxZ9 rfl (uxZ9 rfl hI.2.2.2.1.2.2.2.2.2.2.2.2.2.2.2.1)))))))
    have k_xZa : xZa W := by
      rw [hW]
      exact (uxZa rfl (uxZa rfl (uxZa rfl (uxZa rfl (uxZa rfl (uxZa rfl (uxZa rfl hI.2.2.2.1.2.2.2.2.2.2.2.2.2.2.2.2.1)))))))
    have k_xZb : xZb W := by
      rw [hW]
      exact (uxZb rfl (uxZb rfl (uxZb rfl (uxZb rfl (uxZb rfl (uxZb rfl (uxZb rfl hI.2.2.2.1.2.2.2.2.2.2.2.2.2.2.2.2.2.1)))))))
    have k_xT1 : xT1 W := by
      rw [hW]
      exact (uxT1 rfl (uxT1 rfl (uxT1 rfl (uxT1 rfl (uxT1 rfl (uxT1 rfl (uxT1 rfl hI.2.2.2.1.2.2.2.2.2.2.2.2.2.2.2.2.2.2)))))))
    have kXA : XA W := ⟨k_xY1, k_xY2, k_xY3, k_xZ1, k_xZ2, k_xZ3, k_xZ4, k_xZ5, k_xZ6, k_xZ7, k_xZ8, k_xZ9, k_xZa, k_xZb, k_xT1⟩
    have kXB : XB W := by
      rw [hW]
      exact (uXB rfl (uXB rfl (uXB rfl (uXB rfl (uXB rfl (uXB rfl (uXB rfl hI.2.2.2.2)))))))
    exact ⟨base, k2, k3, kXA, kXB⟩
-- noKnots
def xr_46 : qRu := (1, [], [(91, 974, [])], [(93, [(17, 0)], [])], [(91, 970, []), (91, 971, []), (91, 972, [(1, 1)]), (91, 973, [(1, 2)]), (91, 987, [(1, 3)]), (91, 988, [(1, 4)]), (91, 989, []), (91, 983, [])], [])
theorem xo_46 : qRok xr_46 := by
  intro ρ M h0 hf hm hI
  have m0 : M 91 974 = 0 := hm (91, 974, []) (by decide)
  have qxZ1 := hI.2.2.2.1.2.2.2.1
  have qxZ2 := hI.2.2.2.1.2.2.2.2.1
  have qxZ3 := hI.2.2.2.1.2.2.2.2.2.1
  have qxZb := hI.2.2.2.1.2.2.2.2.2.2.2.2.2.2.2.2.2.1
  refine ⟨fun a => cond (Nat.blt a 1) (ρ a) (([M 110 (64 + (0 : Int).toNat), M 111 (64 + (0 : Int).toNat), xkE (M 110 (64 + (0 : Int).toNat)) (M 111 (64 + (0 : Int).toNat)), xkN (M 110 (64 + (0 : Int).toNat)) (M 111 (64 + (0 : Int).toNat))] : List Int).getD (a - 1) 0), fun a ha => ?_, fun f h => ?_, ?_⟩
  · show cond (Nat.blt a 1) (ρ a) _ = ρ a
    rw [show Nat.blt a 1 = true from Nat.ble_eq_true_of_le ha]; rfl
  · exact nomatch h
  · show sI (sU (sU (sU (sU (sU (sU (sU (sU (sU M 93 (17 * ρ 0 + 0 : Int).toNat (0)) 91 970 (0)) 91 971 (0)) 91 972 (1 * (M 110 (64 + (0 : Int).toNat)) + 0)) 91 973 (1 * (M 111 (64 + (0 : Int).toNat)) + 0)) 91 987 (1 * (xkE (M 110 (64 + (0 : Int).toNat)) (M 111 (64 + (0 : Int).toNat))) + 0)) 91 988 (1 * (xkN (M 110 (64 + (0 : Int).toNat)) (M 111 (64 + (0 : Int).toNat))) + 0)) 91 989 (0)) 91 983 (0))
    rw [show (17 * ρ 0 + 0 : Int).toNat = 17 by (try rw [h0]); rfl]
    obtain ⟨W, hW⟩ : ∃ W, W = (sU (sU (sU (sU (sU (sU (sU (sU (sU M 93 17 (0)) 91 970 (0)) 91 971 (0)) 91 972 (1 * (M 110 (64 + (0 : Int).toNat)) + 0)) 91 973 (1 * (M 111 (64 + (0 : Int).toNat)) + 0)) 91 987 (1 * (xkE (M 110 (64 + (0 : Int).toNat)) (M 111 (64 + (0 : Int).toNat))) + 0)) 91 988 (1 * (xkN (M 110 (64 + (0 : Int).toNat)) (M 111 (64 + (0 : Int).toNat))) + 0)) 91 989 (0)) 91 983 (0)) := ⟨_, rfl⟩
    rw [← hW]
    have base : sI0 W := by
      rw [hW]
      exact (si_u0 (si_u0 (si_u0 (si_u0 (si_u0 (si_u0 (si_u0 (si_u0 (si_u0 hI.1 (fun r hr => by have hr : some ((0 : Int), (64 : Int)) = some r := hr; cases hr; exact ⟨by show (0 : Int) ≤ _; (try rw [h0]); omega, by show _ ≤ (64 : Int); (try rw [h0]); omega⟩)) (fun r hr => by cases hr)) (fun r hr => by cases hr)) (fun r hr => by cases hr)) (fun r hr => by cases hr)) (fun r hr => by cases hr)) (fun r hr => by cases hr)) (fun r hr => by cases hr)) (fun r hr => by cases hr))
    have k2 : XI2 W := by
      rw [hW]
      exact (xi2_u rfl (xi2_u rfl (xi2_u rfl (xi2_u rfl (xi2_u rfl (xi2_u rfl (xi2_u rfl (xi2_u rfl (xi2_u rfl hI.2.1)))))))))
    have k3 : XI3 W := by
      rw [hW]
      exact (xi3_u rfl (xi3_u rfl (xi3_u rfl (xi3_u rfl (xi3_u rfl (xi3_u rfl (xi3_u rfl (xi3_u rfl (xi3_u rfl hI.2.2.1)))))))))
    have k_xY1 : xY1 W := by
      rw [hW]
      exact (uxY1 rfl (uxY1 rfl (uxY1 rfl (uxY1 rfl (uxY1 rfl (uxY1 rfl (uxY1 rfl (uxY1 rfl (uxY1 rfl hI.2.2.2.1.1)))))))))
    have k_xY2 : xY2 W := by
      rw [hW]
      exact (uxY2 rfl (uxY2 rfl (uxY2 rfl (uxY2 rfl (uxY2 rfl (uxY2 rfl (uxY2 rfl (uxY2 rfl (uxY2 rfl hI.2.2.2.1.2.1)))))))))
    have k_xY3 : xY3 W := by
      rw [hW]
      exact (uxY3 rfl (uxY3 rfl (uxY3 rfl (uxY3 rfl (uxY3 rfl (uxY3 rfl (uxY3 rfl (uxY3 rfl (uxY3 rfl hI.2.2.2.1.2.2.1)))))))))
    have k_xZ1 : xZ1 W := by
      have r91_970 : W 91 970 = 0 := by rw [hW, sU_ne (fun z => by omega), sU_ne (fun z => by omega), sU_ne (fun z => by omega), sU_ne (fun z => by omega), sU_ne (fun z => by omega), sU_ne (fun z => by omega), sU_ne (fun z => by omega), sU_at]
      have r91_971 : W 91 971 = 0 := by rw [hW, sU_ne (fun z => by omega), sU_ne (fun z => by omega), sU_ne (fun z => by omega), sU_ne (fun z => by omega), sU_ne (fun z => by omega), sU_ne (fun z => by omega), sU_at]
      have r93_17 : W 93 17 = 0 := by rw [hW, sU_ne (fun z => by omega), sU_ne (fun z => by omega), sU_ne (fun z => by omega), sU_ne (fun z => by omega), sU_ne (fun z => by omega), sU_ne (fun z => by omega), sU_ne (fun z => by omega), sU_ne (fun z => by omega), sU_at]
      have c110 : ∀ k, W 110 k = M 110 k := fun k => by rw [hW, sU_ne (fun z => by omega), sU_ne (fun z => by omega), sU_ne (fun z => by omega), sU_ne (fun z => by omega), sU_ne (fun z => by omega), sU_ne (fun z => by omega), sU_ne (fun z => by omega), sU_ne (fun z => by omega), sU_ne (fun z => by omega)]
      have c111 : ∀ k, W 111 k = M 111 k := fun k => by rw [hW, sU_ne (fun z => by omega), sU_ne (fun z => by omega), sU_ne (fun z => by omega), sU_ne (fun z => by omega), sU_ne (fun z => by omega), sU_ne (fun z => by omega), sU_ne (fun z => by omega), sU_ne (fun z => by omega), sU_ne (fun z => by omega)]
      unfold xZ1
      rw [r91_970, r91_971, r93_17]
      exact ⟨by omega, by omega, fun j hj => absurd hj (by omega), rfl⟩
    have k_xZ2 : xZ2 W := by
      have r91_972 : W 91 972 = 1 * (M 110 (64 + (0 : Int).toNat)) + 0 := by rw [hW, sU_ne (fun z => by omega), sU_ne (fun z => by omega), sU_ne (fun z => by omega), sU_ne (fun z => by omega), sU_ne (fun z => by omega), sU_at]
      have r91_973 : W 91 973 = 1 * (M 111 (64 + (0 : Int).toNat)) + 0 := by rw [hW, sU_ne (fun z => by omega), sU_ne (fun z => by omega), sU_ne (fun z => by omega), sU_ne (fun z => by omega), sU_at]
      have r91_987 : W 91 987 = 1 * (xkE (M 110 (64 + (0 : Int).toNat)) (M 111 (64 + (0 : Int).toNat))) + 0 := by rw [hW, sU_ne (fun z => by omega), sU_ne (fun z => by omega), sU_ne (fun z => by omega), sU_at]
      have r91_988 : W 91 988 = 1 * (xkN (M 110 (64 + (0 : Int).toNat)) (M 111 (64 + (0 : Int).toNat))) + 0 := by rw [hW, sU_ne (fun z => by omega), sU_ne (fun z => by omega), sU_at]
      have r91_989 : W 91 989 = 0 := by rw [hW, sU_ne (fun z => by omega), sU_at]
      have r93_17 : W 93 17 = 0 := by rw [hW, sU_ne (fun z => by omega), sU_ne (fun z => by omega), sU_ne (fun z => by omega), sU_ne (fun z => by omega), sU_ne (fun z => by omega), sU_ne (fun z => by omega), sU_ne (fun z => by omega), sU_ne (fun z => by omega), sU_at]
      have c110 : ∀ k, W 110 k = M 110 k := fun k => by rw [hW, sU_ne (fun z => by omega), sU_ne (fun z => by omega), sU_ne (fun z => by omega), sU_ne (fun z => by omega), sU_ne (fun z => by omega), sU_ne (fun z => by omega), sU_ne (fun z => by omega), sU_ne (fun z => by omega), sU_ne (fun z => by omega)]
      have c111 : ∀ k, W 111 k = M 111 k := fun k => by rw [hW, sU_ne (fun z => by omega), sU_ne (fun z => by omega), sU_ne (fun z => by omega), sU_ne (fun z => by omega), sU_ne (fun z => by omega), sU_ne (fun z => by omega), sU_ne (fun z => by omega), sU_ne (fun z => by omega), sU_ne (fun z => by omega)]
      unfold xZ2
      rw [r91_972, r91_973, r91_987, r91_988, r91_989, r93_17, c110, c111]
      repeat rw [x10]
      exact ⟨rfl, rfl, rfl, rfl, fun z => absurd z (by decide)⟩
    have k_xZ3 : xZ3 W := by
      have r91_974 : W 91 974 = M 91 974 := by rw [hW, sU_ne (fun z => by omega), sU_ne (fun z => by omega), sU_ne (fun z => by omega), sU_ne (fun z => by omega), sU_ne (fun z => by omega), sU_ne (fun z => by omega), sU_ne (fun z => by omega), sU_ne (fun z => by omega), sU_ne (fun z => by omega)]
      have r93_17 : W 93 17 = 0 := by rw [hW, sU_ne (fun z => by omega), sU_ne (fun z => by omega), sU_ne (fun z => by omega), sU_ne (fun z => by omega), sU_ne (fun z => by omega), sU_ne (fun z => by omega), sU_ne (fun z => by omega), sU_ne (fun z => by omega), sU_at]
      have c108 : ∀ k, W 108 k = M 108 k := fun k => by rw [hW, sU_ne (fun z => by omega), sU_ne (fun z => by omega), sU_ne (fun z => by omega), sU_ne (fun z => by omega), sU_ne (fun z => by omega), sU_ne (fun z => by omega), sU_ne (fun z => by omega), sU_ne (fun z => by omega), sU_ne (fun z => by omega)]
      have c109 : ∀ k, W 109 k = M 109 k := fun k => by rw [hW, sU_ne (fun z => by omega), sU_ne (fun z => by omega), sU_ne (fun z => by omega), sU_ne (fun z => by omega), sU_ne (fun z => by omega), sU_ne (fun z => by omega), sU_ne (fun z => by omega), sU_ne (fun z => by omega), sU_ne (fun z => by omega)]
      have c110 : ∀ k, W 110 k = M 110 k := fun k => by rw [hW, sU_ne (fun z => by omega), sU_ne (fun z => by omega), sU_ne (fun z => by omega), sU_ne (fun z => by omega), sU_ne (fun z => by omega), sU_ne (fun z => by omega), sU_ne (fun z => by omega), sU_ne (fun z => by omega), sU_ne (fun z => by omega)]
      have c111 : ∀ k, W 111 k = M 111 k := fun k => by rw [hW, sU_ne (fun z => by omega), sU_ne (fun z => by omega), sU_ne (fun z => by omega), sU_ne (fun z => by omega), sU_ne (fun z => by omega), sU_ne (fun z => by omega), sU_ne (fun z => by omega), sU_ne (fun z => by omega), sU_ne (fun z => by omega)]
      intro h
      rw [r91_974] at h
      omega
    have k_xZ4 : xZ4 W := by
      rw [hW]
      exact (uxZ4 rfl (uxZ4 rfl (uxZ4 rfl (uxZ4 rfl (uxZ4 rfl (uxZ4 rfl (uxZ4 rfl (uxZ4 rfl (uxZ4 rfl hI.2.2.2.1.2.2.2.2.2.2.1)))))))))
    have k_xZ5 : xZ5 W := by
      rw [hW]
      exact (uxZ5 rfl (uxZ5 rfl (uxZ5 rfl (uxZ5 rfl (uxZ5 rfl (uxZ5 rfl (uxZ5 rfl (uxZ5 rfl (uxZ5 rfl hI.2.2.2.1.2.2.2.2.2.2.2.1)))))))))
    have k_xZ6 : xZ6 W := by
      rw [hW]
      exact (uxZ6 rfl (uxZ6 rfl (uxZ6 rfl (uxZ6 rfl (uxZ6 rfl (uxZ6 rfl (uxZ6 rfl (uxZ6 rfl (uxZ6 rfl hI.2.2.2.1.2.2.2.2.2.2.2.2.1)))))))))
    have k_xZ7 : xZ7 W := by
      rw [hW]
      exact (uxZ7 rfl (uxZ7 rfl (uxZ7 rfl (uxZ7 rfl (uxZ7 rfl (uxZ7 rfl (uxZ7 rfl (uxZ7 rfl (uxZ7 rfl hI.2.2.2.1.2.2.2.2.2.2.2.2.2.1)))))))))
    have k_xZ8 : xZ8 W := by
      rw [hW]
      exact (uxZ8 rfl (uxZ8 rfl (uxZ8 rfl (uxZ8 rfl (uxZ8 rfl (uxZ8 rfl (uxZ8 rfl (uxZ8 rfl (uxZ8 rfl hI.2.2.2.1.2.2.2.2.2.2.2.2.2.2.1)))))))))
    have k_xZ9 : xZ9 W := by
      rw [hW]
      exact (uxZ9 rfl (uxZ9 rfl (uxZ9 rfl (uxZ9 rfl (uxZ9 rfl (uxZ9 rfl (uxZ9 rfl (uxZ9 rfl (uxZ9 rfl hI.2.2.2.1.2.2.2.2.2.2.2.2.2.2.2.1)))))))))
    have k_xZa : xZa W := by
      rw [hW]
      exact (uxZa rfl (uxZa rfl (uxZa rfl (uxZa rfl (uxZa rfl (uxZa rfl (uxZa rfl (uxZa rfl (uxZa rfl hI.2.2.2.1.2.2.2.2.2.2.2.2.2.2.2.2.1)))))))))
    have k_xZb : xZb W := by
      have r91_983 : W 91 983 = 0 := by rw [hW, sU_at]
      have r91_970 : W 91 970 = 0 := by rw [hW, sU_ne (fun z => by omega), sU_ne (fun z => by omega), sU_ne (fun z => by omega), sU_ne (fun z => by omega), sU_ne (fun z => by omega), sU_ne (fun z => by omega), sU_ne (fun z => by omega), sU_at]
      have c108 : ∀ k, W 108 k = M 108 k := fun k => by rw [hW, sU_ne (fun z => by omega), sU_ne (fun z => by omega), sU_ne (fun z => by omega), sU_ne (fun z => by omega), sU_ne (fun z => by omega), sU_ne (fun z => by omega), sU_ne (fun z => by omega), sU_ne (fun z => by omega), sU_ne (fun z => by omega)]
      intro h
      rw [r91_983] at h
      omega
    have k_xT1 : xT1 W := by
      rw [hW]
      exact (uxT1 rfl (uxT1 rfl (uxT1 rfl (uxT1 rfl (uxT1 rfl (uxT1 rfl (uxT1 rfl (uxT1 rfl (uxT1 rfl hI.2.2.2.1.2.2.2.2.2.2.2.2.2.2.2.2.2.2)))))))))
    have kXA : XA W := ⟨k_xY1, k_xY2, k_xY3, k_xZ1, k_xZ2, k_xZ3, k_xZ4, k_xZ5, k_xZ6, k_xZ7, k_xZ8, k_xZ9, k_xZa, k_xZb, k_xT1⟩
    have kXB : XB W := by
      rw [hW]
      exact (uXB rfl (uXB rfl (uXB rfl (uXB rfl (uXB rfl (uXB rfl (uXB rfl (uXB rfl (uXB rfl hI.2.2.2.2)))))))))
    exact ⟨base, k2, k3, kXA, kXB⟩
-- lawFrom
def xr_47 : qRu := (4, [[(-2, 0), (1, 1)], [(3, 0), (-1, 1)], [(1, 2), (-1, 3)], [(-1, 2), (1, 3)]], [(93, 17, [(1, 3)])], [(108, [(1, 1)], [(1, 2)])], [(91, 970, [(1, 2)]), (91, 971, []), (91, 983, [(1, 1)]), (91, 976, [])], [])
theorem xo_47 : qRok xr_47 := by
  intro ρ M h0 hf hm hI
  have f0 := hf [(-2, 0), (1, 1)] (by decide)
  have f1 := hf [(3, 0), (-1, 1)] (by decide)
  have f2 := hf [(1, 2), (-1, 3)] (by decide)
  have f3 := hf [(-1, 2), (1, 3)] (by decide)
  simp only [qD, h0] at f0 f1 f2 f3
  have m0 : M 93 17 = 1 * ρ 3 + 0 := hm (93, 17, [(1, 3)]) (by decide)
  have qxZ1 := hI.2.2.2.1.2.2.2.1
  have qxZ3 := hI.2.2.2.1.2.2.2.2.2.1
  have qxZ4 := hI.2.2.2.1.2.2.2.2.2.2.1
  have qxZ5 := hI.2.2.2.1.2.2.2.2.2.2.2.1
  have qxZb := hI.2.2.2.1.2.2.2.2.2.2.2.2.2.2.2.2.2.1
  have hn : (0 : Int) ≤ M 93 17 ∧ M 93 17 ≤ 64 := hI.1 93 17 (0, 64) rfl
  refine ⟨ρ, fun _ _ => rfl, fun f h => ?_, ?_⟩
  · exact nomatch h
  · show sI (sU (sU (sU (sU (sU M 108 (1 * ρ 1 + 0 : Int).toNat (1 * ρ 2 + 0)) 91 970 (1 * ρ 2 + 0)) 91 971 (0)) 91 983 (1 * ρ 1 + 0)) 91 976 (0))
    obtain ⟨W, hW⟩ : ∃ W, W = (sU (sU (sU (sU (sU M 108 (1 * ρ 1 + 0).toNat (1 * ρ 2 + 0)) 91 970 (1 * ρ 2 + 0)) 91 971 (0)) 91 983 (1 * ρ 1 + 0)) 91 976 (0)) := ⟨_, rfl⟩
    rw [← hW]
    have base : sI0 W := by
      rw [hW]
      exact (si_u0 (si_u0 (si_u0 (si_u0 (si_u0 hI.1 (fun r hr => by rw [xt_108 hr]; exact ⟨by show (0 : Int) ≤ _; omega, by show _ ≤ (64 : Int); omega⟩)) (fun r hr => by cases hr)) (fun r hr => by cases hr)) (fun r hr => by cases hr)) (fun r hr => by cases hr))
    have k2 : XI2 W := by
      rw [hW]
      exact (xi2_u rfl (xi2_u rfl (xi2_u rfl (xi2_u rfl (xi2_u (sinc_ok rfl _) hI.2.1)))))
    have k3 : XI3 W := by
      rw [hW]
      exact (xi3_u rfl (xi3_u rfl (xi3_u rfl (xi3_u rfl (xi3_u (sinc_ok rfl _) hI.2.2.1)))))
    have k_xY1 : xY1 W := by
      rw [hW]
      exact (uxY1 rfl (uxY1 rfl (uxY1 rfl (uxY1 rfl (uxY1 (sinc_ok rfl _) hI.2.2.2.1.1)))))
    have k_xY2 : xY2 W := by
      rw [hW]
      exact (uxY2 rfl (uxY2 rfl (uxY2 rfl (uxY2 rfl (uxY2 (sinc_ok rfl _) hI.2.2.2.1.2.1)))))
    have k_xY3 : xY3 W := by
      rw [hW]
      exact (uxY3 rfl (uxY3 rfl (uxY3 rfl (uxY3 rfl (uxY3 (sinc_ok rfl _) hI.2.2.2.1.2.2.1)))))
    have k_xZ1 : xZ1 W := by
      have r91_970 : W 91 970 = 1 * ρ 2 + 0 := by rw [hW, sU_ne (fun z => by omega), sU_ne (fun z => by omega), sU_ne (fun z => by omega), sU_at]
      have r91_971 : W 91 971 = 0 := by rw [hW, sU_ne (fun z => by omega), sU_ne (fun z => by omega), sU_at]
      have r93_17 : W 93 17 = M 93 17 := by rw [hW, sU_ne (fun z => by omega), sU_ne (fun z => by omega), sU_ne (fun z => by omega), sU_ne (fun z => by omega), sU_ne (fun z => by omega)]
      have c110 : ∀ k, W 110 k = M 110 k := fun k => by rw [hW, sU_ne (fun z => by omega), sU_ne (fun z => by omega), sU_ne (fun z => by omega), sU_ne (fun z => by omega), sU_ne (fun z => by omega)]
      have c111 : ∀ k, W 111 k = M 111 k := fun k => by rw [hW, sU_ne (fun z => by omega), sU_ne (fun z => by omega), sU_ne (fun z => by omega), sU_ne (fun z => by omega), sU_ne (fun z => by omega)]
      unfold xZ1
      rw [r91_970, r91_971, r93_17]
      rw [show (M 93 17).toNat - (1 * ρ 2 + 0).toNat = 0 by omega]
      exact ⟨by omega, by omega, fun j hj => absurd hj (by omega), rfl⟩
    have k_xZ2 : xZ2 W := by
      rw [hW]
      exact (uxZ2 rfl (uxZ2 rfl (uxZ2 rfl (uxZ2 rfl (uxZ2 (sinc_ok rfl _) hI.2.2.2.1.2.2.2.2.1)))))
    have k_xZ3 : xZ3 W := by
      have r91_974 : W 91 974 = M 91 974 := by rw [hW, sU_ne (fun z => by omega), sU_ne (fun z => by omega), sU_ne (fun z => by omega), sU_ne (fun z => by omega), sU_ne (fun z => by omega)]
      have r93_17 : W 93 17 = M 93 17 := by rw [hW, sU_ne (fun z => by omega), sU_ne (fun z => by omega), sU_ne (fun z => by omega), sU_ne (fun z => by omega), sU_ne (fun z => by omega)]
      have c108 : ∀ k : Nat, k ≠ (1 * ρ 1 + 0).toNat → W 108 k = M 108 k := fun k hk => by rw [hW, sU_ne (fun z => by omega), sU_ne (fun z => by omega), sU_ne (fun z => by omega), sU_ne (fun z => by omega), sU_ne (fun z => by omega)]
      have a108 : W 108 (1 * ρ 1 + 0).toNat = 1 * ρ 2 + 0 := by rw [hW, sU_ne (fun z => by omega), sU_ne (fun z => by omega), sU_ne (fun z => by omega), sU_ne (fun z => by omega), sU_at]
      have c109 : ∀ k, W 109 k = M 109 k := fun k => by rw [hW, sU_ne (fun z => by omega), sU_ne (fun z => by omega), sU_ne (fun z => by omega), sU_ne (fun z => by omega), sU_ne (fun z => by omega)]
      have c110 : ∀ k, W 110 k = M 110 k := fun k => by rw [hW, sU_ne (fun z => by omega), sU_ne (fun z => by omega), sU_ne (fun z => by omega), sU_ne (fun z => by omega), sU_ne (fun z => by omega)]
      have c111 : ∀ k, W 111 k = M 111 k := fun k => by rw [hW, sU_ne (fun z => by omega), sU_ne (fun z => by omega), sU_ne (fun z => by omega), sU_ne (fun z => by omega), sU_ne (fun z => by omega)]
      intro a k b c
      rw [r91_974] at a
      obtain ⟨p, q⟩ := qxZ3 a k b c
      rw [r93_17, c109]
      by_cases hc : k = (1 * ρ 1 + 0).toNat
      · rw [hc] at p ⊢
        rw [a108]
        exact ⟨p, fun j hj => absurd hj (by omega)⟩
      · rw [c108 k hc]
        exact ⟨p, ol_congr (fun j _ _ => ⟨c110 j, c111 j⟩) q⟩
    have k_xZ4 : xZ4 W := by
      have r91_975 : W 91 975 = M 91 975 := by rw [hW, sU_ne (fun z => by omega), sU_ne (fun z => by omega), sU_ne (fun z => by omega), sU_ne (fun z => by omega), sU_ne (fun z => by omega)]
      have c108 : ∀ k : Nat, k ≠ (1 * ρ 1 + 0).toNat → W 108 k = M 108 k := fun k hk => by rw [hW, sU_ne (fun z => by omega), sU_ne (fun z => by omega), sU_ne (fun z => by omega), sU_ne (fun z => by omega), sU_ne (fun z => by omega)]
      have a108 : W 108 (1 * ρ 1 + 0).toNat = 1 * ρ 2 + 0 := by rw [hW, sU_ne (fun z => by omega), sU_ne (fun z => by omega), sU_ne (fun z => by omega), sU_ne (fun z => by omega), sU_at]
      have c109 : ∀ k, W 109 k = M 109 k := fun k => by rw [hW, sU_ne (fun z => by omega), sU_ne (fun z => by omega), sU_ne (fun z => by omega), sU_ne (fun z => by omega), sU_ne (fun z => by omega)]
      have c110 : ∀ k, W 110 k = M 110 k := fun k => by rw [hW, sU_ne (fun z => by omega), sU_ne (fun z => by omega), sU_ne (fun z => by omega), sU_ne (fun z => by omega), sU_ne (fun z => by omega)]
      have c111 : ∀ k, W 111 k = M 111 k := fun k => by rw [hW, sU_ne (fun z => by omega), sU_ne (fun z => by omega), sU_ne (fun z => by omega), sU_ne (fun z => by omega), sU_ne (fun z => by omega)]
      exact xz4_of hI.1 r91_975 (fun k a => ⟨c108 k (by omega), c109 k⟩) (fun k a => ⟨c110 k, c111 k⟩) qxZ4
    have k_xZ5 : xZ5 W := by
      have r91_976 : W 91 976 = 0 := by rw [hW, sU_at]
      have c108 : ∀ k : Nat, k ≠ (1 * ρ 1 + 0).toNat → W 108 k = M 108 k := fun k hk => by rw [hW, sU_ne (fun z => by omega), sU_ne (fun z => by omega), sU_ne (fun z => by omega), sU_ne (fun z => by omega), sU_ne (fun z => by omega)]
      have a108 : W 108 (1 * ρ 1 + 0).toNat = 1 * ρ 2 + 0 := by rw [hW, sU_ne (fun z => by omega), sU_ne (fun z => by omega), sU_ne (fun z => by omega), sU_ne (fun z => by omega), sU_at]
      intro j hj
      rw [r91_976] at hj
      omega
    have k_xZ6 : xZ6 W := by
      rw [hW]
      exact (uxZ6 rfl (uxZ6 rfl (uxZ6 rfl (uxZ6 rfl (uxZ6 (sinc_ok rfl _) hI.2.2.2.1.2.2.2.2.2.2.2.2.1)))))
    have k_xZ7 : xZ7 W := by
      rw [hW]
      exact (uxZ7 rfl (uxZ7 rfl (uxZ7 rfl (uxZ7 rfl (uxZ7 (sinc_ok rfl _) hI.2.2.2.1.2.2.2.2.2.2.2.2.2.1)))))
    have k_xZ8 : xZ8 W := by
      rw [hW]
      exact (uxZ8 rfl (uxZ8 rfl (uxZ8 rfl (uxZ8 rfl (uxZ8 (sinc_ok rfl _) hI.2.2.2.1.2.2.2.2.2.2.2.2.2.2.1)))))
    have k_xZ9 : xZ9 W := by
      rw [hW]
      exact (uxZ9 rfl (uxZ9 rfl (uxZ9 rfl (uxZ9 rfl (uxZ9 (sinc_ok rfl _) hI.2.2.2.1.2.2.2.2.2.2.2.2.2.2.2.1)))))
    have k_xZa : xZa W := by
      rw [hW]
      exact (uxZa rfl (uxZa rfl (uxZa rfl (uxZa rfl (uxZa (sinc_ok rfl _) hI.2.2.2.1.2.2.2.2.2.2.2.2.2.2.2.2.1)))))
    have k_xZb : xZb W := by
      have r91_983 : W 91 983 = 1 * ρ 1 + 0 := by rw [hW, sU_ne (fun z => by omega), sU_at]
      have r91_970 : W 91 970 = 1 * ρ 2 + 0 := by rw [hW, sU_ne (fun z => by omega), sU_ne (fun z => by omega), sU_ne (fun z => by omega), sU_at]
      have c108 : ∀ k : Nat, k ≠ (1 * ρ 1 + 0).toNat → W 108 k = M 108 k := fun k hk => by rw [hW, sU_ne (fun z => by omega), sU_ne (fun z => by omega), sU_ne (fun z => by omega), sU_ne (fun z => by omega), sU_ne (fun z => by omega)]
      have a108 : W 108 (1 * ρ 1 + 0).toNat = 1 * ρ 2 + 0 := by rw [hW, sU_ne (fun z => by omega), sU_ne (fun z => by omega), sU_ne (fun z => by omega), sU_ne (fun z => by omega), sU_at]
      intro a b
      rw [r91_983, r91_970]
      exact a108
    have k_xT1 : xT1 W := by
      rw [hW]
      exact (uxT1 rfl (uxT1 rfl (uxT1 rfl (uxT1 rfl (uxT1 (sinc_ok rfl _) hI.2.2.2.1.2.2.2.2.2.2.2.2.2.2.2.2.2.2)))))
    have kXA : XA W := ⟨k_xY1, k_xY2, k_xY3, k_xZ1, k_xZ2, k_xZ3, k_xZ4, k_xZ5, k_xZ6, k_xZ7, k_xZ8, k_xZ9, k_xZa, k_xZb, k_xT1⟩
    have kXB : XB W := by
      rw [hW]
      exact (uXB rfl (uXB rfl (uXB rfl (uXB rfl (uXB (sinc_ok rfl _) hI.2.2.2.2)))))
    exact ⟨base, k2, k3, kXA, kXB⟩
-- lawTo
def xr_48 : qRu := (5, [[(-2, 0), (1, 1)], [(3, 0), (-1, 1)], [(1, 1), (-1, 3)], [(-1, 1), (1, 3)], [(1, 2), (-1, 4)], [(-1, 2), (1, 4)]], [(93, 17, [(1, 4)]), (91, 983, [(1, 3)])], [(109, [(1, 1)], [(1, 2)])], [(91, 977, [])], [])
theorem xo_48 : qRok xr_48 := by
  intro ρ M h0 hf hm hI
  have f0 := hf [(-2, 0), (1, 1)] (by decide)
  have f1 := hf [(3, 0), (-1, 1)] (by decide)
  have f2 := hf [(1, 1), (-1, 3)] (by decide)
  have f3 := hf [(-1, 1), (1, 3)] (by decide)
  have f4 := hf [(1, 2), (-1, 4)] (by decide)
  have f5 := hf [(-1, 2), (1, 4)] (by decide)
  simp only [qD, h0] at f0 f1 f2 f3 f4 f5
  have m0 : M 93 17 = 1 * ρ 4 + 0 := hm (93, 17, [(1, 4)]) (by decide)
  have m1 : M 91 983 = 1 * ρ 3 + 0 := hm (91, 983, [(1, 3)]) (by decide)
  have qxZ1 := hI.2.2.2.1.2.2.2.1
  have qxZ3 := hI.2.2.2.1.2.2.2.2.2.1
  have qxZ4 := hI.2.2.2.1.2.2.2.2.2.2.1
  have qxZ6 := hI.2.2.2.1.2.2.2.2.2.2.2.2.1
  have qxZb := hI.2.2.2.1.2.2.2.2.2.2.2.2.2.2.2.2.2.1
  have hn : (0 : Int) ≤ M 93 17 ∧ M 93 17 ≤ 64 := hI.1 93 17 (0, 64) rfl
  refine ⟨ρ, fun _ _ => rfl, fun f h => ?_, ?_⟩
  · exact nomatch h
  · show sI (sU (sU M 109 (1 * ρ 1 + 0 : Int).toNat (1 * ρ 2 + 0)) 91 977 (0))
    obtain ⟨W, hW⟩ : ∃ W, W = (sU (sU M 109 (1 * ρ 1 + 0).toNat (1 * ρ 2 + 0)) 91 977 (0)) := ⟨_, rfl⟩
    rw [← hW]
    have base : sI0 W := by
      rw [hW]
      exact (si_u0 (si_u0 hI.1 (fun r hr => by rw [xt_109 hr]; exact ⟨by show (0 : Int) ≤ _; omega, by show _ ≤ (64 : Int); omega⟩)) (fun r hr => by cases hr))
    have k2 : XI2 W := by
      rw [hW]
      exact (xi2_u rfl (xi2_u (sinc_ok rfl _) hI.2.1))
    have k3 : XI3 W := by
      rw [hW]
      exact (xi3_u rfl (xi3_u (sinc_ok rfl _) hI.2.2.1))
    have k_xY1 : xY1 W := by
      rw [hW]
      exact (uxY1 rfl (uxY1 (sinc_ok rfl _) hI.2.2.2.1.1))
    have k_xY2 : xY2 W := by
      rw [hW]
      exact (uxY2 rfl (uxY2 (sinc_ok rfl _) hI.2.2.2.1.2.1))
    have k_xY3 : xY3 W := by
      rw [hW]
      exact (uxY3 rfl (uxY3 (sinc_ok rfl _) hI.2.2.2.1.2.2.1))
    have k_xZ1 : xZ1 W := by
      rw [hW]
      exact (uxZ1 rfl (uxZ1 (sinc_ok rfl _) hI.2.2.2.1.2.2.2.1))
    have k_xZ2 : xZ2 W := by
      rw [hW]
      exact (uxZ2 rfl (uxZ2 (sinc_ok rfl _) hI.2.2.2.1.2.2.2.2.1))
    have k_xZ3 : xZ3 W := by
      have r91_974 : W 91 974 = M 91 974 := by rw [hW, sU_ne (fun z => by omega), sU_ne (fun z => by omega)]
      have r93_17 : W 93 17 = M 93 17 := by rw [hW, sU_ne (fun z => by omega), sU_ne (fun z => by omega)]
      have c108 : ∀ k, W 108 k = M 108 k := fun k => by rw [hW, sU_ne (fun z => by omega), sU_ne (fun z => by omega)]
      have c109 : ∀ k : Nat, k ≠ (1 * ρ 1 + 0).toNat → W 109 k = M 109 k := fun k hk => by rw [hW, sU_ne (fun z => by omega), sU_ne (fun z => by omega)]
      have a109 : W 109 (1 * ρ 1 + 0).toNat = 1 * ρ 2 + 0 := by rw [hW, sU_ne (fun z => by omega), sU_at]
      have c110 : ∀ k, W 110 k = M 110 k := fun k => by rw [hW, sU_ne (fun z => by omega), sU_ne (fun z => by omega)]
      have c111 : ∀ k, W 111 k = M 111 k := fun k => by rw [hW, sU_ne (fun z => by omega), sU_ne (fun z => by omega)]
      intro a k b c
      rw [r91_974] at a
      rw [r93_17, c108]
      by_cases hc : k = (1 * ρ 1 + 0).toNat
      · have hb := qxZb (by omega) (by omega)
        rw [show (M 91 983).toNat = (1 * ρ 1 + 0).toNat by omega] at hb
        rw [hc, a109, hb, show (1 * ρ 2 + 0).toNat = (M 93 17).toNat by omega]
        exact ⟨by omega, ol_congr (fun j _ _ => ⟨c110 j, c111 j⟩) qxZ1.2.2.1⟩
      · obtain ⟨p, q⟩ := qxZ3 a k b c
        rw [c109 k hc]
        exact ⟨p, ol_congr (fun j _ _ => ⟨c110 j, c111 j⟩) q⟩
    have k_xZ4 : xZ4 W := by
      have r91_975 : W 91 975 = M 91 975 := by rw [hW, sU_ne (fun z => by omega), sU_ne (fun z => by omega)]
      have c108 : ∀ k, W 108 k = M 108 k := fun k => by rw [hW, sU_ne (fun z => by omega), sU_ne (fun z => by omega)]
      have c109 : ∀ k : Nat, k ≠ (1 * ρ 1 + 0).toNat → W 109 k = M 109 k := fun k hk => by rw [hW, sU_ne (fun z => by omega), sU_ne (fun z => by omega)]
      have a109 : W 109 (1 * ρ 1 + 0).toNat = 1 * ρ 2 + 0 := by rw [hW, sU_ne (fun z => by omega), sU_at]
      have c110 : ∀ k, W 110 k = M 110 k := fun k => by rw [hW, sU_ne (fun z => by omega), sU_ne (fun z => by omega)]
      have c111 : ∀ k, W 111 k = M 111 k := fun k => by rw [hW, sU_ne (fun z => by omega), sU_ne (fun z => by omega)]
      exact xz4_of hI.1 r91_975 (fun k a => ⟨c108 k, c109 k (by omega)⟩) (fun k a => ⟨c110 k, c111 k⟩) qxZ4
    have k_xZ5 : xZ5 W := by
      rw [hW]
      exact (uxZ5 rfl (uxZ5 (sinc_ok rfl _) hI.2.2.2.1.2.2.2.2.2.2.2.1))
    have k_xZ6 : xZ6 W := by
      have r91_977 : W 91 977 = 0 := by rw [hW, sU_at]
      have c109 : ∀ k : Nat, k ≠ (1 * ρ 1 + 0).toNat → W 109 k = M 109 k := fun k hk => by rw [hW, sU_ne (fun z => by omega), sU_ne (fun z => by omega)]
      have a109 : W 109 (1 * ρ 1 + 0).toNat = 1 * ρ 2 + 0 := by rw [hW, sU_ne (fun z => by omega), sU_at]
      intro j hj
      rw [r91_977] at hj
      omega
    have k_xZ7 : xZ7 W := by
      rw [hW]
      exact (uxZ7 rfl (uxZ7 (sinc_ok rfl _) hI.2.2.2.1.2.2.2.2.2.2.2.2.2.1))
    have k_xZ8 : xZ8 W := by
      rw [hW]
      exact (uxZ8 rfl (uxZ8 (sinc_ok rfl _) hI.2.2.2.1.2.2.2.2.2.2.2.2.2.2.1))
    have k_xZ9 : xZ9 W := by
      rw [hW]
      exact (uxZ9 rfl (uxZ9 (sinc_ok rfl _) hI.2.2.2.1.2.2.2.2.2.2.2.2.2.2.2.1))
    have k_xZa : xZa W := by
      rw [hW]
      exact (uxZa rfl (uxZa (sinc_ok rfl _) hI.2.2.2.1.2.2.2.2.2.2.2.2.2.2.2.2.1))
    have k_xZb : xZb W := by
      rw [hW]
      exact (uxZb rfl (uxZb (sinc_ok rfl _) hI.2.2.2.1.2.2.2.2.2.2.2.2.2.2.2.2.2.1))
    have k_xT1 : xT1 W := by
      rw [hW]
      exact (uxT1 rfl (uxT1 (sinc_ok rfl _) hI.2.2.2.1.2.2.2.2.2.2.2.2.2.2.2.2.2.2))
    have kXA : XA W := ⟨k_xY1, k_xY2, k_xY3, k_xZ1, k_xZ2, k_xZ3, k_xZ4, k_xZ5, k_xZ6, k_xZ7, k_xZ8, k_xZ9, k_xZa, k_xZb, k_xT1⟩
    have kXB : XB W := by
      rw [hW]
      exact (uXB rfl (uXB (sinc_ok rfl _) hI.2.2.2.2))
    exact ⟨base, k2, k3, kXA, kXB⟩
-- noFrom
def xr_49 : qRu := (2, [[(-2, 0), (1, 1)], [(3, 0), (-1, 1)]], [(91, 974, [])], [(108, [(1, 1)], [])], [(91, 983, []), (91, 976, [])], [])
theorem xo_49 : qRok xr_49 := by
  intro ρ M h0 hf hm hI
  have f0 := hf [(-2, 0), (1, 1)] (by decide)
  have f1 := hf [(3, 0), (-1, 1)] (by decide)
  simp only [qD, h0] at f0 f1
  have m0 : M 91 974 = 0 := hm (91, 974, []) (by decide)
  have qxZ3 := hI.2.2.2.1.2.2.2.2.2.1
  have qxZ4 := hI.2.2.2.1.2.2.2.2.2.2.1
  have qxZ5 := hI.2.2.2.1.2.2.2.2.2.2.2.1
  have qxZb := hI.2.2.2.1.2.2.2.2.2.2.2.2.2.2.2.2.2.1
  refine ⟨ρ, fun _ _ => rfl, fun f h => ?_, ?_⟩
  · exact nomatch h
  · show sI (sU (sU (sU M 108 (1 * ρ 1 + 0 : Int).toNat (0)) 91 983 (0)) 91 976 (0))
    obtain ⟨W, hW⟩ : ∃ W, W = (sU (sU (sU M 108 (1 * ρ 1 + 0).toNat (0)) 91 983 (0)) 91 976 (0)) := ⟨_, rfl⟩
    rw [← hW]
    have base : sI0 W := by
      rw [hW]
      exact (si_u0 (si_u0 (si_u0 hI.1 (fun r hr => by rw [xt_108 hr]; exact ⟨by show (0 : Int) ≤ _; omega, by show _ ≤ (64 : Int); omega⟩)) (fun r hr => by cases hr)) (fun r hr => by cases hr))
    have k2 : XI2 W := by
      rw [hW]
      exact (xi2_u rfl (xi2_u rfl (xi2_u (sinc_ok rfl _) hI.2.1)))
    have k3 : XI3 W := by
      rw [hW]
      exact (xi3_u rfl (xi3_u rfl (xi3_u (sinc_ok rfl _) hI.2.2.1)))
    have k_xY1 : xY1 W := by
      rw [hW]
      exact (uxY1 rfl (uxY1 rfl (uxY1 (sinc_ok rfl _) hI.2.2.2.1.1)))
    have k_xY2 : xY2 W := by
      rw [hW]
      exact (uxY2 rfl (uxY2 rfl (uxY2 (sinc_ok rfl _) hI.2.2.2.1.2.1)))
    have k_xY3 : xY3 W := by
      rw [hW]
      exact (uxY3 rfl (uxY3 rfl (uxY3 (sinc_ok rfl _) hI.2.2.2.1.2.2.1)))
    have k_xZ1 : xZ1 W := by
      rw [hW]
      exact (uxZ1 rfl (uxZ1 rfl (uxZ1 (sinc_ok rfl _) hI.2.2.2.1.2.2.2.1)))
    have k_xZ2 : xZ2 W := by
      rw [hW]
      exact (uxZ2 rfl (uxZ2 rfl (uxZ2 (sinc_ok rfl _) hI.2.2.2.1.2.2.2.2.1)))
    have k_xZ3 : xZ3 W := by
      have r91_974 : W 91 974 = M 91 974 := by rw [hW, sU_ne (fun z => by omega), sU_ne (fun z => by omega), sU_ne (fun z => by omega)]
      have r93_17 : W 93 17 = M 93 17 := by rw [hW, sU_ne (fun z => by omega), sU_ne (fun z => by omega), sU_ne (fun z => by omega)]
      have c108 : ∀ k : Nat, k ≠ (1 * ρ 1 + 0).toNat → W 108 k = M 108 k := fun k hk => by rw [hW, sU_ne (fun z => by omega), sU_ne (fun z => by omega), sU_ne (fun z => by omega)]
      have a108 : W 108 (1 * ρ 1 + 0).toNat = 0 := by rw [hW, sU_ne (fun z => by omega), sU_ne (fun z => by omega), sU_at]
      have c109 : ∀ k, W 109 k = M 109 k := fun k => by rw [hW, sU_ne (fun z => by omega), sU_ne (fun z => by omega), sU_ne (fun z => by omega)]
      have c110 : ∀ k, W 110 k = M 110 k := fun k => by rw [hW, sU_ne (fun z => by omega), sU_ne (fun z => by omega), sU_ne (fun z => by omega)]
      have c111 : ∀ k, W 111 k = M 111 k := fun k => by rw [hW, sU_ne (fun z => by omega), sU_ne (fun z => by omega), sU_ne (fun z => by omega)]
      intro h
      rw [r91_974] at h
      omega
    have k_xZ4 : xZ4 W := by
      have r91_975 : W 91 975 = M 91 975 := by rw [hW, sU_ne (fun z => by omega), sU_ne (fun z => by omega), sU_ne (fun z => by omega)]
      have c108 : ∀ k : Nat, k ≠ (1 * ρ 1 + 0).toNat → W 108 k = M 108 k := fun k hk => by rw [hW, sU_ne (fun z => by omega), sU_ne (fun z => by omega), sU_ne (fun z => by omega)]
      have a108 : W 108 (1 * ρ 1 + 0).toNat = 0 := by rw [hW, sU_ne (fun z => by omega), sU_ne (fun z => by omega), sU_at]
      have c109 : ∀ k, W 109 k = M 109 k := fun k => by rw [hW, sU_ne (fun z => by omega), sU_ne (fun z => by omega), sU_ne (fun z => by omega)]
      have c110 : ∀ k, W 110 k = M 110 k := fun k => by rw [hW, sU_ne (fun z => by omega), sU_ne (fun z => by omega), sU_ne (fun z => by omega)]
      have c111 : ∀ k, W 111 k = M 111 k := fun k => by rw [hW, sU_ne (fun z => by omega), sU_ne (fun z => by omega), sU_ne (fun z => by omega)]
      exact xz4_of hI.1 r91_975 (fun k a => ⟨c108 k (by omega), c109 k⟩) (fun k a => ⟨c110 k, c111 k⟩) qxZ4
    have k_xZ5 : xZ5 W := by
      have r91_976 : W 91 976 = 0 := by rw [hW, sU_at]
      have c108 : ∀ k : Nat, k ≠ (1 * ρ 1 + 0).toNat → W 108 k = M 108 k := fun k hk => by rw [hW, sU_ne (fun z => by omega), sU_ne (fun z => by omega), sU_ne (fun z => by omega)]
      have a108 : W 108 (1 * ρ 1 + 0).toNat = 0 := by rw [hW, sU_ne (fun z => by omega), sU_ne (fun z => by omega), sU_at]
      intro j hj
      rw [r91_976] at hj
      omega
    have k_xZ6 : xZ6 W := by
      rw [hW]
      exact (uxZ6 rfl (uxZ6 rfl (uxZ6 (sinc_ok rfl _) hI.2.2.2.1.2.2.2.2.2.2.2.2.1)))
    have k_xZ7 : xZ7 W := by
      rw [hW]
      exact (uxZ7 rfl (uxZ7 rfl (uxZ7 (sinc_ok rfl _) hI.2.2.2.1.2.2.2.2.2.2.2.2.2.1)))
    have k_xZ8 : xZ8 W := by
      rw [hW]
      exact (uxZ8 rfl (uxZ8 rfl (uxZ8 (sinc_ok rfl _) hI.2.2.2.1.2.2.2.2.2.2.2.2.2.2.1)))
    have k_xZ9 : xZ9 W := by
      rw [hW]
      exact (uxZ9 rfl (uxZ9 rfl (uxZ9 (sinc_ok rfl _) hI.2.2.2.1.2.2.2.2.2.2.2.2.2.2.2.1)))
    have k_xZa : xZa W := by
      rw [hW]
      exact (uxZa rfl (uxZa rfl (uxZa (sinc_ok rfl _) hI.2.2.2.1.2.2.2.2.2.2.2.2.2.2.2.2.1)))
    have k_xZb : xZb W := by
      have r91_983 : W 91 983 = 0 := by rw [hW, sU_ne (fun z => by omega), sU_at]
      have r91_970 : W 91 970 = M 91 970 := by rw [hW, sU_ne (fun z => by omega), sU_ne (fun z => by omega), sU_ne (fun z => by omega)]
      have c108 : ∀ k : Nat, k ≠ (1 * ρ 1 + 0).toNat → W 108 k = M 108 k := fun k hk => by rw [hW, sU_ne (fun z => by omega), sU_ne (fun z => by omega), sU_ne (fun z => by omega)]
      have a108 : W 108 (1 * ρ 1 + 0).toNat = 0 := by rw [hW, sU_ne (fun z => by omega), sU_ne (fun z => by omega), sU_at]
      intro h
      rw [r91_983] at h
      omega
    have k_xT1 : xT1 W := by
      rw [hW]
      exact (uxT1 rfl (uxT1 rfl (uxT1 (sinc_ok rfl _) hI.2.2.2.1.2.2.2.2.2.2.2.2.2.2.2.2.2.2)))
    have kXA : XA W := ⟨k_xY1, k_xY2, k_xY3, k_xZ1, k_xZ2, k_xZ3, k_xZ4, k_xZ5, k_xZ6, k_xZ7, k_xZ8, k_xZ9, k_xZa, k_xZb, k_xT1⟩
    have kXB : XB W := by
      rw [hW]
      exact (uXB rfl (uXB rfl (uXB (sinc_ok rfl _) hI.2.2.2.2)))
    exact ⟨base, k2, k3, kXA, kXB⟩
-- noTo
def xr_50 : qRu := (2, [[(-2, 0), (1, 1)], [(3, 0), (-1, 1)]], [(91, 974, [])], [(109, [(1, 1)], [])], [(91, 977, [])], [])
theorem xo_50 : qRok xr_50 := by
  intro ρ M h0 hf hm hI
  have f0 := hf [(-2, 0), (1, 1)] (by decide)
  have f1 := hf [(3, 0), (-1, 1)] (by decide)
  simp only [qD, h0] at f0 f1
  have m0 : M 91 974 = 0 := hm (91, 974, []) (by decide)
  have qxZ3 := hI.2.2.2.1.2.2.2.2.2.1
  have qxZ4 := hI.2.2.2.1.2.2.2.2.2.2.1
  have qxZ6 := hI.2.2.2.1.2.2.2.2.2.2.2.2.1
  refine ⟨ρ, fun _ _ => rfl, fun f h => ?_, ?_⟩
  · exact nomatch h
  · show sI (sU (sU M 109 (1 * ρ 1 + 0 : Int).toNat (0)) 91 977 (0))
    obtain ⟨W, hW⟩ : ∃ W, W = (sU (sU M 109 (1 * ρ 1 + 0).toNat (0)) 91 977 (0)) := ⟨_, rfl⟩
    rw [← hW]
    have base : sI0 W := by
      rw [hW]
      exact (si_u0 (si_u0 hI.1 (fun r hr => by rw [xt_109 hr]; exact ⟨by show (0 : Int) ≤ _; omega, by show _ ≤ (64 : Int); omega⟩)) (fun r hr => by cases hr))
    have k2 : XI2 W := by
      rw [hW]
      exact (xi2_u rfl (xi2_u (sinc_ok rfl _) hI.2.1))
    have k3 : XI3 W := by
      rw [hW]
      exact (xi3_u rfl (xi3_u (sinc_ok rfl _) hI.2.2.1))
    have k_xY1 : xY1 W := by
      rw [hW]
      exact (uxY1 rfl (uxY1 (sinc_ok rfl _) hI.2.2.2.1.1))
    have k_xY2 : xY2 W := by
      rw [hW]
      exact (uxY2 rfl (uxY2 (sinc_ok rfl _) hI.2.2.2.1.2.1))
    have k_xY3 : xY3 W := by
      rw [hW]
      exact (uxY3 rfl (uxY3 (sinc_ok rfl _) hI.2.2.2.1.2.2.1))
    have k_xZ1 : xZ1 W := by
      rw [hW]
      exact (uxZ1 rfl (uxZ1 (sinc_ok rfl _) hI.2.2.2.1.2.2.2.1))
    have k_xZ2 : xZ2 W := by
      rw [hW]
      exact (uxZ2 rfl (uxZ2 (sinc_ok rfl _) hI.2.2.2.1.2.2.2.2.1))
    have k_xZ3 : xZ3 W := by
      have r91_974 : W 91 974 = M 91 974 := by rw [hW, sU_ne (fun z => by omega), sU_ne (fun z => by omega)]
      have r93_17 : W 93 17 = M 93 17 := by rw [hW, sU_ne (fun z => by omega), sU_ne (fun z => by omega)]
      have c108 : ∀ k, W 108 k = M 108 k := fun k => by rw [hW, sU_ne (fun z => by omega), sU_ne (fun z => by omega)]
      have c109 : ∀ k : Nat, k ≠ (1 * ρ 1 + 0).toNat → W 109 k = M 109 k := fun k hk => by rw [hW, sU_ne (fun z => by omega), sU_ne (fun z => by omega)]
      have a109 : W 109 (1 * ρ 1 + 0).toNat = 0 := by rw [hW, sU_ne (fun z => by omega), sU_at]
      have c110 : ∀ k, W 110 k = M 110 k := fun k => by rw [hW, sU_ne (fun z => by omega), sU_ne (fun z => by omega)]
      have c111 : ∀ k, W 111 k = M 111 k := fun k => by rw [hW, sU_ne (fun z => by omega), sU_ne (fun z => by omega)]
      intro h
      rw [r91_974] at h
      omega
    have k_xZ4 : xZ4 W := by
      have r91_975 : W 91 975 = M 91 975 := by rw [hW, sU_ne (fun z => by omega), sU_ne (fun z => by omega)]
      have c108 : ∀ k, W 108 k = M 108 k := fun k => by rw [hW, sU_ne (fun z => by omega), sU_ne (fun z => by omega)]
      have c109 : ∀ k : Nat, k ≠ (1 * ρ 1 + 0).toNat → W 109 k = M 109 k := fun k hk => by rw [hW, sU_ne (fun z => by omega), sU_ne (fun z => by omega)]
      have a109 : W 109 (1 * ρ 1 + 0).toNat = 0 := by rw [hW, sU_ne (fun z => by omega), sU_at]
      have c110 : ∀ k, W 110 k = M 110 k := fun k => by rw [hW, sU_ne (fun z => by omega), sU_ne (fun z => by omega)]
      have c111 : ∀ k, W 111 k = M 111 k := fun k => by rw [hW, sU_ne (fun z => by omega), sU_ne (fun z => by omega)]
      exact xz4_of hI.1 r91_975 (fun k a => ⟨c108 k, c109 k (by omega)⟩) (fun k a => ⟨c110 k, c111 k⟩) qxZ4
    have k_xZ5 : xZ5 W := by
      rw [hW]
      exact (uxZ5 rfl (uxZ5 (sinc_ok rfl _) hI.2.2.2.1.2.2.2.2.2.2.2.1))
    have k_xZ6 : xZ6 W := by
      have r91_977 : W 91 977 = 0 := by rw [hW, sU_at]
      have c109 : ∀ k : Nat, k ≠ (1 * ρ 1 + 0).toNat → W 109 k = M 109 k := fun k hk => by rw [hW, sU_ne (fun z => by omega), sU_ne (fun z => by omega)]
      have a109 : W 109 (1 * ρ 1 + 0).toNat = 0 := by rw [hW, sU_ne (fun z => by omega), sU_at]
      intro j hj
      rw [r91_977] at hj
      omega
    have k_xZ7 : xZ7 W := by
      rw [hW]
      exact (uxZ7 rfl (uxZ7 (sinc_ok rfl _) hI.2.2.2.1.2.2.2.2.2.2.2.2.2.1))
    have k_xZ8 : xZ8 W := by
      rw [hW]
      exact (uxZ8 rfl (uxZ8 (sinc_ok rfl _) hI.2.2.2.1.2.2.2.2.2.2.2.2.2.2.1))
    have k_xZ9 : xZ9 W := by
      rw [hW]
      exact (uxZ9 rfl (uxZ9 (sinc_ok rfl _) hI.2.2.2.1.2.2.2.2.2.2.2.2.2.2.2.1))
    have k_xZa : xZa W := by
      rw [hW]
      exact (uxZa rfl (uxZa (sinc_ok rfl _) hI.2.2.2.1.2.2.2.2.2.2.2.2.2.2.2.2.1))
    have k_xZb : xZb W := by
      rw [hW]
      exact (uxZb rfl (uxZb (sinc_ok rfl _) hI.2.2.2.1.2.2.2.2.2.2.2.2.2.2.2.2.2.1))
    have k_xT1 : xT1 W := by
      rw [hW]
      exact (uxT1 rfl (uxT1 (sinc_ok rfl _) hI.2.2.2.1.2.2.2.2.2.2.2.2.2.2.2.2.2.2))
    have kXA : XA W := ⟨k_xY1, k_xY2, k_xY3, k_xZ1, k_xZ2, k_xZ3, k_xZ4, k_xZ5, k_xZ6, k_xZ7, k_xZ8, k_xZ9, k_xZa, k_xZb, k_xT1⟩
    have kXB : XB W := by
      rw [hW]
      exact (uXB rfl (uXB (sinc_ok rfl _) hI.2.2.2.2))
    exact ⟨base, k2, k3, kXA, kXB⟩
-- fresh1
def xr_51 : qRu := (1, [], [(109, 2, []), (109, 3, [])], [], [(91, 974, [(1, 0)])], [])
theorem xo_51 : qRok xr_51 := by
  intro ρ M h0 hf hm hI
  have m0 : M 109 2 = 0 := hm (109, 2, []) (by decide)
  have m1 : M 109 3 = 0 := hm (109, 3, []) (by decide)
  have qxZ3 := hI.2.2.2.1.2.2.2.2.2.1
  have hn : (0 : Int) ≤ M 93 17 ∧ M 93 17 ≤ 64 := hI.1 93 17 (0, 64) rfl
  refine ⟨ρ, fun _ _ => rfl, fun f h => ?_, ?_⟩
  · exact nomatch h
  · show sI (sU M 91 974 (1 * ρ 0 + 0))
    obtain ⟨W, hW⟩ : ∃ W, W = (sU M 91 974 (1 * ρ 0 + 0)) := ⟨_, rfl⟩
    rw [← hW]
    have base : sI0 W := by
      rw [hW]
      exact (si_u0 hI.1 (fun r hr => by cases hr))
    have k2 : XI2 W := by
      rw [hW]
      exact (xi2_u rfl hI.2.1)
    have k3 : XI3 W := by
      rw [hW]
      exact (xi3_u rfl hI.2.2.1)
    have k_xY1 : xY1 W := by
      rw [hW]
      exact (uxY1 rfl hI.2.2.2.1.1)
    have k_xY2 : xY2 W := by
      rw [hW]
      exact (uxY2 rfl hI.2.2.2.1.2.1)
    have k_xY3 : xY3 W := by
      rw [hW]
      exact (uxY3 rfl hI.2.2.2.1.2.2.1)
    have k_xZ1 : xZ1 W := by
      rw [hW]
      exact (uxZ1 rfl hI.2.2.2.1.2.2.2.1)
    have k_xZ2 : xZ2 W := by
      rw [hW]
      exact (uxZ2 rfl hI.2.2.2.1.2.2.2.2.1)
    have k_xZ3 : xZ3 W := by
      have r91_974 : W 91 974 = 1 * ρ 0 + 0 := by rw [hW, sU_at]
      have r93_17 : W 93 17 = M 93 17 := by rw [hW, sU_ne (fun z => by omega)]
      have c108 : ∀ k, W 108 k = M 108 k := fun k => by rw [hW, sU_ne (fun z => by omega)]
      have c109 : ∀ k, W 109 k = M 109 k := fun k => by rw [hW, sU_ne (fun z => by omega)]
      have c110 : ∀ k, W 110 k = M 110 k := fun k => by rw [hW, sU_ne (fun z => by omega)]
      have c111 : ∀ k, W 111 k = M 111 k := fun k => by rw [hW, sU_ne (fun z => by omega)]
      intro a k b c
      rw [r93_17, c108, c109]
      have h2 : M 109 k = 0 := by
        rcases (show k = 2 ∨ k = 3 by omega) with rfl | rfl
        · exact m0
        · exact m1
      rw [h2]
      exact ⟨by omega, fun j hj => absurd hj (by omega)⟩
    have k_xZ4 : xZ4 W := by
      rw [hW]
      exact (uxZ4 rfl hI.2.2.2.1.2.2.2.2.2.2.1)
    have k_xZ5 : xZ5 W := by
      rw [hW]
      exact (uxZ5 rfl hI.2.2.2.1.2.2.2.2.2.2.2.1)
    have k_xZ6 : xZ6 W := by
      rw [hW]
      exact (uxZ6 rfl hI.2.2.2.1.2.2.2.2.2.2.2.2.1)
    have k_xZ7 : xZ7 W := by
      rw [hW]
      exact (uxZ7 rfl hI.2.2.2.1.2.2.2.2.2.2.2.2.2.1)
    have k_xZ8 : xZ8 W := by
      rw [hW]
      exact (uxZ8 rfl hI.2.2.2.1.2.2.2.2.2.2.2.2.2.2.1)
    have k_xZ9 : xZ9 W := by
      rw [hW]
      exact (uxZ9 rfl hI.2.2.2.1.2.2.2.2.2.2.2.2.2.2.2.1)
    have k_xZa : xZa W := by
      rw [hW]
      exact (uxZa rfl hI.2.2.2.1.2.2.2.2.2.2.2.2.2.2.2.2.1)
    have k_xZb : xZb W := by
      rw [hW]
      exact (uxZb rfl hI.2.2.2.1.2.2.2.2.2.2.2.2.2.2.2.2.2.1)
    have k_xT1 : xT1 W := by
      rw [hW]
      exact (uxT1 rfl hI.2.2.2.1.2.2.2.2.2.2.2.2.2.2.2.2.2.2)
    have kXA : XA W := ⟨k_xY1, k_xY2, k_xY3, k_xZ1, k_xZ2, k_xZ3, k_xZ4, k_xZ5, k_xZ6, k_xZ7, k_xZ8, k_xZ9, k_xZa, k_xZb, k_xT1⟩
    have kXB : XB W := by
      rw [hW]
      exact (uXB rfl hI.2.2.2.2)
    exact ⟨base, k2, k3, kXA, kXB⟩
-- fresh0
def xr_52 : qRu := (1, [], [], [], [(91, 974, [])], [])
theorem xo_52 : qRok xr_52 := by
  intro ρ M h0 hf hm hI
  have qxZ3 := hI.2.2.2.1.2.2.2.2.2.1
  refine ⟨ρ, fun _ _ => rfl, fun f h => ?_, ?_⟩
  · exact nomatch h
  · show sI (sU M 91 974 (0))
    obtain ⟨W, hW⟩ : ∃ W, W = (sU M 91 974 (0)) := ⟨_, rfl⟩
    rw [← hW]
    have base : sI0 W := by
      rw [hW]
      exact (si_u0 hI.1 (fun r hr => by cases hr))
    have k2 : XI2 W := by
      rw [hW]
      exact (xi2_u rfl hI.2.1)
    have k3 : XI3 W := by
      rw [hW]
      exact (xi3_u rfl hI.2.2.1)
    have k_xY1 : xY1 W := by
      rw [hW]
      exact (uxY1 rfl hI.2.2.2.1.1)
    have k_xY2 : xY2 W := by
      rw [hW]
      exact (uxY2 rfl hI.2.2.2.1.2.1)
    have k_xY3 : xY3 W := by
      rw [hW]
      exact (uxY3 rfl hI.2.2.2.1.2.2.1)
    have k_xZ1 : xZ1 W := by
      rw [hW]
      exact (uxZ1 rfl hI.2.2.2.1.2.2.2.1)
    have k_xZ2 : xZ2 W := by
      rw [hW]
      exact (uxZ2 rfl hI.2.2.2.1.2.2.2.2.1)
    have k_xZ3 : xZ3 W := by
      have r91_974 : W 91 974 = 0 := by rw [hW, sU_at]
      have r93_17 : W 93 17 = M 93 17 := by rw [hW, sU_ne (fun z => by omega)]
      have c108 : ∀ k, W 108 k = M 108 k := fun k => by rw [hW, sU_ne (fun z => by omega)]
      have c109 : ∀ k, W 109 k = M 109 k := fun k => by rw [hW, sU_ne (fun z => by omega)]
      have c110 : ∀ k, W 110 k = M 110 k := fun k => by rw [hW, sU_ne (fun z => by omega)]
      have c111 : ∀ k, W 111 k = M 111 k := fun k => by rw [hW, sU_ne (fun z => by omega)]
      intro h
      rw [r91_974] at h
      omega
    have k_xZ4 : xZ4 W := by
      rw [hW]
      exact (uxZ4 rfl hI.2.2.2.1.2.2.2.2.2.2.1)
    have k_xZ5 : xZ5 W := by
      rw [hW]
      exact (uxZ5 rfl hI.2.2.2.1.2.2.2.2.2.2.2.1)
    have k_xZ6 : xZ6 W := by
      rw [hW]
      exact (uxZ6 rfl hI.2.2.2.1.2.2.2.2.2.2.2.2.1)
    have k_xZ7 : xZ7 W := by
      rw [hW]
      exact (uxZ7 rfl hI.2.2.2.1.2.2.2.2.2.2.2.2.2.1)
    have k_xZ8 : xZ8 W := by
      rw [hW]
      exact (uxZ8 rfl hI.2.2.2.1.2.2.2.2.2.2.2.2.2.2.1)
    have k_xZ9 : xZ9 W := by
      rw [hW]
      exact (uxZ9 rfl hI.2.2.2.1.2.2.2.2.2.2.2.2.2.2.2.1)
    have k_xZa : xZa W := by
      rw [hW]
      exact (uxZa rfl hI.2.2.2.1.2.2.2.2.2.2.2.2.2.2.2.2.1)
    have k_xZb : xZb W := by
      rw [hW]
      exact (uxZb rfl hI.2.2.2.1.2.2.2.2.2.2.2.2.2.2.2.2.2.1)
    have k_xT1 : xT1 W := by
      rw [hW]
      exact (uxT1 rfl hI.2.2.2.1.2.2.2.2.2.2.2.2.2.2.2.2.2.2)
    have kXA : XA W := ⟨k_xY1, k_xY2, k_xY3, k_xZ1, k_xZ2, k_xZ3, k_xZ4, k_xZ5, k_xZ6, k_xZ7, k_xZ8, k_xZ9, k_xZa, k_xZb, k_xT1⟩
    have kXB : XB W := by
      rw [hW]
      exact (uXB rfl hI.2.2.2.2)
    exact ⟨base, k2, k3, kXA, kXB⟩
-- off
def xr_53 : qRu := (1, [], [], [], [(91, 975, []), (91, 976, []), (91, 977, []), (91, 978, []), (91, 979, []), (91, 956, []), (91, 957, [])], [])
theorem xo_53 : qRok xr_53 := by
  intro ρ M h0 hf hm hI
  have qxZ4 := hI.2.2.2.1.2.2.2.2.2.2.1
  have qxZ5 := hI.2.2.2.1.2.2.2.2.2.2.2.1
  have qxZ6 := hI.2.2.2.1.2.2.2.2.2.2.2.2.1
  have qxZ7 := hI.2.2.2.1.2.2.2.2.2.2.2.2.2.1
  have qxZ8 := hI.2.2.2.1.2.2.2.2.2.2.2.2.2.2.1
  have qxG4 := hI.2.2.2.2.2.2.2.2.2.2.2.2.2.2.2.2.2.2.1
  have qxG5 := hI.2.2.2.2.2.2.2.2.2.2.2.2.2.2.2.2.2.2.2.1
  have qxG6 := hI.2.2.2.2.2.2.2.2.2.2.2.2.2.2.2.2.2.2.2.2.1
  refine ⟨ρ, fun _ _ => rfl, fun f h => ?_, ?_⟩
  · exact nomatch h
  · show sI (sU (sU (sU (sU (sU (sU (sU M 91 975 (0)) 91 976 (0)) 91 977 (0)) 91 978 (0)) 91 979 (0)) 91 956 (0)) 91 957 (0))
    obtain ⟨W, hW⟩ : ∃ W, W = (sU (sU (sU (sU (sU (sU (sU M 91 975 (0)) 91 976 (0)) 91 977 (0)) 91 978 (0)) 91 979 (0)) 91 956 (0)) 91 957 (0)) := ⟨_, rfl⟩
    rw [← hW]
    have base : sI0 W := by
      rw [hW]
      exact (si_u0 (si_u0 (si_u0 (si_u0 (si_u0 (si_u0 (si_u0 hI.1 (fun r hr => by cases hr)) (fun r hr => by cases hr)) (fun r hr => by cases hr)) (fun r hr => by cases hr)) (fun r hr => by cases hr)) (fun r hr => by cases hr)) (fun r hr => by cases hr))
    have k2 : XI2 W := by
      rw [hW]
      exact (xi2_u rfl (xi2_u rfl (xi2_u rfl (xi2_u rfl (xi2_u rfl (xi2_u rfl (xi2_u rfl hI.2.1)))))))
    have k3 : XI3 W := by
      rw [hW]
      exact (xi3_u rfl (xi3_u rfl (xi3_u rfl (xi3_u rfl (xi3_u rfl (xi3_u rfl (xi3_u rfl hI.2.2.1)))))))
    have k_xY1 : xY1 W := by
      rw [hW]
      exact (uxY1 rfl (uxY1 rfl (uxY1 rfl (uxY1 rfl (uxY1 rfl (uxY1 rfl (uxY1 rfl hI.2.2.2.1.1)))))))
    have k_xY2 : xY2 W := by
      rw [hW]
      exact (uxY2 rfl (uxY2 rfl (uxY2 rfl (uxY2 rfl (uxY2 rfl (uxY2 rfl (uxY2 rfl hI.2.2.2.1.2.1)))))))
    have k_xY3 : xY3 W := by
      rw [hW]
      exact (uxY3 rfl (uxY3 rfl (uxY3 rfl (uxY3 rfl (uxY3 rfl (uxY3 rfl (uxY3 rfl hI.2.2.2.1.2.2.1)))))))
    have k_xZ1 : xZ1 W := by
      rw [hW]
      exact (uxZ1 rfl (uxZ1 rfl (uxZ1 rfl (uxZ1 rfl (uxZ1 rfl (uxZ1 rfl (uxZ1 rfl hI.2.2.2.1.2.2.2.1)))))))
    have k_xZ2 : xZ2 W := by
      rw [hW]
      exact (uxZ2 rfl (uxZ2 rfl (uxZ2 rfl (uxZ2 rfl (uxZ2 rfl (uxZ2 rfl (uxZ2 rfl hI.2.2.2.1.2.2.2.2.1)))))))
    have k_xZ3 : xZ3 W := by
      rw [hW]
      exact (uxZ3 rfl (uxZ3 rfl (uxZ3 rfl (uxZ3 rfl (uxZ3 rfl (uxZ3 rfl (uxZ3 rfl hI.2.2.2.1.2.2.2.2.2.1)))))))
    have k_xZ4 : xZ4 W := by
      have r91_975 : W 91 975 = 0 := by rw [hW, sU_ne (fun z => by omega), sU_ne (fun z => by omega), sU_ne (fun z => by omega), sU_ne (fun z => by omega), sU_ne (fun z => by omega), sU_ne (fun z => by omega), sU_at]
      have c108 : ∀ k, W 108 k = M 108 k := fun k => by rw [hW, sU_ne (fun z => by omega), sU_ne (fun z => by omega), sU_ne (fun z => by omega), sU_ne (fun z => by omega), sU_ne (fun z => by omega), sU_ne (fun z => by omega), sU_ne (fun z => by omega)]
      have c109 : ∀ k, W 109 k = M 109 k := fun k => by rw [hW, sU_ne (fun z => by omega), sU_ne (fun z => by omega), sU_ne (fun z => by omega), sU_ne (fun z => by omega), sU_ne (fun z => by omega), sU_ne (fun z => by omega), sU_ne (fun z => by omega)]
      have c110 : ∀ k, W 110 k = M 110 k := fun k => by rw [hW, sU_ne (fun z => by omega), sU_ne (fun z => by omega), sU_ne (fun z => by omega), sU_ne (fun z => by omega), sU_ne (fun z => by omega), sU_ne (fun z => by omega), sU_ne (fun z => by omega)]
      have c111 : ∀ k, W 111 k = M 111 k := fun k => by rw [hW, sU_ne (fun z => by omega), sU_ne (fun z => by omega), sU_ne (fun z => by omega), sU_ne (fun z => by omega), sU_ne (fun z => by omega), sU_ne (fun z => by omega), sU_ne (fun z => by omega)]
      intro h
      rw [r91_975] at h
      omega
    have k_xZ5 : xZ5 W := by
      have r91_976 : W 91 976 = 0 := by rw [hW, sU_ne (fun z => by omega), sU_ne (fun z => by omega), sU_ne (fun z => by omega), sU_ne (fun z => by omega), sU_ne (fun z => by omega), sU_at]
      have c108 : ∀ k, W 108 k = M 108 k := fun k => by rw [hW, sU_ne (fun z => by omega), sU_ne (fun z => by omega), sU_ne (fun z => by omega), sU_ne (fun z => by omega), sU_ne (fun z => by omega), sU_ne (fun z => by omega), sU_ne (fun z => by omega)]
      intro j hj
      rw [r91_976] at hj
      omega
    have k_xZ6 : xZ6 W := by
      have r91_977 : W 91 977 = 0 := by rw [hW, sU_ne (fun z => by omega), sU_ne (fun z => by omega), sU_ne (fun z => by omega), sU_ne (fun z => by omega), sU_at]
      have c109 : ∀ k, W 109 k = M 109 k := fun k => by rw [hW, sU_ne (fun z => by omega), sU_ne (fun z => by omega), sU_ne (fun z => by omega), sU_ne (fun z => by omega), sU_ne (fun z => by omega), sU_ne (fun z => by omega), sU_ne (fun z => by omega)]
      intro j hj
      rw [r91_977] at hj
      omega
    have k_xZ7 : xZ7 W := by
      have r91_978 : W 91 978 = 0 := by rw [hW, sU_ne (fun z => by omega), sU_ne (fun z => by omega), sU_ne (fun z => by omega), sU_at]
      have c110 : ∀ k, W 110 k = M 110 k := fun k => by rw [hW, sU_ne (fun z => by omega), sU_ne (fun z => by omega), sU_ne (fun z => by omega), sU_ne (fun z => by omega), sU_ne (fun z => by omega), sU_ne (fun z => by omega), sU_ne (fun z => by omega)]
      intro j hj
      rw [r91_978] at hj
      omega
    have k_xZ8 : xZ8 W := by
      have r91_979 : W 91 979 = 0 := by rw [hW, sU_ne (fun z => by omega), sU_ne (fun z => by omega), sU_at]
      have c111 : ∀ k, W 111 k = M 111 k := fun k => by rw [hW, sU_ne (fun z => by omega), sU_ne (fun z => by omega), sU_ne (fun z => by omega), sU_ne (fun z => by omega), sU_ne (fun z => by omega), sU_ne (fun z => by omega), sU_ne (fun z => by omega)]
      intro j hj
      rw [r91_979] at hj
      omega
    have k_xZ9 : xZ9 W := by
      rw [hW]
      exact (uxZ9 rfl (uxZ9 rfl (uxZ9 rfl (uxZ9 rfl (uxZ9 rfl (uxZ9 rfl (uxZ9 rfl hI.2.2.2.1.2.2.2.2.2.2.2.2.2.2.2.1)))))))
    have k_xZa : xZa W := by
      rw [hW]
      exact (uxZa rfl (uxZa rfl (uxZa rfl (uxZa rfl (uxZa rfl (uxZa rfl (uxZa rfl hI.2.2.2.1.2.2.2.2.2.2.2.2.2.2.2.2.1)))))))
    have k_xZb : xZb W := by
      rw [hW]
      exact (uxZb rfl (uxZb rfl (uxZb rfl (uxZb rfl (uxZb rfl (uxZb rfl (uxZb rfl hI.2.2.2.1.2.2.2.2.2.2.2.2.2.2.2.2.2.1)))))))
    have k_xT1 : xT1 W := by
      rw [hW]
      exact (uxT1 rfl (uxT1 rfl (uxT1 rfl (uxT1 rfl (uxT1 rfl (uxT1 rfl (uxT1 rfl hI.2.2.2.1.2.2.2.2.2.2.2.2.2.2.2.2.2.2)))))))
    have kXA : XA W := ⟨k_xY1, k_xY2, k_xY3, k_xZ1, k_xZ2, k_xZ3, k_xZ4, k_xZ5, k_xZ6, k_xZ7, k_xZ8, k_xZ9, k_xZa, k_xZb, k_xT1⟩
    have k_xN1 : xN1 W := by
      rw [hW]
      exact (uxN1 rfl (uxN1 rfl (uxN1 rfl (uxN1 rfl (uxN1 rfl (uxN1 rfl (uxN1 rfl hI.2.2.2.2.1)))))))
    have k_xN2 : xN2 W := by
      rw [hW]
      exact (uxN2 rfl (uxN2 rfl (uxN2 rfl (uxN2 rfl (uxN2 rfl (uxN2 rfl (uxN2 rfl hI.2.2.2.2.2.1)))))))
    have k_xN3 : xN3 W := by
      rw [hW]
      exact (uxN3 rfl (uxN3 rfl (uxN3 rfl (uxN3 rfl (uxN3 rfl (uxN3 rfl (uxN3 rfl hI.2.2.2.2.2.2.1)))))))
    have k_xN4 : xN4 W := by
      rw [hW]
      exact (uxN4 rfl (uxN4 rfl (uxN4 rfl (uxN4 rfl (uxN4 rfl (uxN4 rfl (uxN4 rfl hI.2.2.2.2.2.2.2.1)))))))
    have k_xN5 : xN5 W := by
      rw [hW]
      exact (uxN5 rfl (uxN5 rfl (uxN5 rfl (uxN5 rfl (uxN5 rfl (uxN5 rfl (uxN5 rfl hI.2.2.2.2.2.2.2.2.1)))))))
    have k_xN6 : xN6 W := by
      rw [hW]
      exact (uxN6 rfl (uxN6 rfl (uxN6 rfl (uxN6 rfl (uxN6 rfl (uxN6 rfl (uxN6 rfl hI.2.2.2.2.2.2.2.2.2.1)))))))
    have k_xH1 : xH1 W := by
      rw [hW]
      exact (uxH1 rfl (uxH1 rfl (uxH1 rfl (uxH1 rfl (uxH1 rfl (uxH1 rfl (uxH1 rfl hI.2.2.2.2.2.2.2.2.2.2.1)))))))
    have k_xK1 : xK1 W := by
      rw [hW]
      exact (uxK1 rfl (uxK1 rfl (uxK1 rfl (uxK1 rfl (uxK1 rfl (uxK1 rfl (uxK1 rfl hI.2.2.2.2.2.2.2.2.2.2.2.1)))))))
    have k_xC1 : xC1 W := by
      rw [hW]
      exact (uxC1 rfl (uxC1 rfl (uxC1 rfl (uxC1 rfl (uxC1 rfl (uxC1 rfl (uxC1 rfl hI.2.2.2.2.2.2.2.2.2.2.2.2.1)))))))
    have k_xRW : xRW W := by
      rw [hW]
      exact (uxRW rfl (uxRW rfl (uxRW rfl (uxRW rfl (uxRW rfl (uxRW rfl (uxRW rfl hI.2.2.2.2.2.2.2.2.2.2.2.2.2.1)))))))
    have k_xWT : xWT W := by
      rw [hW]
      exact (uxWT rfl (uxWT rfl (uxWT rfl (uxWT rfl (uxWT rfl (uxWT rfl (uxWT rfl hI.2.2.2.2.2.2.2.2.2.2.2.2.2.2.1)))))))
    have k_xCU : xCU W := by
      rw [hW]
      exact (uxCU rfl (uxCU rfl (uxCU rfl (uxCU rfl (uxCU rfl (uxCU rfl (uxCU rfl hI.2.2.2.2.2.2.2.2.2.2.2.2.2.2.2.1)))))))
    have k_xG2 : xG2 W := by
      rw [hW]
      exact (uxG2 rfl (uxG2 rfl (uxG2 rfl (uxG2 rfl (uxG2 rfl (uxG2 rfl (uxG2 rfl hI.2.2.2.2.2.2.2.2.2.2.2.2.2.2.2.2.1)))))))
    have k_xG3 : xG3 W := by
      rw [hW]
      exact (uxG3 rfl (uxG3 rfl (uxG3 rfl (uxG3 rfl (uxG3 rfl (uxG3 rfl (uxG3 rfl hI.2.2.2.2.2.2.2.2.2.2.2.2.2.2.2.2.2.1)))))))
    have k_xG4 : xG4 W := by
      have r91_956 : W 91 956 = 0 := by rw [hW, sU_ne (fun z => by omega), sU_at]
      have c101 : ∀ k, W 101 k = M 101 k := fun k => by rw [hW, sU_ne (fun z => by omega), sU_ne (fun z => by omega), sU_ne (fun z => by omega), sU_ne (fun z => by omega), sU_ne (fun z => by omega), sU_ne (fun z => by omega), sU_ne (fun z => by omega)]
      intro j hj
      rw [r91_956] at hj
      omega
    have k_xG5 : xG5 W := by
      have r91_957 : W 91 957 = 0 := by rw [hW, sU_at]
      have c103 : ∀ k, W 103 k = M 103 k := fun k => by rw [hW, sU_ne (fun z => by omega), sU_ne (fun z => by omega), sU_ne (fun z => by omega), sU_ne (fun z => by omega), sU_ne (fun z => by omega), sU_ne (fun z => by omega), sU_ne (fun z => by omega)]
      intro j hj
      rw [r91_957] at hj
      omega
    have k_xG6 : xG6 W := by
      have r91_975 : W 91 975 = 0 := by rw [hW, sU_ne (fun z => by omega), sU_ne (fun z => by omega), sU_ne (fun z => by omega), sU_ne (fun z => by omega), sU_ne (fun z => by omega), sU_ne (fun z => by omega), sU_at]
      have c101 : ∀ k, W 101 k = M 101 k := fun k => by rw [hW, sU_ne (fun z => by omega), sU_ne (fun z => by omega), sU_ne (fun z => by omega), sU_ne (fun z => by omega), sU_ne (fun z => by omega), sU_ne (fun z => by omega), sU_ne (fun z => by omega)]
      have c103 : ∀ k, W 103 k = M 103 k := fun k => by rw [hW, sU_ne (fun z => by omega), sU_ne (fun z => by omega), sU_ne (fun z => by omega), sU_ne (fun z => by omega), sU_ne (fun z => by omega), sU_ne (fun z => by omega), sU_ne (fun z => by omega)]
      intro h
      rw [r91_975] at h
      omega
    have k_XC : XC W := by
      rw [hW]
      exact (uXC rfl (uXC rfl (uXC rfl (uXC rfl (uXC rfl (uXC rfl (uXC rfl hI.2.2.2.2.2.2.2.2.2.2.2.2.2.2.2.2.2.2.2.2.2)))))))
    have kXB : XB W := ⟨k_xN1, k_xN2, k_xN3, k_xN4, k_xN5, k_xN6, k_xH1, k_xK1, k_xC1, k_xRW, k_xWT, k_xCU, k_xG2, k_xG3, k_xG4, k_xG5, k_xG6, k_XC⟩
    exact ⟨base, k2, k3, kXA, kXB⟩
-- cp108
def xr_54 : qRu := (5, [[(1, 1)], [(1, 0), (-1, 1)], [(-2, 0), (-1, 1), (1, 2)], [(2, 0), (1, 1), (-1, 2)], [(1, 1), (-1, 4)], [(-1, 1), (1, 4)]], [(91, 976, [(1, 4)]), (108, 1002, [(1, 3)]), (91, 975, [])], [(108, [(1, 1)], [(1, 3)])], [(91, 976, [(1, 4), (1, 0)])], [])
theorem xo_54 : qRok xr_54 := by
  intro ρ M h0 hf hm hI
  have f0 := hf [(1, 1)] (by decide)
  have f1 := hf [(1, 0), (-1, 1)] (by decide)
  have f2 := hf [(-2, 0), (-1, 1), (1, 2)] (by decide)
  have f3 := hf [(2, 0), (1, 1), (-1, 2)] (by decide)
  have f4 := hf [(1, 1), (-1, 4)] (by decide)
  have f5 := hf [(-1, 1), (1, 4)] (by decide)
  simp only [qD, h0] at f0 f1 f2 f3 f4 f5
  have m0 : M 91 976 = 1 * ρ 4 + 0 := hm (91, 976, [(1, 4)]) (by decide)
  have m1 : M 108 (zIx ρ (1000 + 2)) = 1 * ρ 3 + 0 := hm (108, 1002, [(1, 3)]) (by decide)
  rw [zix_p] at m1
  have m2 : M 91 975 = 0 := hm (91, 975, []) (by decide)
  have qxZ3 := hI.2.2.2.1.2.2.2.2.2.1
  have qxZ4 := hI.2.2.2.1.2.2.2.2.2.2.1
  have qxZ5 := hI.2.2.2.1.2.2.2.2.2.2.2.1
  have qxZb := hI.2.2.2.1.2.2.2.2.2.2.2.2.2.2.2.2.2.1
  have hv : 0 ≤ M 108 (ρ 2).toNat ∧ M 108 (ρ 2).toNat ≤ 64 := hI.1 108 (ρ 2).toNat (0, 64) (xs_108 (by omega))
  refine ⟨ρ, fun _ _ => rfl, fun f h => ?_, ?_⟩
  · exact nomatch h
  · show sI (sU (sU M 108 (1 * ρ 1 + 0 : Int).toNat (1 * ρ 3 + 0)) 91 976 (1 * ρ 4 + (1 * ρ 0 + 0)))
    obtain ⟨W, hW⟩ : ∃ W, W = (sU (sU M 108 (1 * ρ 1 + 0).toNat (1 * ρ 3 + 0)) 91 976 (1 * ρ 4 + (1 * ρ 0 + 0))) := ⟨_, rfl⟩
    rw [← hW]
    have base : sI0 W := by
      rw [hW]
      exact (si_u0 (si_u0 hI.1 (fun r hr => by rw [xt_108 hr]; exact ⟨by show (0 : Int) ≤ _; omega, by show _ ≤ (64 : Int); omega⟩)) (fun r hr => by cases hr))
    have k2 : XI2 W := by
      rw [hW]
      exact (xi2_u rfl (xi2_u (sinc_ok rfl _) hI.2.1))
    have k3 : XI3 W := by
      rw [hW]
      exact (xi3_u rfl (xi3_u (sinc_ok rfl _) hI.2.2.1))
    have k_xY1 : xY1 W := by
      rw [hW]
      exact (uxY1 rfl (uxY1 (sinc_ok rfl _) hI.2.2.2.1.1))
    have k_xY2 : xY2 W := by
      rw [hW]
      exact (uxY2 rfl (uxY2 (sinc_ok rfl _) hI.2.2.2.1.2.1))
    have k_xY3 : xY3 W := by
      rw [hW]
      exact (uxY3 rfl (uxY3 (sinc_ok rfl _) hI.2.2.2.1.2.2.1))
    have k_xZ1 : xZ1 W := by
      rw [hW]
      exact (uxZ1 rfl (uxZ1 (sinc_ok rfl _) hI.2.2.2.1.2.2.2.1))
    have k_xZ2 : xZ2 W := by
      rw [hW]
      exact (uxZ2 rfl (uxZ2 (sinc_ok rfl _) hI.2.2.2.1.2.2.2.2.1))
    have k_xZ3 : xZ3 W := by
      have r91_974 : W 91 974 = M 91 974 := by rw [hW, sU_ne (fun z => by omega), sU_ne (fun z => by omega)]
      have r93_17 : W 93 17 = M 93 17 := by rw [hW, sU_ne (fun z => by omega), sU_ne (fun z => by omega)]
      have c108 : ∀ k : Nat, k ≠ (1 * ρ 1 + 0).toNat → W 108 k = M 108 k := fun k hk => by rw [hW, sU_ne (fun z => by omega), sU_ne (fun z => by omega)]
      have a108 : W 108 (1 * ρ 1 + 0).toNat = 1 * ρ 3 + 0 := by rw [hW, sU_ne (fun z => by omega), sU_at]
      have c109 : ∀ k, W 109 k = M 109 k := fun k => by rw [hW, sU_ne (fun z => by omega), sU_ne (fun z => by omega)]
      have c110 : ∀ k, W 110 k = M 110 k := fun k => by rw [hW, sU_ne (fun z => by omega), sU_ne (fun z => by omega)]
      have c111 : ∀ k, W 111 k = M 111 k := fun k => by rw [hW, sU_ne (fun z => by omega), sU_ne (fun z => by omega)]
      exact xz3_of r91_974 (by rw [r93_17]; exact Int.le_refl _) (fun k a b => ⟨c108 k (by omega), c109 k⟩) (fun k a b => ⟨c110 k, c111 k⟩) qxZ3
    have k_xZ4 : xZ4 W := by
      have r91_975 : W 91 975 = M 91 975 := by rw [hW, sU_ne (fun z => by omega), sU_ne (fun z => by omega)]
      have c108 : ∀ k : Nat, k ≠ (1 * ρ 1 + 0).toNat → W 108 k = M 108 k := fun k hk => by rw [hW, sU_ne (fun z => by omega), sU_ne (fun z => by omega)]
      have a108 : W 108 (1 * ρ 1 + 0).toNat = 1 * ρ 3 + 0 := by rw [hW, sU_ne (fun z => by omega), sU_at]
      have c109 : ∀ k, W 109 k = M 109 k := fun k => by rw [hW, sU_ne (fun z => by omega), sU_ne (fun z => by omega)]
      have c110 : ∀ k, W 110 k = M 110 k := fun k => by rw [hW, sU_ne (fun z => by omega), sU_ne (fun z => by omega)]
      have c111 : ∀ k, W 111 k = M 111 k := fun k => by rw [hW, sU_ne (fun z => by omega), sU_ne (fun z => by omega)]
      intro h
      rw [r91_975] at h
      omega
    have k_xZ5 : xZ5 W := by
      have r91_976 : W 91 976 = 1 * ρ 4 + (1 * ρ 0 + 0) := by rw [hW, sU_at]
      have c108 : ∀ k : Nat, k ≠ (1 * ρ 1 + 0).toNat → W 108 k = M 108 k := fun k hk => by rw [hW, sU_ne (fun z => by omega), sU_ne (fun z => by omega)]
      have a108 : W 108 (1 * ρ 1 + 0).toNat = 1 * ρ 3 + 0 := by rw [hW, sU_ne (fun z => by omega), sU_at]
      intro j hj
      rw [r91_976] at hj
      by_cases hc : j = (1 * ρ 1 + 0).toNat
      · rw [hc, a108, c108 _ (by omega), show 2 + (1 * ρ 1 + 0).toNat = (ρ 2).toNat by omega, m1]
      · rw [c108 j hc, c108 (2 + j) (by omega)]
        exact qxZ5 j (by omega)
    have k_xZ6 : xZ6 W := by
      rw [hW]
      exact (uxZ6 rfl (uxZ6 (sinc_ok rfl _) hI.2.2.2.1.2.2.2.2.2.2.2.2.1))
    have k_xZ7 : xZ7 W := by
      rw [hW]
      exact (uxZ7 rfl (uxZ7 (sinc_ok rfl _) hI.2.2.2.1.2.2.2.2.2.2.2.2.2.1))
    have k_xZ8 : xZ8 W := by
      rw [hW]
      exact (uxZ8 rfl (uxZ8 (sinc_ok rfl _) hI.2.2.2.1.2.2.2.2.2.2.2.2.2.2.1))
    have k_xZ9 : xZ9 W := by
      rw [hW]
      exact (uxZ9 rfl (uxZ9 (sinc_ok rfl _) hI.2.2.2.1.2.2.2.2.2.2.2.2.2.2.2.1))
    have k_xZa : xZa W := by
      rw [hW]
      exact (uxZa rfl (uxZa (sinc_ok rfl _) hI.2.2.2.1.2.2.2.2.2.2.2.2.2.2.2.2.1))
    have k_xZb : xZb W := by
      have r91_983 : W 91 983 = M 91 983 := by rw [hW, sU_ne (fun z => by omega), sU_ne (fun z => by omega)]
      have r91_970 : W 91 970 = M 91 970 := by rw [hW, sU_ne (fun z => by omega), sU_ne (fun z => by omega)]
      have c108 : ∀ k : Nat, k ≠ (1 * ρ 1 + 0).toNat → W 108 k = M 108 k := fun k hk => by rw [hW, sU_ne (fun z => by omega), sU_ne (fun z => by omega)]
      have a108 : W 108 (1 * ρ 1 + 0).toNat = 1 * ρ 3 + 0 := by rw [hW, sU_ne (fun z => by omega), sU_at]
      intro a b
      rw [r91_983] at a b
      rw [r91_983, r91_970, c108 _ (by omega)]
      exact qxZb a b
    have k_xT1 : xT1 W := by
      rw [hW]
      exact (uxT1 rfl (uxT1 (sinc_ok rfl _) hI.2.2.2.1.2.2.2.2.2.2.2.2.2.2.2.2.2.2))
    have kXA : XA W := ⟨k_xY1, k_xY2, k_xY3, k_xZ1, k_xZ2, k_xZ3, k_xZ4, k_xZ5, k_xZ6, k_xZ7, k_xZ8, k_xZ9, k_xZa, k_xZb, k_xT1⟩
    have kXB : XB W := by
      rw [hW]
      exact (uXB rfl (uXB (sinc_ok rfl _) hI.2.2.2.2))
    exact ⟨base, k2, k3, kXA, kXB⟩
-- cp109
def xr_55 : qRu := (5, [[(1, 1)], [(1, 0), (-1, 1)], [(-2, 0), (-1, 1), (1, 2)], [(2, 0), (1, 1), (-1, 2)], [(1, 1), (-1, 4)], [(-1, 1), (1, 4)]], [(91, 977, [(1, 4)]), (109, 1002, [(1, 3)]), (91, 975, [])], [(109, [(1, 1)], [(1, 3)])], [(91, 977, [(1, 4), (1, 0)])], [])
theorem xo_55 : qRok xr_55 := by
  intro ρ M h0 hf hm hI
  have f0 := hf [(1, 1)] (by decide)
  have f1 := hf [(1, 0), (-1, 1)] (by decide)
  have f2 := hf [(-2, 0), (-1, 1), (1, 2)] (by decide)
  have f3 := hf [(2, 0), (1, 1), (-1, 2)] (by decide)
  have f4 := hf [(1, 1), (-1, 4)] (by decide)
  have f5 := hf [(-1, 1), (1, 4)] (by decide)
  simp only [qD, h0] at f0 f1 f2 f3 f4 f5
  have m0 : M 91 977 = 1 * ρ 4 + 0 := hm (91, 977, [(1, 4)]) (by decide)
  have m1 : M 109 (zIx ρ (1000 + 2)) = 1 * ρ 3 + 0 := hm (109, 1002, [(1, 3)]) (by decide)
  rw [zix_p] at m1
  have m2 : M 91 975 = 0 := hm (91, 975, []) (by decide)
  have qxZ3 := hI.2.2.2.1.2.2.2.2.2.1
  have qxZ4 := hI.2.2.2.1.2.2.2.2.2.2.1
  have qxZ6 := hI.2.2.2.1.2.2.2.2.2.2.2.2.1
  have hv : 0 ≤ M 109 (ρ 2).toNat ∧ M 109 (ρ 2).toNat ≤ 64 := hI.1 109 (ρ 2).toNat (0, 64) (xs_109 (by omega))
  refine ⟨ρ, fun _ _ => rfl, fun f h => ?_, ?_⟩
  · exact nomatch h
  · show sI (sU (sU M 109 (1 * ρ 1 + 0 : Int).toNat (1 * ρ 3 + 0)) 91 977 (1 * ρ 4 + (1 * ρ 0 + 0)))
    obtain ⟨W, hW⟩ : ∃ W, W = (sU (sU M 109 (1 * ρ 1 + 0).toNat (1 * ρ 3 + 0)) 91 977 (1 * ρ 4 + (1 * ρ 0 + 0))) := ⟨_, rfl⟩
    rw [← hW]
    have base : sI0 W := by
      rw [hW]
      exact (si_u0 (si_u0 hI.1 (fun r hr => by rw [xt_109 hr]; exact ⟨by show (0 : Int) ≤ _; omega, by show _ ≤ (64 : Int); omega⟩)) (fun r hr => by cases hr))
    have k2 : XI2 W := by
      rw [hW]
      exact (xi2_u rfl (xi2_u (sinc_ok rfl _) hI.2.1))
    have k3 : XI3 W := by
      rw [hW]
      exact (xi3_u rfl (xi3_u (sinc_ok rfl _) hI.2.2.1))
    have k_xY1 : xY1 W := by
      rw [hW]
      exact (uxY1 rfl (uxY1 (sinc_ok rfl _) hI.2.2.2.1.1))
    have k_xY2 : xY2 W := by
      rw [hW]
      exact (uxY2 rfl (uxY2 (sinc_ok rfl _) hI.2.2.2.1.2.1))
    have k_xY3 : xY3 W := by
      rw [hW]
      exact (uxY3 rfl (uxY3 (sinc_ok rfl _) hI.2.2.2.1.2.2.1))
    have k_xZ1 : xZ1 W := by
      rw [hW]
      exact (uxZ1 rfl (uxZ1 (sinc_ok rfl _) hI.2.2.2.1.2.2.2.1))
    have k_xZ2 : xZ2 W := by
      rw [hW]
      exact (uxZ2 rfl (uxZ2 (sinc_ok rfl _) hI.2.2.2.1.2.2.2.2.1))
    have k_xZ3 : xZ3 W := by
      have r91_974 : W 91 974 = M 91 974 := by rw [hW, sU_ne (fun z => by omega), sU_ne (fun z => by omega)]
      have r93_17 : W 93 17 = M 93 17 := by rw [hW, sU_ne (fun z => by omega), sU_ne (fun z => by omega)]
      have c108 : ∀ k, W 108 k = M 108 k := fun k => by rw [hW, sU_ne (fun z => by omega), sU_ne (fun z => by omega)]
      have c109 : ∀ k : Nat, k ≠ (1 * ρ 1 + 0).toNat → W 109 k = M 109 k := fun k hk => by rw [hW, sU_ne (fun z => by omega), sU_ne (fun z => by omega)]
      have a109 : W 109 (1 * ρ 1 + 0).toNat = 1 * ρ 3 + 0 := by rw [hW, sU_ne (fun z => by omega), sU_at]
      have c110 : ∀ k, W 110 k = M 110 k := fun k => by rw [hW, sU_ne (fun z => by omega), sU_ne (fun z => by omega)]
      have c111 : ∀ k, W 111 k = M 111 k := fun k => by rw [hW, sU_ne (fun z => by omega), sU_ne (fun z => by omega)]
      exact xz3_of r91_974 (by rw [r93_17]; exact Int.le_refl _) (fun k a b => ⟨c108 k, c109 k (by omega)⟩) (fun k a b => ⟨c110 k, c111 k⟩) qxZ3
    have k_xZ4 : xZ4 W := by
      have r91_975 : W 91 975 = M 91 975 := by rw [hW, sU_ne (fun z => by omega), sU_ne (fun z => by omega)]
      have c108 : ∀ k, W 108 k = M 108 k := fun k => by rw [hW, sU_ne (fun z => by omega), sU_ne (fun z => by omega)]
      have c109 : ∀ k : Nat, k ≠ (1 * ρ 1 + 0).toNat → W 109 k = M 109 k := fun k hk => by rw [hW, sU_ne (fun z => by omega), sU_ne (fun z => by omega)]
      have a109 : W 109 (1 * ρ 1 + 0).toNat = 1 * ρ 3 + 0 := by rw [hW, sU_ne (fun z => by omega), sU_at]
      have c110 : ∀ k, W 110 k = M 110 k := fun k => by rw [hW, sU_ne (fun z => by omega), sU_ne (fun z => by omega)]
      have c111 : ∀ k, W 111 k = M 111 k := fun k => by rw [hW, sU_ne (fun z => by omega), sU_ne (fun z => by omega)]
      intro h
      rw [r91_975] at h
      omega
    have k_xZ5 : xZ5 W := by
      rw [hW]
      exact (uxZ5 rfl (uxZ5 (sinc_ok rfl _) hI.2.2.2.1.2.2.2.2.2.2.2.1))
    have k_xZ6 : xZ6 W := by
      have r91_977 : W 91 977 = 1 * ρ 4 + (1 * ρ 0 + 0) := by rw [hW, sU_at]
      have c109 : ∀ k : Nat, k ≠ (1 * ρ 1 + 0).toNat → W 109 k = M 109 k := fun k hk => by rw [hW, sU_ne (fun z => by omega), sU_ne (fun z => by omega)]
      have a109 : W 109 (1 * ρ 1 + 0).toNat = 1 * ρ 3 + 0 := by rw [hW, sU_ne (fun z => by omega), sU_at]
      intro j hj
      rw [r91_977] at hj
      by_cases hc : j = (1 * ρ 1 + 0).toNat
      · rw [hc, a109, c109 _ (by omega), show 2 + (1 * ρ 1 + 0).toNat = (ρ 2).toNat by omega, m1]
      · rw [c109 j hc, c109 (2 + j) (by omega)]
        exact qxZ6 j (by omega)
    have k_xZ7 : xZ7 W := by
      rw [hW]
      exact (uxZ7 rfl (uxZ7 (sinc_ok rfl _) hI.2.2.2.1.2.2.2.2.2.2.2.2.2.1))
    have k_xZ8 : xZ8 W := by
      rw [hW]
      exact (uxZ8 rfl (uxZ8 (sinc_ok rfl _) hI.2.2.2.1.2.2.2.2.2.2.2.2.2.2.1))
    have k_xZ9 : xZ9 W := by
      rw [hW]
      exact (uxZ9 rfl (uxZ9 (sinc_ok rfl _) hI.2.2.2.1.2.2.2.2.2.2.2.2.2.2.2.1))
    have k_xZa : xZa W := by
      rw [hW]
      exact (uxZa rfl (uxZa (sinc_ok rfl _) hI.2.2.2.1.2.2.2.2.2.2.2.2.2.2.2.2.1))
    have k_xZb : xZb W := by
      rw [hW]
      exact (uxZb rfl (uxZb (sinc_ok rfl _) hI.2.2.2.1.2.2.2.2.2.2.2.2.2.2.2.2.2.1))
    have k_xT1 : xT1 W := by
      rw [hW]
      exact (uxT1 rfl (uxT1 (sinc_ok rfl _) hI.2.2.2.1.2.2.2.2.2.2.2.2.2.2.2.2.2.2))
    have kXA : XA W := ⟨k_xY1, k_xY2, k_xY3, k_xZ1, k_xZ2, k_xZ3, k_xZ4, k_xZ5, k_xZ6, k_xZ7, k_xZ8, k_xZ9, k_xZa, k_xZb, k_xT1⟩
    have kXB : XB W := by
      rw [hW]
      exact (uXB rfl (uXB (sinc_ok rfl _) hI.2.2.2.2))
    exact ⟨base, k2, k3, kXA, kXB⟩
-- cp110
def xr_56 : qRu := (5, [[(1, 1)], [(63, 0), (-1, 1)], [(-64, 0), (-1, 1), (1, 2)], [(64, 0), (1, 1), (-1, 2)], [(1, 1), (-1, 4)], [(-1, 1), (1, 4)]], [(91, 978, [(1, 4)]), (110, 1002, [(1, 3)]), (91, 975, [])], [(110, [(1, 1)], [(1, 3)])], [(91, 978, [(1, 4), (1, 0)]), (91, 964, [])], [])
theorem xo_56 : qRok xr_56 := by
  intro ρ M h0 hf hm hI
  have f0 := hf [(1, 1)] (by decide)
  have f1 := hf [(63, 0), (-1, 1)] (by decide)
  have f2 := hf [(-64, 0), (-1, 1), (1, 2)] (by decide)
  have f3 := hf [(64, 0), (1, 1), (-1, 2)] (by decide)
  have f4 := hf [(1, 1), (-1, 4)] (by decide)
  have f5 := hf [(-1, 1), (1, 4)] (by decide)
  simp only [qD, h0] at f0 f1 f2 f3 f4 f5
  have m0 : M 91 978 = 1 * ρ 4 + 0 := hm (91, 978, [(1, 4)]) (by decide)
  have m1 : M 110 (zIx ρ (1000 + 2)) = 1 * ρ 3 + 0 := hm (110, 1002, [(1, 3)]) (by decide)
  rw [zix_p] at m1
  have m2 : M 91 975 = 0 := hm (91, 975, []) (by decide)
  have qxZ1 := hI.2.2.2.1.2.2.2.1
  have qxZ2 := hI.2.2.2.1.2.2.2.2.1
  have qxZ3 := hI.2.2.2.1.2.2.2.2.2.1
  have qxZ4 := hI.2.2.2.1.2.2.2.2.2.2.1
  have qxZ7 := hI.2.2.2.1.2.2.2.2.2.2.2.2.2.1
  have qxZ9 := hI.2.2.2.1.2.2.2.2.2.2.2.2.2.2.2.1
  have qxZa := hI.2.2.2.1.2.2.2.2.2.2.2.2.2.2.2.2.1
  have hv : 0 ≤ M 110 (ρ 2).toNat ∧ M 110 (ρ 2).toNat ≤ 2 := hI.1 110 (ρ 2).toNat (0, 2) (xs_110 (by omega))
  have hn : (0 : Int) ≤ M 93 17 ∧ M 93 17 ≤ 64 := hI.1 93 17 (0, 64) rfl
  refine ⟨ρ, fun _ _ => rfl, fun f h => ?_, ?_⟩
  · exact nomatch h
  · show sI (sU (sU (sU M 110 (1 * ρ 1 + 0 : Int).toNat (1 * ρ 3 + 0)) 91 978 (1 * ρ 4 + (1 * ρ 0 + 0))) 91 964 (0))
    obtain ⟨W, hW⟩ : ∃ W, W = (sU (sU (sU M 110 (1 * ρ 1 + 0).toNat (1 * ρ 3 + 0)) 91 978 (1 * ρ 4 + (1 * ρ 0 + 0))) 91 964 (0)) := ⟨_, rfl⟩
    rw [← hW]
    have base : sI0 W := by
      rw [hW]
      exact (si_u0 (si_u0 (si_u0 hI.1 (fun r hr => by rw [xt_110 hr]; exact ⟨by show (0 : Int) ≤ _; omega, by show _ ≤ (2 : Int); omega⟩)) (fun r hr => by cases hr)) (fun r hr => by cases hr))
    have k2 : XI2 W := by
      rw [hW]
      exact (xi2_u rfl (xi2_u rfl (xi2_u (sinc_ok rfl _) hI.2.1)))
    have k3 : XI3 W := by
      rw [hW]
      exact (xi3_u rfl (xi3_u rfl (xi3_u (sinc_ok rfl _) hI.2.2.1)))
    have k_xY1 : xY1 W := by
      rw [hW]
      exact (uxY1 rfl (uxY1 rfl (uxY1 (sinc_ok rfl _) hI.2.2.2.1.1)))
    have k_xY2 : xY2 W := by
      rw [hW]
      exact (uxY2 rfl (uxY2 rfl (uxY2 (sinc_ok rfl _) hI.2.2.2.1.2.1)))
    have k_xY3 : xY3 W := by
      rw [hW]
      exact (uxY3 rfl (uxY3 rfl (uxY3 (sinc_ok rfl _) hI.2.2.2.1.2.2.1)))
    have k_xZ1 : xZ1 W := by
      have r91_970 : W 91 970 = M 91 970 := by rw [hW, sU_ne (fun z => by omega), sU_ne (fun z => by omega), sU_ne (fun z => by omega)]
      have r91_971 : W 91 971 = M 91 971 := by rw [hW, sU_ne (fun z => by omega), sU_ne (fun z => by omega), sU_ne (fun z => by omega)]
      have r93_17 : W 93 17 = M 93 17 := by rw [hW, sU_ne (fun z => by omega), sU_ne (fun z => by omega), sU_ne (fun z => by omega)]
      have c110 : ∀ k : Nat, k ≠ (1 * ρ 1 + 0).toNat → W 110 k = M 110 k := fun k hk => by rw [hW, sU_ne (fun z => by omega), sU_ne (fun z => by omega), sU_ne (fun z => by omega)]
      have a110 : W 110 (1 * ρ 1 + 0).toNat = 1 * ρ 3 + 0 := by rw [hW, sU_ne (fun z => by omega), sU_ne (fun z => by omega), sU_at]
      have c111 : ∀ k, W 111 k = M 111 k := fun k => by rw [hW, sU_ne (fun z => by omega), sU_ne (fun z => by omega), sU_ne (fun z => by omega)]
      exact xz1_of r91_970 r91_971 r93_17 (fun k a b => ⟨c110 k (by omega), c111 k⟩) qxZ1
    have k_xZ2 : xZ2 W := by
      have r91_972 : W 91 972 = M 91 972 := by rw [hW, sU_ne (fun z => by omega), sU_ne (fun z => by omega), sU_ne (fun z => by omega)]
      have r91_973 : W 91 973 = M 91 973 := by rw [hW, sU_ne (fun z => by omega), sU_ne (fun z => by omega), sU_ne (fun z => by omega)]
      have r91_987 : W 91 987 = M 91 987 := by rw [hW, sU_ne (fun z => by omega), sU_ne (fun z => by omega), sU_ne (fun z => by omega)]
      have r91_988 : W 91 988 = M 91 988 := by rw [hW, sU_ne (fun z => by omega), sU_ne (fun z => by omega), sU_ne (fun z => by omega)]
      have r91_989 : W 91 989 = M 91 989 := by rw [hW, sU_ne (fun z => by omega), sU_ne (fun z => by omega), sU_ne (fun z => by omega)]
      have r93_17 : W 93 17 = M 93 17 := by rw [hW, sU_ne (fun z => by omega), sU_ne (fun z => by omega), sU_ne (fun z => by omega)]
      have c110 : ∀ k : Nat, k ≠ (1 * ρ 1 + 0).toNat → W 110 k = M 110 k := fun k hk => by rw [hW, sU_ne (fun z => by omega), sU_ne (fun z => by omega), sU_ne (fun z => by omega)]
      have a110 : W 110 (1 * ρ 1 + 0).toNat = 1 * ρ 3 + 0 := by rw [hW, sU_ne (fun z => by omega), sU_ne (fun z => by omega), sU_at]
      have c111 : ∀ k, W 111 k = M 111 k := fun k => by rw [hW, sU_ne (fun z => by omega), sU_ne (fun z => by omega), sU_ne (fun z => by omega)]
      unfold xZ2
      rw [r91_972, r91_973, r91_987, r91_988, r91_989, r93_17, c110 _ (by omega), c111]
      exact qxZ2
    have k_xZ3 : xZ3 W := by
      have r91_974 : W 91 974 = M 91 974 := by rw [hW, sU_ne (fun z => by omega), sU_ne (fun z => by omega), sU_ne (fun z => by omega)]
      have r93_17 : W 93 17 = M 93 17 := by rw [hW, sU_ne (fun z => by omega), sU_ne (fun z => by omega), sU_ne (fun z => by omega)]
      have c108 : ∀ k, W 108 k = M 108 k := fun k => by rw [hW, sU_ne (fun z => by omega), sU_ne (fun z => by omega), sU_ne (fun z => by omega)]
      have c109 : ∀ k, W 109 k = M 109 k := fun k => by rw [hW, sU_ne (fun z => by omega), sU_ne (fun z => by omega), sU_ne (fun z => by omega)]
      have c110 : ∀ k : Nat, k ≠ (1 * ρ 1 + 0).toNat → W 110 k = M 110 k := fun k hk => by rw [hW, sU_ne (fun z => by omega), sU_ne (fun z => by omega), sU_ne (fun z => by omega)]
      have a110 : W 110 (1 * ρ 1 + 0).toNat = 1 * ρ 3 + 0 := by rw [hW, sU_ne (fun z => by omega), sU_ne (fun z => by omega), sU_at]
      have c111 : ∀ k, W 111 k = M 111 k := fun k => by rw [hW, sU_ne (fun z => by omega), sU_ne (fun z => by omega), sU_ne (fun z => by omega)]
      exact xz3_of r91_974 (by rw [r93_17]; exact Int.le_refl _) (fun k a b => ⟨c108 k, c109 k⟩) (fun k a b => ⟨c110 k (by omega), c111 k⟩) qxZ3
    have k_xZ4 : xZ4 W := by
      have r91_975 : W 91 975 = M 91 975 := by rw [hW, sU_ne (fun z => by omega), sU_ne (fun z => by omega), sU_ne (fun z => by omega)]
      have c108 : ∀ k, W 108 k = M 108 k := fun k => by rw [hW, sU_ne (fun z => by omega), sU_ne (fun z => by omega), sU_ne (fun z => by omega)]
      have c109 : ∀ k, W 109 k = M 109 k := fun k => by rw [hW, sU_ne (fun z => by omega), sU_ne (fun z => by omega), sU_ne (fun z => by omega)]
      have c110 : ∀ k : Nat, k ≠ (1 * ρ 1 + 0).toNat → W 110 k = M 110 k := fun k hk => by rw [hW, sU_ne (fun z => by omega), sU_ne (fun z => by omega), sU_ne (fun z => by omega)]
      have a110 : W 110 (1 * ρ 1 + 0).toNat = 1 * ρ 3 + 0 := by rw [hW, sU_ne (fun z => by omega), sU_ne (fun z => by omega), sU_at]
      have c111 : ∀ k, W 111 k = M 111 k := fun k => by rw [hW, sU_ne (fun z => by omega), sU_ne (fun z => by omega), sU_ne (fun z => by omega)]
      intro h
      rw [r91_975] at h
      omega
    have k_xZ5 : xZ5 W := by
      rw [hW]
      exact (uxZ5 rfl (uxZ5 rfl (uxZ5 (sinc_ok rfl _) hI.2.2.2.1.2.2.2.2.2.2.2.1)))
    have k_xZ6 : xZ6 W := by
      rw [hW]
      exact (uxZ6 rfl (uxZ6 rfl (uxZ6 (sinc_ok rfl _) hI.2.2.2.1.2.2.2.2.2.2.2.2.1)))
    have k_xZ7 : xZ7 W := by
      have r91_978 : W 91 978 = 1 * ρ 4 + (1 * ρ 0 + 0) := by rw [hW, sU_ne (fun z => by omega), sU_at]
      have c110 : ∀ k : Nat, k ≠ (1 * ρ 1 + 0).toNat → W 110 k = M 110 k := fun k hk => by rw [hW, sU_ne (fun z => by omega), sU_ne (fun z => by omega), sU_ne (fun z => by omega)]
      have a110 : W 110 (1 * ρ 1 + 0).toNat = 1 * ρ 3 + 0 := by rw [hW, sU_ne (fun z => by omega), sU_ne (fun z => by omega), sU_at]
      intro j hj
      rw [r91_978] at hj
      by_cases hc : j = (1 * ρ 1 + 0).toNat
      · rw [hc, a110, c110 _ (by omega), show 64 + (1 * ρ 1 + 0).toNat = (ρ 2).toNat by omega, m1]
      · rw [c110 j hc, c110 (64 + j) (by omega)]
        exact qxZ7 j (by omega)
    have k_xZ8 : xZ8 W := by
      rw [hW]
      exact (uxZ8 rfl (uxZ8 rfl (uxZ8 (sinc_ok rfl _) hI.2.2.2.1.2.2.2.2.2.2.2.2.2.2.1)))
    have k_xZ9 : xZ9 W := by
      have r91_964 : W 91 964 = 0 := by rw [hW, sU_at]
      have r91_980 : W 91 980 = M 91 980 := by rw [hW, sU_ne (fun z => by omega), sU_ne (fun z => by omega), sU_ne (fun z => by omega)]
      have r91_981 : W 91 981 = M 91 981 := by rw [hW, sU_ne (fun z => by omega), sU_ne (fun z => by omega), sU_ne (fun z => by omega)]
      have r91_982 : W 91 982 = M 91 982 := by rw [hW, sU_ne (fun z => by omega), sU_ne (fun z => by omega), sU_ne (fun z => by omega)]
      have c110 : ∀ k : Nat, k ≠ (1 * ρ 1 + 0).toNat → W 110 k = M 110 k := fun k hk => by rw [hW, sU_ne (fun z => by omega), sU_ne (fun z => by omega), sU_ne (fun z => by omega)]
      have a110 : W 110 (1 * ρ 1 + 0).toNat = 1 * ρ 3 + 0 := by rw [hW, sU_ne (fun z => by omega), sU_ne (fun z => by omega), sU_at]
      have c111 : ∀ k, W 111 k = M 111 k := fun k => by rw [hW, sU_ne (fun z => by omega), sU_ne (fun z => by omega), sU_ne (fun z => by omega)]
      intro h
      rw [r91_964] at h
      omega
    have k_xZa : xZa W := by
      have r91_964 : W 91 964 = 0 := by rw [hW, sU_at]
      have r91_981 : W 91 981 = M 91 981 := by rw [hW, sU_ne (fun z => by omega), sU_ne (fun z => by omega), sU_ne (fun z => by omega)]
      have r91_960 : W 91 960 = M 91 960 := by rw [hW, sU_ne (fun z => by omega), sU_ne (fun z => by omega), sU_ne (fun z => by omega)]
      have r91_961 : W 91 961 = M 91 961 := by rw [hW, sU_ne (fun z => by omega), sU_ne (fun z => by omega), sU_ne (fun z => by omega)]
      have r91_962 : W 91 962 = M 91 962 := by rw [hW, sU_ne (fun z => by omega), sU_ne (fun z => by omega), sU_ne (fun z => by omega)]
      have r91_963 : W 91 963 = M 91 963 := by rw [hW, sU_ne (fun z => by omega), sU_ne (fun z => by omega), sU_ne (fun z => by omega)]
      have c110 : ∀ k : Nat, k ≠ (1 * ρ 1 + 0).toNat → W 110 k = M 110 k := fun k hk => by rw [hW, sU_ne (fun z => by omega), sU_ne (fun z => by omega), sU_ne (fun z => by omega)]
      have a110 : W 110 (1 * ρ 1 + 0).toNat = 1 * ρ 3 + 0 := by rw [hW, sU_ne (fun z => by omega), sU_ne (fun z => by omega), sU_at]
      have c111 : ∀ k, W 111 k = M 111 k := fun k => by rw [hW, sU_ne (fun z => by omega), sU_ne (fun z => by omega), sU_ne (fun z => by omega)]
      intro h
      rw [r91_964] at h
      omega
    have k_xZb : xZb W := by
      rw [hW]
      exact (uxZb rfl (uxZb rfl (uxZb (sinc_ok rfl _) hI.2.2.2.1.2.2.2.2.2.2.2.2.2.2.2.2.2.1)))
    have k_xT1 : xT1 W := by
      rw [hW]
      exact (uxT1 rfl (uxT1 rfl (uxT1 (sinc_ok rfl _) hI.2.2.2.1.2.2.2.2.2.2.2.2.2.2.2.2.2.2)))
    have kXA : XA W := ⟨k_xY1, k_xY2, k_xY3, k_xZ1, k_xZ2, k_xZ3, k_xZ4, k_xZ5, k_xZ6, k_xZ7, k_xZ8, k_xZ9, k_xZa, k_xZb, k_xT1⟩
    have kXB : XB W := by
      rw [hW]
      exact (uXB rfl (uXB rfl (uXB (sinc_ok rfl _) hI.2.2.2.2)))
    exact ⟨base, k2, k3, kXA, kXB⟩
-- cp111
def xr_57 : qRu := (5, [[(1, 1)], [(63, 0), (-1, 1)], [(-64, 0), (-1, 1), (1, 2)], [(64, 0), (1, 1), (-1, 2)], [(1, 1), (-1, 4)], [(-1, 1), (1, 4)]], [(91, 979, [(1, 4)]), (111, 1002, [(1, 3)]), (91, 975, [])], [(111, [(1, 1)], [(1, 3)])], [(91, 979, [(1, 4), (1, 0)]), (91, 964, [])], [])
theorem xo_57 : qRok xr_57 := by
  intro ρ M h0 hf hm hI
  have f0 := hf [(1, 1)] (by decide)
  have f1 := hf [(63, 0), (-1, 1)] (by decide)
  have f2 := hf [(-64, 0), (-1, 1), (1, 2)] (by decide)
  have f3 := hf [(64, 0), (1, 1), (-1, 2)] (by decide)
  have f4 := hf [(1, 1), (-1, 4)] (by decide)
  have f5 := hf [(-1, 1), (1, 4)] (by decide)
  simp only [qD, h0] at f0 f1 f2 f3 f4 f5
  have m0 : M 91 979 = 1 * ρ 4 + 0 := hm (91, 979, [(1, 4)]) (by decide)
  have m1 : M 111 (zIx ρ (1000 + 2)) = 1 * ρ 3 + 0 := hm (111, 1002, [(1, 3)]) (by decide)
  rw [zix_p] at m1
  have m2 : M 91 975 = 0 := hm (91, 975, []) (by decide)
  have qxZ1 := hI.2.2.2.1.2.2.2.1
  have qxZ2 := hI.2.2.2.1.2.2.2.2.1
  have qxZ3 := hI.2.2.2.1.2.2.2.2.2.1
  have qxZ4 := hI.2.2.2.1.2.2.2.2.2.2.1
  have qxZ8 := hI.2.2.2.1.2.2.2.2.2.2.2.2.2.2.1
  have qxZ9 := hI.2.2.2.1.2.2.2.2.2.2.2.2.2.2.2.1
  have qxZa := hI.2.2.2.1.2.2.2.2.2.2.2.2.2.2.2.2.1
  have hv : (-2147483648) ≤ M 111 (ρ 2).toNat ∧ M 111 (ρ 2).toNat ≤ 2147483647 := hI.1 111 (ρ 2).toNat ((-2147483648), 2147483647) (xs_111 (by omega))
  have hn : (0 : Int) ≤ M 93 17 ∧ M 93 17 ≤ 64 := hI.1 93 17 (0, 64) rfl
  refine ⟨ρ, fun _ _ => rfl, fun f h => ?_, ?_⟩
  · exact nomatch h
  · show sI (sU (sU (sU M 111 (1 * ρ 1 + 0 : Int).toNat (1 * ρ 3 + 0)) 91 979 (1 * ρ 4 + (1 * ρ 0 + 0))) 91 964 (0))
    obtain ⟨W, hW⟩ : ∃ W, W = (sU (sU (sU M 111 (1 * ρ 1 + 0).toNat (1 * ρ 3 + 0)) 91 979 (1 * ρ 4 + (1 * ρ 0 + 0))) 91 964 (0)) := ⟨_, rfl⟩
    rw [← hW]
    have base : sI0 W := by
      rw [hW]
      exact (si_u0 (si_u0 (si_u0 hI.1 (fun r hr => by rw [xt_111 hr]; exact ⟨by show (-2147483648 : Int) ≤ _; omega, by show _ ≤ (2147483647 : Int); omega⟩)) (fun r hr => by cases hr)) (fun r hr => by cases hr))
    have k2 : XI2 W := by
      rw [hW]
      exact (xi2_u rfl (xi2_u rfl (xi2_u (sinc_ok rfl _) hI.2.1)))
    have k3 : XI3 W := by
      rw [hW]
      exact (xi3_u rfl (xi3_u rfl (xi3_u (sinc_ok rfl _) hI.2.2.1)))
    have k_xY1 : xY1 W := by
      rw [hW]
      exact (uxY1 rfl (uxY1 rfl (uxY1 (sinc_ok rfl _) hI.2.2.2.1.1)))
    have k_xY2 : xY2 W := by
      rw [hW]
      exact (uxY2 rfl (uxY2 rfl (uxY2 (sinc_ok rfl _) hI.2.2.2.1.2.1)))
    have k_xY3 : xY3 W := by
      rw [hW]
      exact (uxY3 rfl (uxY3 rfl (uxY3 (sinc_ok rfl _) hI.2.2.2.1.2.2.1)))
    have k_xZ1 : xZ1 W := by
      have r91_970 : W 91 970 = M 91 970 := by rw [hW, sU_ne (fun z => by omega), sU_ne (fun z => by omega), sU_ne (fun z => by omega)]
      have r91_971 : W 91 971 = M 91 971 := by rw [hW, sU_ne (fun z => by omega), sU_ne (fun z => by omega), sU_ne (fun z => by omega)]
      have r93_17 : W 93 17 = M 93 17 := by rw [hW, sU_ne (fun z => by omega), sU_ne (fun z => by omega), sU_ne (fun z => by omega)]
      have c110 : ∀ k, W 110 k = M 110 k := fun k => by rw [hW, sU_ne (fun z => by omega), sU_ne (fun z => by omega), sU_ne (fun z => by omega)]
      have c111 : ∀ k : Nat, k ≠ (1 * ρ 1 + 0).toNat → W 111 k = M 111 k := fun k hk => by rw [hW, sU_ne (fun z => by omega), sU_ne (fun z => by omega), sU_ne (fun z => by omega)]
      have a111 : W 111 (1 * ρ 1 + 0).toNat = 1 * ρ 3 + 0 := by rw [hW, sU_ne (fun z => by omega), sU_ne (fun z => by omega), sU_at]
      exact xz1_of r91_970 r91_971 r93_17 (fun k a b => ⟨c110 k, c111 k (by omega)⟩) qxZ1
    have k_xZ2 : xZ2 W := by
      have r91_972 : W 91 972 = M 91 972 := by rw [hW, sU_ne (fun z => by omega), sU_ne (fun z => by omega), sU_ne (fun z => by omega)]
      have r91_973 : W 91 973 = M 91 973 := by rw [hW, sU_ne (fun z => by omega), sU_ne (fun z => by omega), sU_ne (fun z => by omega)]
      have r91_987 : W 91 987 = M 91 987 := by rw [hW, sU_ne (fun z => by omega), sU_ne (fun z => by omega), sU_ne (fun z => by omega)]
      have r91_988 : W 91 988 = M 91 988 := by rw [hW, sU_ne (fun z => by omega), sU_ne (fun z => by omega), sU_ne (fun z => by omega)]
      have r91_989 : W 91 989 = M 91 989 := by rw [hW, sU_ne (fun z => by omega), sU_ne (fun z => by omega), sU_ne (fun z => by omega)]
      have r93_17 : W 93 17 = M 93 17 := by rw [hW, sU_ne (fun z => by omega), sU_ne (fun z => by omega), sU_ne (fun z => by omega)]
      have c110 : ∀ k, W 110 k = M 110 k := fun k => by rw [hW, sU_ne (fun z => by omega), sU_ne (fun z => by omega), sU_ne (fun z => by omega)]
      have c111 : ∀ k : Nat, k ≠ (1 * ρ 1 + 0).toNat → W 111 k = M 111 k := fun k hk => by rw [hW, sU_ne (fun z => by omega), sU_ne (fun z => by omega), sU_ne (fun z => by omega)]
      have a111 : W 111 (1 * ρ 1 + 0).toNat = 1 * ρ 3 + 0 := by rw [hW, sU_ne (fun z => by omega), sU_ne (fun z => by omega), sU_at]
      unfold xZ2
      rw [r91_972, r91_973, r91_987, r91_988, r91_989, r93_17, c110, c111 _ (by omega)]
      exact qxZ2
    have k_xZ3 : xZ3 W := by
      have r91_974 : W 91 974 = M 91 974 := by rw [hW, sU_ne (fun z => by omega), sU_ne (fun z => by omega), sU_ne (fun z => by omega)]
      have r93_17 : W 93 17 = M 93 17 := by rw [hW, sU_ne (fun z => by omega), sU_ne (fun z => by omega), sU_ne (fun z => by omega)]
      have c108 : ∀ k, W 108 k = M 108 k := fun k => by rw [hW, sU_ne (fun z => by omega), sU_ne (fun z => by omega), sU_ne (fun z => by omega)]
      have c109 : ∀ k, W 109 k = M 109 k := fun k => by rw [hW, sU_ne (fun z => by omega), sU_ne (fun z => by omega), sU_ne (fun z => by omega)]
      have c110 : ∀ k, W 110 k = M 110 k := fun k => by rw [hW, sU_ne (fun z => by omega), sU_ne (fun z => by omega), sU_ne (fun z => by omega)]
      have c111 : ∀ k : Nat, k ≠ (1 * ρ 1 + 0).toNat → W 111 k = M 111 k := fun k hk => by rw [hW, sU_ne (fun z => by omega), sU_ne (fun z => by omega), sU_ne (fun z => by omega)]
      have a111 : W 111 (1 * ρ 1 + 0).toNat = 1 * ρ 3 + 0 := by rw [hW, sU_ne (fun z => by omega), sU_ne (fun z => by omega), sU_at]
      exact xz3_of r91_974 (by rw [r93_17]; exact Int.le_refl _) (fun k a b => ⟨c108 k, c109 k⟩) (fun k a b => ⟨c110 k, c111 k (by omega)⟩) qxZ3
    have k_xZ4 : xZ4 W := by
      have r91_975 : W 91 975 = M 91 975 := by rw [hW, sU_ne (fun z => by omega), sU_ne (fun z => by omega), sU_ne (fun z => by omega)]
      have c108 : ∀ k, W 108 k = M 108 k := fun k => by rw [hW, sU_ne (fun z => by omega), sU_ne (fun z => by omega), sU_ne (fun z => by omega)]
      have c109 : ∀ k, W 109 k = M 109 k := fun k => by rw [hW, sU_ne (fun z => by omega), sU_ne (fun z => by omega), sU_ne (fun z => by omega)]
      have c110 : ∀ k, W 110 k = M 110 k := fun k => by rw [hW, sU_ne (fun z => by omega), sU_ne (fun z => by omega), sU_ne (fun z => by omega)]
      have c111 : ∀ k : Nat, k ≠ (1 * ρ 1 + 0).toNat → W 111 k = M 111 k := fun k hk => by rw [hW, sU_ne (fun z => by omega), sU_ne (fun z => by omega), sU_ne (fun z => by omega)]
      have a111 : W 111 (1 * ρ 1 + 0).toNat = 1 * ρ 3 + 0 := by rw [hW, sU_ne (fun z => by omega), sU_ne (fun z => by omega), sU_at]
      intro h
      rw [r91_975] at h
      omega
    have k_xZ5 : xZ5 W := by
      rw [hW]
      exact (uxZ5 rfl (uxZ5 rfl (uxZ5 (sinc_ok rfl _) hI.2.2.2.1.2.2.2.2.2.2.2.1)))
    have k_xZ6 : xZ6 W := by
      rw [hW]
      exact (uxZ6 rfl (uxZ6 rfl (uxZ6 (sinc_ok rfl _) hI.2.2.2.1.2.2.2.2.2.2.2.2.1)))
    have k_xZ7 : xZ7 W := by
      rw [hW]
      exact (uxZ7 rfl (uxZ7 rfl (uxZ7 (sinc_ok rfl _) hI.2.2.2.1.2.2.2.2.2.2.2.2.2.1)))
    have k_xZ8 : xZ8 W := by
      have r91_979 : W 91 979 = 1 * ρ 4 + (1 * ρ 0 + 0) := by rw [hW, sU_ne (fun z => by omega), sU_at]
      have c111 : ∀ k : Nat, k ≠ (1 * ρ 1 + 0).toNat → W 111 k = M 111 k := fun k hk => by rw [hW, sU_ne (fun z => by omega), sU_ne (fun z => by omega), sU_ne (fun z => by omega)]
      have a111 : W 111 (1 * ρ 1 + 0).toNat = 1 * ρ 3 + 0 := by rw [hW, sU_ne (fun z => by omega), sU_ne (fun z => by omega), sU_at]
      intro j hj
      rw [r91_979] at hj
      by_cases hc : j = (1 * ρ 1 + 0).toNat
      · rw [hc, a111, c111 _ (by omega), show 64 + (1 * ρ 1 + 0).toNat = (ρ 2).toNat by omega, m1]
      · rw [c111 j hc, c111 (64 + j) (by omega)]
        exact qxZ8 j (by omega)
    have k_xZ9 : xZ9 W := by
      have r91_964 : W 91 964 = 0 := by rw [hW, sU_at]
      have r91_980 : W 91 980 = M 91 980 := by rw [hW, sU_ne (fun z => by omega), sU_ne (fun z => by omega), sU_ne (fun z => by omega)]
      have r91_981 : W 91 981 = M 91 981 := by rw [hW, sU_ne (fun z => by omega), sU_ne (fun z => by omega), sU_ne (fun z => by omega)]
      have r91_982 : W 91 982 = M 91 982 := by rw [hW, sU_ne (fun z => by omega), sU_ne (fun z => by omega), sU_ne (fun z => by omega)]
      have c110 : ∀ k, W 110 k = M 110 k := fun k => by rw [hW, sU_ne (fun z => by omega), sU_ne (fun z => by omega), sU_ne (fun z => by omega)]
      have c111 : ∀ k : Nat, k ≠ (1 * ρ 1 + 0).toNat → W 111 k = M 111 k := fun k hk => by rw [hW, sU_ne (fun z => by omega), sU_ne (fun z => by omega), sU_ne (fun z => by omega)]
      have a111 : W 111 (1 * ρ 1 + 0).toNat = 1 * ρ 3 + 0 := by rw [hW, sU_ne (fun z => by omega), sU_ne (fun z => by omega), sU_at]
      intro h
      rw [r91_964] at h
      omega
    have k_xZa : xZa W := by
      have r91_964 : W 91 964 = 0 := by rw [hW, sU_at]
      have r91_981 : W 91 981 = M 91 981 := by rw [hW, sU_ne (fun z => by omega), sU_ne (fun z => by omega), sU_ne (fun z => by omega)]
      have r91_960 : W 91 960 = M 91 960 := by rw [hW, sU_ne (fun z => by omega), sU_ne (fun z => by omega), sU_ne (fun z => by omega)]
      have r91_961 : W 91 961 = M 91 961 := by rw [hW, sU_ne (fun z => by omega), sU_ne (fun z => by omega), sU_ne (fun z => by omega)]
      have r91_962 : W 91 962 = M 91 962 := by rw [hW, sU_ne (fun z => by omega), sU_ne (fun z => by omega), sU_ne (fun z => by omega)]
      have r91_963 : W 91 963 = M 91 963 := by rw [hW, sU_ne (fun z => by omega), sU_ne (fun z => by omega), sU_ne (fun z => by omega)]
      have c110 : ∀ k, W 110 k = M 110 k := fun k => by rw [hW, sU_ne (fun z => by omega), sU_ne (fun z => by omega), sU_ne (fun z => by omega)]
      have c111 : ∀ k : Nat, k ≠ (1 * ρ 1 + 0).toNat → W 111 k = M 111 k := fun k hk => by rw [hW, sU_ne (fun z => by omega), sU_ne (fun z => by omega), sU_ne (fun z => by omega)]
      have a111 : W 111 (1 * ρ 1 + 0).toNat = 1 * ρ 3 + 0 := by rw [hW, sU_ne (fun z => by omega), sU_ne (fun z => by omega), sU_at]
      intro h
      rw [r91_964] at h
      omega
    have k_xZb : xZb W := by
      rw [hW]
      exact (uxZb rfl (uxZb rfl (uxZb (sinc_ok rfl _) hI.2.2.2.1.2.2.2.2.2.2.2.2.2.2.2.2.2.1)))
    have k_xT1 : xT1 W := by
      rw [hW]
      exact (uxT1 rfl (uxT1 rfl (uxT1 (sinc_ok rfl _) hI.2.2.2.1.2.2.2.2.2.2.2.2.2.2.2.2.2.2)))
    have kXA : XA W := ⟨k_xY1, k_xY2, k_xY3, k_xZ1, k_xZ2, k_xZ3, k_xZ4, k_xZ5, k_xZ6, k_xZ7, k_xZ8, k_xZ9, k_xZa, k_xZb, k_xT1⟩
    have kXB : XB W := by
      rw [hW]
      exact (uXB rfl (uXB rfl (uXB (sinc_ok rfl _) hI.2.2.2.2)))
    exact ⟨base, k2, k3, kXA, kXB⟩
-- on
def xr_58 : qRu := (7, [[(-2, 0), (1, 1)], [(2, 0), (-1, 1)], [(-2, 0), (1, 2)], [(2, 0), (-1, 2)], [(-64, 0), (1, 3)], [(64, 0), (-1, 3)], [(-64, 0), (1, 4)], [(64, 0), (-1, 4)], [(-6, 0), (1, 5)], [(6, 0), (-1, 5)], [(-6, 0), (1, 6)], [(6, 0), (-1, 6)]], [(91, 974, [(1, 0)]), (91, 976, [(1, 1)]), (91, 977, [(1, 2)]), (91, 978, [(1, 3)]), (91, 979, [(1, 4)]), (91, 956, [(1, 5)]), (91, 957, [(1, 6)])], [], [(91, 975, [(1, 0)])], [])
theorem xo_58 : qRok xr_58 := by
  intro ρ M h0 hf hm hI
  have f0 := hf [(-2, 0), (1, 1)] (by decide)
  have f1 := hf [(2, 0), (-1, 1)] (by decide)
  have f2 := hf [(-2, 0), (1, 2)] (by decide)
  have f3 := hf [(2, 0), (-1, 2)] (by decide)
  have f4 := hf [(-64, 0), (1, 3)] (by decide)
  have f5 := hf [(64, 0), (-1, 3)] (by decide)
  have f6 := hf [(-64, 0), (1, 4)] (by decide)
  have f7 := hf [(64, 0), (-1, 4)] (by decide)
  have f8 := hf [(-6, 0), (1, 5)] (by decide)
  have f9 := hf [(6, 0), (-1, 5)] (by decide)
  have f10 := hf [(-6, 0), (1, 6)] (by decide)
  have f11 := hf [(6, 0), (-1, 6)] (by decide)
  simp only [qD, h0] at f0 f1 f2 f3 f4 f5 f6 f7 f8 f9 f10 f11
  have m0 : M 91 974 = 1 * ρ 0 + 0 := hm (91, 974, [(1, 0)]) (by decide)
  have m1 : M 91 976 = 1 * ρ 1 + 0 := hm (91, 976, [(1, 1)]) (by decide)
  have m2 : M 91 977 = 1 * ρ 2 + 0 := hm (91, 977, [(1, 2)]) (by decide)
  have m3 : M 91 978 = 1 * ρ 3 + 0 := hm (91, 978, [(1, 3)]) (by decide)
  have m4 : M 91 979 = 1 * ρ 4 + 0 := hm (91, 979, [(1, 4)]) (by decide)
  have m5 : M 91 956 = 1 * ρ 5 + 0 := hm (91, 956, [(1, 5)]) (by decide)
  have m6 : M 91 957 = 1 * ρ 6 + 0 := hm (91, 957, [(1, 6)]) (by decide)
  simp only [h0] at m0
  have qxZ3 := hI.2.2.2.1.2.2.2.2.2.1
  have qxZ4 := hI.2.2.2.1.2.2.2.2.2.2.1
  have qxZ5 := hI.2.2.2.1.2.2.2.2.2.2.2.1
  have qxZ6 := hI.2.2.2.1.2.2.2.2.2.2.2.2.1
  have qxZ7 := hI.2.2.2.1.2.2.2.2.2.2.2.2.2.1
  have qxZ8 := hI.2.2.2.1.2.2.2.2.2.2.2.2.2.2.1
  have qxG2 := hI.2.2.2.2.2.2.2.2.2.2.2.2.2.2.2.2.1
  have qxG4 := hI.2.2.2.2.2.2.2.2.2.2.2.2.2.2.2.2.2.2.1
  have qxG5 := hI.2.2.2.2.2.2.2.2.2.2.2.2.2.2.2.2.2.2.2.1
  have qxG6 := hI.2.2.2.2.2.2.2.2.2.2.2.2.2.2.2.2.2.2.2.2.1
  have hn : (0 : Int) ≤ M 93 17 ∧ M 93 17 ≤ 64 := hI.1 93 17 (0, 64) rfl
  refine ⟨ρ, fun _ _ => rfl, fun f h => ?_, ?_⟩
  · exact nomatch h
  · show sI (sU M 91 975 (1 * ρ 0 + 0))
    obtain ⟨W, hW⟩ : ∃ W, W = (sU M 91 975 (1 * ρ 0 + 0)) := ⟨_, rfl⟩
    rw [← hW]
    have base : sI0 W := by
      rw [hW]
      exact (si_u0 hI.1 (fun r hr => by cases hr))
    have k2 : XI2 W := by
      rw [hW]
      exact (xi2_u rfl hI.2.1)
    have k3 : XI3 W := by
      rw [hW]
      exact (xi3_u rfl hI.2.2.1)
    have k_xY1 : xY1 W := by
      rw [hW]
      exact (uxY1 rfl hI.2.2.2.1.1)
    have k_xY2 : xY2 W := by
      rw [hW]
      exact (uxY2 rfl hI.2.2.2.1.2.1)
    have k_xY3 : xY3 W := by
      rw [hW]
      exact (uxY3 rfl hI.2.2.2.1.2.2.1)
    have k_xZ1 : xZ1 W := by
      rw [hW]
      exact (uxZ1 rfl hI.2.2.2.1.2.2.2.1)
    have k_xZ2 : xZ2 W := by
      rw [hW]
      exact (uxZ2 rfl hI.2.2.2.1.2.2.2.2.1)
    have k_xZ3 : xZ3 W := by
      rw [hW]
      exact (uxZ3 rfl hI.2.2.2.1.2.2.2.2.2.1)
    have k_xZ4 : xZ4 W := by
      have r91_975 : W 91 975 = 1 * ρ 0 + 0 := by rw [hW, sU_at]
      have c108 : ∀ k, W 108 k = M 108 k := fun k => by rw [hW, sU_ne (fun z => by omega)]
      have c109 : ∀ k, W 109 k = M 109 k := fun k => by rw [hW, sU_ne (fun z => by omega)]
      have c110 : ∀ k, W 110 k = M 110 k := fun k => by rw [hW, sU_ne (fun z => by omega)]
      have c111 : ∀ k, W 111 k = M 111 k := fun k => by rw [hW, sU_ne (fun z => by omega)]
      intro a k b
      rw [c108, c109, qxZ5 k (by omega), qxZ6 k (by omega)]
      obtain ⟨p, q⟩ := qxZ3 (by omega) (2 + k) (by omega) (by omega)
      have h9 : (0 : Int) ≤ M 109 (2 + k) ∧ M 109 (2 + k) ≤ 64 := hI.1 109 (2 + k) (0, 64) (xs_109 (by omega))
      have h8 : (0 : Int) ≤ M 108 (2 + k) ∧ M 108 (2 + k) ≤ 64 := hI.1 108 (2 + k) (0, 64) (xs_108 (by omega))
      refine ol_shift (fun j hj => ?_) q
      rw [c110, c111, qxZ7 _ (by omega), qxZ8 _ (by omega), Nat.add_assoc]
      exact ⟨rfl, rfl⟩
    have k_xZ5 : xZ5 W := by
      rw [hW]
      exact (uxZ5 rfl hI.2.2.2.1.2.2.2.2.2.2.2.1)
    have k_xZ6 : xZ6 W := by
      rw [hW]
      exact (uxZ6 rfl hI.2.2.2.1.2.2.2.2.2.2.2.2.1)
    have k_xZ7 : xZ7 W := by
      rw [hW]
      exact (uxZ7 rfl hI.2.2.2.1.2.2.2.2.2.2.2.2.2.1)
    have k_xZ8 : xZ8 W := by
      rw [hW]
      exact (uxZ8 rfl hI.2.2.2.1.2.2.2.2.2.2.2.2.2.2.1)
    have k_xZ9 : xZ9 W := by
      rw [hW]
      exact (uxZ9 rfl hI.2.2.2.1.2.2.2.2.2.2.2.2.2.2.2.1)
    have k_xZa : xZa W := by
      rw [hW]
      exact (uxZa rfl hI.2.2.2.1.2.2.2.2.2.2.2.2.2.2.2.2.1)
    have k_xZb : xZb W := by
      rw [hW]
      exact (uxZb rfl hI.2.2.2.1.2.2.2.2.2.2.2.2.2.2.2.2.2.1)
    have k_xT1 : xT1 W := by
      rw [hW]
      exact (uxT1 rfl hI.2.2.2.1.2.2.2.2.2.2.2.2.2.2.2.2.2.2)
    have kXA : XA W := ⟨k_xY1, k_xY2, k_xY3, k_xZ1, k_xZ2, k_xZ3, k_xZ4, k_xZ5, k_xZ6, k_xZ7, k_xZ8, k_xZ9, k_xZa, k_xZb, k_xT1⟩
    have k_xN1 : xN1 W := by
      rw [hW]
      exact (uxN1 rfl hI.2.2.2.2.1)
    have k_xN2 : xN2 W := by
      rw [hW]
      exact (uxN2 rfl hI.2.2.2.2.2.1)
    have k_xN3 : xN3 W := by
      rw [hW]
      exact (uxN3 rfl hI.2.2.2.2.2.2.1)
    have k_xN4 : xN4 W := by
      rw [hW]
      exact (uxN4 rfl hI.2.2.2.2.2.2.2.1)
    have k_xN5 : xN5 W := by
      rw [hW]
      exact (uxN5 rfl hI.2.2.2.2.2.2.2.2.1)
    have k_xN6 : xN6 W := by
      rw [hW]
      exact (uxN6 rfl hI.2.2.2.2.2.2.2.2.2.1)
    have k_xH1 : xH1 W := by
      rw [hW]
      exact (uxH1 rfl hI.2.2.2.2.2.2.2.2.2.2.1)
    have k_xK1 : xK1 W := by
      rw [hW]
      exact (uxK1 rfl hI.2.2.2.2.2.2.2.2.2.2.2.1)
    have k_xC1 : xC1 W := by
      rw [hW]
      exact (uxC1 rfl hI.2.2.2.2.2.2.2.2.2.2.2.2.1)
    have k_xRW : xRW W := by
      rw [hW]
      exact (uxRW rfl hI.2.2.2.2.2.2.2.2.2.2.2.2.2.1)
    have k_xWT : xWT W := by
      rw [hW]
      exact (uxWT rfl hI.2.2.2.2.2.2.2.2.2.2.2.2.2.2.1)
    have k_xCU : xCU W := by
      rw [hW]
      exact (uxCU rfl hI.2.2.2.2.2.2.2.2.2.2.2.2.2.2.2.1)
    have k_xG2 : xG2 W := by
      rw [hW]
      exact (uxG2 rfl hI.2.2.2.2.2.2.2.2.2.2.2.2.2.2.2.2.1)
    have k_xG3 : xG3 W := by
      rw [hW]
      exact (uxG3 rfl hI.2.2.2.2.2.2.2.2.2.2.2.2.2.2.2.2.2.1)
    have k_xG4 : xG4 W := by
      rw [hW]
      exact (uxG4 rfl hI.2.2.2.2.2.2.2.2.2.2.2.2.2.2.2.2.2.2.1)
    have k_xG5 : xG5 W := by
      rw [hW]
      exact (uxG5 rfl hI.2.2.2.2.2.2.2.2.2.2.2.2.2.2.2.2.2.2.2.1)
    have k_xG6 : xG6 W := by
      have r91_975 : W 91 975 = 1 * ρ 0 + 0 := by rw [hW, sU_at]
      have c101 : ∀ k, W 101 k = M 101 k := fun k => by rw [hW, sU_ne (fun z => by omega)]
      have c103 : ∀ k, W 103 k = M 103 k := fun k => by rw [hW, sU_ne (fun z => by omega)]
      intro h g hg
      rw [c101, c103, qxG4 g (by omega), qxG5 g (by omega)]
      exact qxG2 (6 + g) (by omega) (by omega)
    have k_XC : XC W := by
      rw [hW]
      exact (uXC rfl hI.2.2.2.2.2.2.2.2.2.2.2.2.2.2.2.2.2.2.2.2.2)
    have kXB : XB W := ⟨k_xN1, k_xN2, k_xN3, k_xN4, k_xN5, k_xN6, k_xH1, k_xK1, k_xC1, k_xRW, k_xWT, k_xCU, k_xG2, k_xG3, k_xG4, k_xG5, k_xG6, k_XC⟩
    exact ⟨base, k2, k3, kXA, kXB⟩
-- evalStart
def xr_59 : qRu := (3, [[(1, 1)], [(1, 0), (-1, 1)]], [(108, 1001, [(1, 2)])], [], [(91, 964, [(1, 0)]), (91, 980, [(1, 2)]), (91, 981, [(1, 2)]), (91, 982, []), (91, 960, [(1, 3)]), (91, 961, [(1, 4)]), (91, 962, [(1, 5)]), (91, 963, [(1, 6)])], [])
theorem xo_59 : qRok xr_59 := by
  intro ρ M h0 hf hm hI
  have f0 := hf [(1, 1)] (by decide)
  have f1 := hf [(1, 0), (-1, 1)] (by decide)
  simp only [qD, h0] at f0 f1
  have m0 : M 108 (zIx ρ (1000 + 1)) = 1 * ρ 2 + 0 := hm (108, 1001, [(1, 2)]) (by decide)
  rw [zix_p] at m0
  have qxZ9 := hI.2.2.2.1.2.2.2.2.2.2.2.2.2.2.2.1
  have qxZa := hI.2.2.2.1.2.2.2.2.2.2.2.2.2.2.2.2.1
  have h8 : (0 : Int) ≤ M 108 (ρ 1).toNat ∧ M 108 (ρ 1).toNat ≤ 64 := hI.1 108 (ρ 1).toNat (0, 64) (xs_108 (by omega))
  refine ⟨fun a => cond (Nat.blt a 3) (ρ a) (([M 110 ((1 * ρ 2 + 0).toNat), M 111 ((1 * ρ 2 + 0).toNat), xkN (M 110 ((1 * ρ 2 + 0).toNat)) (M 111 ((1 * ρ 2 + 0).toNat)), xkE (M 110 ((1 * ρ 2 + 0).toNat)) (M 111 ((1 * ρ 2 + 0).toNat))] : List Int).getD (a - 3) 0), fun a ha => ?_, fun f h => ?_, ?_⟩
  · show cond (Nat.blt a 3) (ρ a) _ = ρ a
    rw [show Nat.blt a 3 = true from Nat.ble_eq_true_of_le ha]; rfl
  · exact nomatch h
  · show sI (sU (sU (sU (sU (sU (sU (sU (sU M 91 964 (1 * ρ 0 + 0)) 91 980 (1 * ρ 2 + 0)) 91 981 (1 * ρ 2 + 0)) 91 982 (0)) 91 960 (1 * (M 110 ((1 * ρ 2 + 0).toNat)) + 0)) 91 961 (1 * (M 111 ((1 * ρ 2 + 0).toNat)) + 0)) 91 962 (1 * (xkN (M 110 ((1 * ρ 2 + 0).toNat)) (M 111 ((1 * ρ 2 + 0).toNat))) + 0)) 91 963 (1 * (xkE (M 110 ((1 * ρ 2 + 0).toNat)) (M 111 ((1 * ρ 2 + 0).toNat))) + 0))
    obtain ⟨W, hW⟩ : ∃ W, W = (sU (sU (sU (sU (sU (sU (sU (sU M 91 964 (1 * ρ 0 + 0)) 91 980 (1 * ρ 2 + 0)) 91 981 (1 * ρ 2 + 0)) 91 982 (0)) 91 960 (1 * (M 110 ((1 * ρ 2 + 0).toNat)) + 0)) 91 961 (1 * (M 111 ((1 * ρ 2 + 0).toNat)) + 0)) 91 962 (1 * (xkN (M 110 ((1 * ρ 2 + 0).toNat)) (M 111 ((1 * ρ 2 + 0).toNat))) + 0)) 91 963 (1 * (xkE (M 110 ((1 * ρ 2 + 0).toNat)) (M 111 ((1 * ρ 2 + 0).toNat))) + 0)) := ⟨_, rfl⟩
    rw [← hW]
    have base : sI0 W := by
      rw [hW]
      exact (si_u0 (si_u0 (si_u0 (si_u0 (si_u0 (si_u0 (si_u0 (si_u0 hI.1 (fun r hr => by cases hr)) (fun r hr => by cases hr)) (fun r hr => by cases hr)) (fun r hr => by cases hr)) (fun r hr => by cases hr)) (fun r hr => by cases hr)) (fun r hr => by cases hr)) (fun r hr => by cases hr))
    have k2 : XI2 W := by
      rw [hW]
      exact (xi2_u rfl (xi2_u rfl (xi2_u rfl (xi2_u rfl (xi2_u rfl (xi2_u rfl (xi2_u rfl (xi2_u rfl hI.2.1))))))))
    have k3 : XI3 W := by
      rw [hW]
      exact (xi3_u rfl (xi3_u rfl (xi3_u rfl (xi3_u rfl (xi3_u rfl (xi3_u rfl (xi3_u rfl (xi3_u rfl hI.2.2.1))))))))
    have k_xY1 : xY1 W := by
      rw [hW]
      exact (uxY1 rfl (uxY1 rfl (uxY1 rfl (uxY1 rfl (uxY1 rfl (uxY1 rfl (uxY1 rfl (uxY1 rfl hI.2.2.2.1.1))))))))
    have k_xY2 : xY2 W := by
      rw [hW]
      exact (uxY2 rfl (uxY2 rfl (uxY2 rfl (uxY2 rfl (uxY2 rfl (uxY2 rfl (uxY2 rfl (uxY2 rfl hI.2.2.2.1.2.1))))))))
    have k_xY3 : xY3 W := by
      rw [hW]
      exact (uxY3 rfl (uxY3 rfl (uxY3 rfl (uxY3 rfl (uxY3 rfl (uxY3 rfl (uxY3 rfl (uxY3 rfl hI.2.2.2.1.2.2.1))))))))
    have k_xZ1 : xZ1 W := by
      rw [hW]
      exact (uxZ1 rfl (uxZ1 rfl (uxZ1 rfl (uxZ1 rfl (uxZ1 rfl (uxZ1 rfl (uxZ1 rfl (uxZ1 rfl hI.2.2.2.1.2.2.2.1))))))))
    have k_xZ2 : xZ2 W := by
      rw [hW]
      exact (uxZ2 rfl (uxZ2 rfl (uxZ2 rfl (uxZ2 rfl (uxZ2 rfl (uxZ2 rfl (uxZ2 rfl (uxZ2 rfl hI.2.2.2.1.2.2.2.2.1))))))))
    have k_xZ3 : xZ3 W := by
      rw [hW]
      exact (uxZ3 rfl (uxZ3 rfl (uxZ3 rfl (uxZ3 rfl (uxZ3 rfl (uxZ3 rfl (uxZ3 rfl (uxZ3 rfl hI.2.2.2.1.2.2.2.2.2.1))))))))
    have k_xZ4 : xZ4 W := by
      rw [hW]
      exact (uxZ4 rfl (uxZ4 rfl (uxZ4 rfl (uxZ4 rfl (uxZ4 rfl (uxZ4 rfl (uxZ4 rfl (uxZ4 rfl hI.2.2.2.1.2.2.2.2.2.2.1))))))))
    have k_xZ5 : xZ5 W := by
      rw [hW]
      exact (uxZ5 rfl (uxZ5 rfl (uxZ5 rfl (uxZ5 rfl (uxZ5 rfl (uxZ5 rfl (uxZ5 rfl (uxZ5 rfl hI.2.2.2.1.2.2.2.2.2.2.2.1))))))))
    have k_xZ6 : xZ6 W := by
      rw [hW]
      exact (uxZ6 rfl (uxZ6 rfl (uxZ6 rfl (uxZ6 rfl (uxZ6 rfl (uxZ6 rfl (uxZ6 rfl (uxZ6 rfl hI.2.2.2.1.2.2.2.2.2.2.2.2.1))))))))
    have k_xZ7 : xZ7 W := by
      rw [hW]
      exact (uxZ7 rfl (uxZ7 rfl (uxZ7 rfl (uxZ7 rfl (uxZ7 rfl (uxZ7 rfl (uxZ7 rfl (uxZ7 rfl hI.2.2.2.1.2.2.2.2.2.2.2.2.2.1))))))))
    have k_xZ8 : xZ8 W := by
      rw [hW]
      exact (uxZ8 rfl (uxZ8 rfl (uxZ8 rfl (uxZ8 rfl (uxZ8 rfl (uxZ8 rfl (uxZ8 rfl (uxZ8 rfl hI.2.2.2.1.2.2.2.2.2.2.2.2.2.2.1))))))))
    have k_xZ9 : xZ9 W := by
      have r91_964 : W 91 964 = 1 * ρ 0 + 0 := by rw [hW, sU_ne (fun z => by omega), sU_ne (fun z => by omega), sU_ne (fun z => by omega), sU_ne (fun z => by omega), sU_ne (fun z => by omega), sU_ne (fun z => by omega), sU_ne (fun z => by omega), sU_at]
      have r91_980 : W 91 980 = 1 * ρ 2 + 0 := by rw [hW, sU_ne (fun z => by omega), sU_ne (fun z => by omega), sU_ne (fun z => by omega), sU_ne (fun z => by omega), sU_ne (fun z => by omega), sU_ne (fun z => by omega), sU_at]
      have r91_981 : W 91 981 = 1 * ρ 2 + 0 := by rw [hW, sU_ne (fun z => by omega), sU_ne (fun z => by omega), sU_ne (fun z => by omega), sU_ne (fun z => by omega), sU_ne (fun z => by omega), sU_at]
      have r91_982 : W 91 982 = 0 := by rw [hW, sU_ne (fun z => by omega), sU_ne (fun z => by omega), sU_ne (fun z => by omega), sU_ne (fun z => by omega), sU_at]
      have c110 : ∀ k, W 110 k = M 110 k := fun k => by rw [hW, sU_ne (fun z => by omega), sU_ne (fun z => by omega), sU_ne (fun z => by omega), sU_ne (fun z => by omega), sU_ne (fun z => by omega), sU_ne (fun z => by omega), sU_ne (fun z => by omega), sU_ne (fun z => by omega)]
      have c111 : ∀ k, W 111 k = M 111 k := fun k => by rw [hW, sU_ne (fun z => by omega), sU_ne (fun z => by omega), sU_ne (fun z => by omega), sU_ne (fun z => by omega), sU_ne (fun z => by omega), sU_ne (fun z => by omega), sU_ne (fun z => by omega), sU_ne (fun z => by omega)]
      intro h
      rw [r91_980, r91_981, r91_982, Nat.sub_self]
      exact ⟨by omega, Int.le_refl _, rfl⟩
    have k_xZa : xZa W := by
      have r91_964 : W 91 964 = 1 * ρ 0 + 0 := by rw [hW, sU_ne (fun z => by omega), sU_ne (fun z => by omega), sU_ne (fun z => by omega), sU_ne (fun z => by omega), sU_ne (fun z => by omega), sU_ne (fun z => by omega), sU_ne (fun z => by omega), sU_at]
      have r91_981 : W 91 981 = 1 * ρ 2 + 0 := by rw [hW, sU_ne (fun z => by omega), sU_ne (fun z => by omega), sU_ne (fun z => by omega), sU_ne (fun z => by omega), sU_ne (fun z => by omega), sU_at]
      have r91_960 : W 91 960 = 1 * (M 110 ((1 * ρ 2 + 0).toNat)) + 0 := by rw [hW, sU_ne (fun z => by omega), sU_ne (fun z => by omega), sU_ne (fun z => by omega), sU_at]
      have r91_961 : W 91 961 = 1 * (M 111 ((1 * ρ 2 + 0).toNat)) + 0 := by rw [hW, sU_ne (fun z => by omega), sU_ne (fun z => by omega), sU_at]
      have r91_962 : W 91 962 = 1 * (xkN (M 110 ((1 * ρ 2 + 0).toNat)) (M 111 ((1 * ρ 2 + 0).toNat))) + 0 := by rw [hW, sU_ne (fun z => by omega), sU_at]
      have r91_963 : W 91 963 = 1 * (xkE (M 110 ((1 * ρ 2 + 0).toNat)) (M 111 ((1 * ρ 2 + 0).toNat))) + 0 := by rw [hW, sU_at]
      have c110 : ∀ k, W 110 k = M 110 k := fun k => by rw [hW, sU_ne (fun z => by omega), sU_ne (fun z => by omega), sU_ne (fun z => by omega), sU_ne (fun z => by omega), sU_ne (fun z => by omega), sU_ne (fun z => by omega), sU_ne (fun z => by omega), sU_ne (fun z => by omega)]
      have c111 : ∀ k, W 111 k = M 111 k := fun k => by rw [hW, sU_ne (fun z => by omega), sU_ne (fun z => by omega), sU_ne (fun z => by omega), sU_ne (fun z => by omega), sU_ne (fun z => by omega), sU_ne (fun z => by omega), sU_ne (fun z => by omega), sU_ne (fun z => by omega)]
      intro h
      rw [r91_960, r91_961, r91_962, r91_963, r91_981, c110, c111]
      repeat rw [x10]
      exact ⟨rfl, rfl, rfl, rfl⟩
    have k_xZb : xZb W := by
      rw [hW]
      exact (uxZb rfl (uxZb rfl (uxZb rfl (uxZb rfl (uxZb rfl (uxZb rfl (uxZb rfl (uxZb rfl hI.2.2.2.1.2.2.2.2.2.2.2.2.2.2.2.2.2.1))))))))
    have k_xT1 : xT1 W := by
      rw [hW]
      exact (uxT1 rfl (uxT1 rfl (uxT1 rfl (uxT1 rfl (uxT1 rfl (uxT1 rfl (uxT1 rfl (uxT1 rfl hI.2.2.2.1.2.2.2.2.2.2.2.2.2.2.2.2.2.2))))))))
    have kXA : XA W := ⟨k_xY1, k_xY2, k_xY3, k_xZ1, k_xZ2, k_xZ3, k_xZ4, k_xZ5, k_xZ6, k_xZ7, k_xZ8, k_xZ9, k_xZa, k_xZb, k_xT1⟩
    have kXB : XB W := by
      rw [hW]
      exact (uXB rfl (uXB rfl (uXB rfl (uXB rfl (uXB rfl (uXB rfl (uXB rfl (uXB rfl hI.2.2.2.2))))))))
    exact ⟨base, k2, k3, kXA, kXB⟩
-- evalNeed
def xr_60 : qRu := (10, [[(1, 1)], [(1, 0), (-1, 1)], [(-1, 0), (1, 3), (-1, 4)], [(1, 2), (-1, 9)], [(-1, 2), (1, 9)]], [(91, 975, [(1, 0)]), (91, 964, [(1, 0)]), (108, 1001, [(1, 2)]), (109, 1001, [(1, 3)]), (91, 980, [(1, 9)]), (91, 981, [(1, 4)]), (91, 982, [(1, 5)]), (91, 962, [(1, 6)]), (91, 960, [(1, 7)]), (91, 961, [(1, 8)])], [], [], [[(1, 5), (-1, 6)], [(1, 6)], [(-1, 2), (1, 4), (-1, 5)]])
theorem xo_60 : qRok xr_60 := by
  intro ρ M h0 hf hm hI
  have f0 := hf [(1, 1)] (by decide)
  have f1 := hf [(1, 0), (-1, 1)] (by decide)
  have f2 := hf [(-1, 0), (1, 3), (-1, 4)] (by decide)
  have f3 := hf [(1, 2), (-1, 9)] (by decide)
  have f4 := hf [(-1, 2), (1, 9)] (by decide)
  simp only [qD, h0] at f0 f1 f2 f3 f4
  have m0 : M 91 975 = 1 * ρ 0 + 0 := hm (91, 975, [(1, 0)]) (by decide)
  have m1 : M 91 964 = 1 * ρ 0 + 0 := hm (91, 964, [(1, 0)]) (by decide)
  have m2 : M 108 (zIx ρ (1000 + 1)) = 1 * ρ 2 + 0 := hm (108, 1001, [(1, 2)]) (by decide)
  rw [zix_p] at m2
  have m3 : M 109 (zIx ρ (1000 + 1)) = 1 * ρ 3 + 0 := hm (109, 1001, [(1, 3)]) (by decide)
  rw [zix_p] at m3
  have m4 : M 91 980 = 1 * ρ 9 + 0 := hm (91, 980, [(1, 9)]) (by decide)
  have m5 : M 91 981 = 1 * ρ 4 + 0 := hm (91, 981, [(1, 4)]) (by decide)
  have m6 : M 91 982 = 1 * ρ 5 + 0 := hm (91, 982, [(1, 5)]) (by decide)
  have m7 : M 91 962 = 1 * ρ 6 + 0 := hm (91, 962, [(1, 6)]) (by decide)
  have m8 : M 91 960 = 1 * ρ 7 + 0 := hm (91, 960, [(1, 7)]) (by decide)
  have m9 : M 91 961 = 1 * ρ 8 + 0 := hm (91, 961, [(1, 8)]) (by decide)
  simp only [h0] at m0 m1
  have qxZ4 := hI.2.2.2.1.2.2.2.2.2.2.1
  have qxZ9 := hI.2.2.2.1.2.2.2.2.2.2.2.2.2.2.2.1
  have qxZa := hI.2.2.2.1.2.2.2.2.2.2.2.2.2.2.2.2.1
  have h9 := qxZ9 (by omega)
  have ha := qxZa (by omega)
  have hO := qxZ4 (by omega) (ρ 1).toNat (by omega) ((M 91 981).toNat - (M 91 980).toNat) (by omega)
  rw [show (M 108 (ρ 1).toNat).toNat = (M 91 980).toNat by omega, show (M 91 980).toNat + ((M 91 981).toNat - (M 91 980).toNat) = (M 91 981).toNat by omega, ← ha.1, ← ha.2.1, ← ha.2.2.1, ← h9.2.2] at hO
  have hl := dp_le M (M 91 980).toNat ((M 91 981).toNat - (M 91 980).toNat)
  rw [← h9.2.2] at hl
  have hg := en_ge (M 91 960) (M 91 961)
  rw [← ha.2.2.1] at hg
  refine ⟨ρ, fun _ _ => rfl, fun f h => ?_, ?_⟩
  · have h : f ∈ ([[(1, 5), (-1, 6)], [(1, 6)], [(-1, 2), (1, 4), (-1, 5)]] : List qF) := h
    simp only [List.mem_cons, List.not_mem_nil, or_false] at h
    rcases h with rfl | rfl | rfl
    · show 0 ≤ 1 * ρ 5 + (-1 * ρ 6 + 0)
      (try rw [h0]); omega
    · show 0 ≤ 1 * ρ 6 + 0
      (try rw [h0]); omega
    · show 0 ≤ -1 * ρ 2 + (1 * ρ 4 + (-1 * ρ 5 + 0))
      (try rw [h0]); omega
  · show sI M
    exact hI
-- evalName
def xr_61 : qRu := (10, [[(1, 1)], [(1, 0), (-1, 1)], [(-1, 0), (1, 3), (-1, 4)], [(1, 2), (-1, 9)], [(-1, 2), (1, 9)], [(-1, 0), (1, 7)], [(1, 0), (-1, 7)]], [(91, 975, [(1, 0)]), (91, 964, [(1, 0)]), (108, 1001, [(1, 2)]), (109, 1001, [(1, 3)]), (91, 980, [(1, 9)]), (91, 981, [(1, 4)]), (91, 982, [(1, 5)]), (91, 962, [(1, 6)]), (91, 960, [(1, 7)]), (91, 961, [(1, 8)])], [], [], [[(1, 8)], [(5, 0), (-1, 8)]])
theorem xo_61 : qRok xr_61 := by
  intro ρ M h0 hf hm hI
  have f0 := hf [(1, 1)] (by decide)
  have f1 := hf [(1, 0), (-1, 1)] (by decide)
  have f2 := hf [(-1, 0), (1, 3), (-1, 4)] (by decide)
  have f3 := hf [(1, 2), (-1, 9)] (by decide)
  have f4 := hf [(-1, 2), (1, 9)] (by decide)
  have f5 := hf [(-1, 0), (1, 7)] (by decide)
  have f6 := hf [(1, 0), (-1, 7)] (by decide)
  simp only [qD, h0] at f0 f1 f2 f3 f4 f5 f6
  have m0 : M 91 975 = 1 * ρ 0 + 0 := hm (91, 975, [(1, 0)]) (by decide)
  have m1 : M 91 964 = 1 * ρ 0 + 0 := hm (91, 964, [(1, 0)]) (by decide)
  have m2 : M 108 (zIx ρ (1000 + 1)) = 1 * ρ 2 + 0 := hm (108, 1001, [(1, 2)]) (by decide)
  rw [zix_p] at m2
  have m3 : M 109 (zIx ρ (1000 + 1)) = 1 * ρ 3 + 0 := hm (109, 1001, [(1, 3)]) (by decide)
  rw [zix_p] at m3
  have m4 : M 91 980 = 1 * ρ 9 + 0 := hm (91, 980, [(1, 9)]) (by decide)
  have m5 : M 91 981 = 1 * ρ 4 + 0 := hm (91, 981, [(1, 4)]) (by decide)
  have m6 : M 91 982 = 1 * ρ 5 + 0 := hm (91, 982, [(1, 5)]) (by decide)
  have m7 : M 91 962 = 1 * ρ 6 + 0 := hm (91, 962, [(1, 6)]) (by decide)
  have m8 : M 91 960 = 1 * ρ 7 + 0 := hm (91, 960, [(1, 7)]) (by decide)
  have m9 : M 91 961 = 1 * ρ 8 + 0 := hm (91, 961, [(1, 8)]) (by decide)
  simp only [h0] at m0 m1
  have qxZ4 := hI.2.2.2.1.2.2.2.2.2.2.1
  have qxZ9 := hI.2.2.2.1.2.2.2.2.2.2.2.2.2.2.2.1
  have qxZa := hI.2.2.2.1.2.2.2.2.2.2.2.2.2.2.2.2.1
  have h9 := qxZ9 (by omega)
  have ha := qxZa (by omega)
  have hO := qxZ4 (by omega) (ρ 1).toNat (by omega) ((M 91 981).toNat - (M 91 980).toNat) (by omega)
  rw [show (M 108 (ρ 1).toNat).toNat = (M 91 980).toNat by omega, show (M 91 980).toNat + ((M 91 981).toNat - (M 91 980).toNat) = (M 91 981).toNat by omega, ← ha.1, ← ha.2.1, ← ha.2.2.1, ← h9.2.2] at hO
  have hl := dp_le M (M 91 980).toNat ((M 91 981).toNat - (M 91 980).toNat)
  rw [← h9.2.2] at hl
  have hg := en_ge (M 91 960) (M 91 961)
  rw [← ha.2.2.1] at hg
  have hv := hO.2
  unfold xkV at hv
  refine ⟨ρ, fun _ _ => rfl, fun f h => ?_, ?_⟩
  · have h : f ∈ ([[(1, 8)], [(5, 0), (-1, 8)]] : List qF) := h
    simp only [List.mem_cons, List.not_mem_nil, or_false] at h
    rcases h with rfl | rfl
    · show 0 ≤ 1 * ρ 8 + 0
      (try rw [h0]); omega
    · show 0 ≤ 5 * ρ 0 + (-1 * ρ 8 + 0)
      (try rw [h0]); omega
  · show sI M
    exact hI
-- eVal
def xr_62 : qRu := (5, [[(1, 0), (-1, 1)]], [(91, 964, [(1, 0)]), (91, 960, [(1, 1)]), (91, 961, [(1, 2)]), (91, 963, [(1, 3)]), (91, 962, [(1, 4)])], [], [], [[(-1, 0), (1, 3)], [(1, 0), (-1, 3)], [(1, 4)], [(-1, 4)]])
theorem xo_62 : qRok xr_62 := by
  intro ρ M h0 hf hm hI
  have f0 := hf [(1, 0), (-1, 1)] (by decide)
  simp only [qD, h0] at f0
  have m0 : M 91 964 = 1 * ρ 0 + 0 := hm (91, 964, [(1, 0)]) (by decide)
  have m1 : M 91 960 = 1 * ρ 1 + 0 := hm (91, 960, [(1, 1)]) (by decide)
  have m2 : M 91 961 = 1 * ρ 2 + 0 := hm (91, 961, [(1, 2)]) (by decide)
  have m3 : M 91 963 = 1 * ρ 3 + 0 := hm (91, 963, [(1, 3)]) (by decide)
  have m4 : M 91 962 = 1 * ρ 4 + 0 := hm (91, 962, [(1, 4)]) (by decide)
  simp only [h0] at m0
  have qxZa := hI.2.2.2.1.2.2.2.2.2.2.2.2.2.2.2.2.1
  have hE := (qxZa (by omega)).2.2.2
  have hN := (qxZa (by omega)).2.2.1
  unfold xkE at hE
  unfold xkN at hN
  rw [if_neg (by omega)] at hE
  rw [if_neg (by omega)] at hN
  refine ⟨ρ, fun _ _ => rfl, fun f h => ?_, ?_⟩
  · have h : f ∈ ([[(-1, 0), (1, 3)], [(1, 0), (-1, 3)], [(1, 4)], [(-1, 4)]] : List qF) := h
    simp only [List.mem_cons, List.not_mem_nil, or_false] at h
    rcases h with rfl | rfl | rfl | rfl
    · show 0 ≤ -1 * ρ 0 + (1 * ρ 3 + 0)
      (try rw [h0]); omega
    · show 0 ≤ 1 * ρ 0 + (-1 * ρ 3 + 0)
      (try rw [h0]); omega
    · show 0 ≤ 1 * ρ 4 + 0
      (try rw [h0]); omega
    · show 0 ≤ -1 * ρ 4 + 0
      (try rw [h0]); omega
  · show sI M
    exact hI
-- eNot
def xr_63 : qRu := (5, [[(-2, 0), (1, 1)], [(2, 0), (-1, 1)], [(-260, 0), (1, 2)], [(260, 0), (-1, 2)]], [(91, 964, [(1, 0)]), (91, 960, [(1, 1)]), (91, 961, [(1, 2)]), (91, 963, [(1, 3)]), (91, 962, [(1, 4)])], [], [], [[(1, 3)], [(-1, 3)], [(-1, 0), (1, 4)], [(1, 0), (-1, 4)]])
theorem xo_63 : qRok xr_63 := by
  intro ρ M h0 hf hm hI
  have f0 := hf [(-2, 0), (1, 1)] (by decide)
  have f1 := hf [(2, 0), (-1, 1)] (by decide)
  have f2 := hf [(-260, 0), (1, 2)] (by decide)
  have f3 := hf [(260, 0), (-1, 2)] (by decide)
  simp only [qD, h0] at f0 f1 f2 f3
  have m0 : M 91 964 = 1 * ρ 0 + 0 := hm (91, 964, [(1, 0)]) (by decide)
  have m1 : M 91 960 = 1 * ρ 1 + 0 := hm (91, 960, [(1, 1)]) (by decide)
  have m2 : M 91 961 = 1 * ρ 2 + 0 := hm (91, 961, [(1, 2)]) (by decide)
  have m3 : M 91 963 = 1 * ρ 3 + 0 := hm (91, 963, [(1, 3)]) (by decide)
  have m4 : M 91 962 = 1 * ρ 4 + 0 := hm (91, 962, [(1, 4)]) (by decide)
  simp only [h0] at m0
  have qxZa := hI.2.2.2.1.2.2.2.2.2.2.2.2.2.2.2.2.1
  have hE := (qxZa (by omega)).2.2.2
  have hN := (qxZa (by omega)).2.2.1
  unfold xkE at hE
  unfold xkN at hN
  rw [if_pos (by omega), if_pos (by omega)] at hE
  rw [if_pos (by omega), if_pos (by omega)] at hN
  refine ⟨ρ, fun _ _ => rfl, fun f h => ?_, ?_⟩
  · have h : f ∈ ([[(1, 3)], [(-1, 3)], [(-1, 0), (1, 4)], [(1, 0), (-1, 4)]] : List qF) := h
    simp only [List.mem_cons, List.not_mem_nil, or_false] at h
    rcases h with rfl | rfl | rfl | rfl
    · show 0 ≤ 1 * ρ 3 + 0
      (try rw [h0]); omega
    · show 0 ≤ -1 * ρ 3 + 0
      (try rw [h0]); omega
    · show 0 ≤ -1 * ρ 0 + (1 * ρ 4 + 0)
      (try rw [h0]); omega
    · show 0 ≤ 1 * ρ 0 + (-1 * ρ 4 + 0)
      (try rw [h0]); omega
  · show sI M
    exact hI
-- eMore
def xr_64 : qRu := (5, [[(-2, 0), (1, 1)], [(2, 0), (-1, 1)], [(-261, 0), (1, 2)]], [(91, 964, [(1, 0)]), (91, 960, [(1, 1)]), (91, 961, [(1, 2)]), (91, 963, [(1, 3)]), (91, 962, [(1, 4)])], [], [], [[(1, 0), (1, 3)], [(-1, 0), (-1, 3)], [(-2, 0), (1, 4)], [(2, 0), (-1, 4)]])
theorem xo_64 : qRok xr_64 := by
  intro ρ M h0 hf hm hI
  have f0 := hf [(-2, 0), (1, 1)] (by decide)
  have f1 := hf [(2, 0), (-1, 1)] (by decide)
  have f2 := hf [(-261, 0), (1, 2)] (by decide)
  simp only [qD, h0] at f0 f1 f2
  have m0 : M 91 964 = 1 * ρ 0 + 0 := hm (91, 964, [(1, 0)]) (by decide)
  have m1 : M 91 960 = 1 * ρ 1 + 0 := hm (91, 960, [(1, 1)]) (by decide)
  have m2 : M 91 961 = 1 * ρ 2 + 0 := hm (91, 961, [(1, 2)]) (by decide)
  have m3 : M 91 963 = 1 * ρ 3 + 0 := hm (91, 963, [(1, 3)]) (by decide)
  have m4 : M 91 962 = 1 * ρ 4 + 0 := hm (91, 962, [(1, 4)]) (by decide)
  simp only [h0] at m0
  have qxZa := hI.2.2.2.1.2.2.2.2.2.2.2.2.2.2.2.2.1
  have hE := (qxZa (by omega)).2.2.2
  have hN := (qxZa (by omega)).2.2.1
  unfold xkE at hE
  unfold xkN at hN
  rw [if_pos (by omega), if_neg (by omega)] at hE
  rw [if_pos (by omega), if_neg (by omega)] at hN
  refine ⟨ρ, fun _ _ => rfl, fun f h => ?_, ?_⟩
  · have h : f ∈ ([[(1, 0), (1, 3)], [(-1, 0), (-1, 3)], [(-2, 0), (1, 4)], [(2, 0), (-1, 4)]] : List qF) := h
    simp only [List.mem_cons, List.not_mem_nil, or_false] at h
    rcases h with rfl | rfl | rfl | rfl
    · show 0 ≤ 1 * ρ 0 + (1 * ρ 3 + 0)
      (try rw [h0]); omega
    · show 0 ≤ -1 * ρ 0 + (-1 * ρ 3 + 0)
      (try rw [h0]); omega
    · show 0 ≤ -2 * ρ 0 + (1 * ρ 4 + 0)
      (try rw [h0]); omega
    · show 0 ≤ 2 * ρ 0 + (-1 * ρ 4 + 0)
      (try rw [h0]); omega
  · show sI M
    exact hI
-- eLess
def xr_65 : qRu := (5, [[(-2, 0), (1, 1)], [(2, 0), (-1, 1)], [(259, 0), (-1, 2)]], [(91, 964, [(1, 0)]), (91, 960, [(1, 1)]), (91, 961, [(1, 2)]), (91, 963, [(1, 3)]), (91, 962, [(1, 4)])], [], [], [[(1, 0), (1, 3)], [(-1, 0), (-1, 3)], [(-2, 0), (1, 4)], [(2, 0), (-1, 4)]])
theorem xo_65 : qRok xr_65 := by
  intro ρ M h0 hf hm hI
  have f0 := hf [(-2, 0), (1, 1)] (by decide)
  have f1 := hf [(2, 0), (-1, 1)] (by decide)
  have f2 := hf [(259, 0), (-1, 2)] (by decide)
  simp only [qD, h0] at f0 f1 f2
  have m0 : M 91 964 = 1 * ρ 0 + 0 := hm (91, 964, [(1, 0)]) (by decide)
  have m1 : M 91 960 = 1 * ρ 1 + 0 := hm (91, 960, [(1, 1)]) (by decide)
  have m2 : M 91 961 = 1 * ρ 2 + 0 := hm (91, 961, [(1, 2)]) (by decide)
  have m3 : M 91 963 = 1 * ρ 3 + 0 := hm (91, 963, [(1, 3)]) (by decide)
  have m4 : M 91 962 = 1 * ρ 4 + 0 := hm (91, 962, [(1, 4)]) (by decide)
  simp only [h0] at m0
  have qxZa := hI.2.2.2.1.2.2.2.2.2.2.2.2.2.2.2.2.1
  have hE := (qxZa (by omega)).2.2.2
  have hN := (qxZa (by omega)).2.2.1
  unfold xkE at hE
  unfold xkN at hN
  rw [if_pos (by omega), if_neg (by omega)] at hE
  rw [if_pos (by omega), if_neg (by omega)] at hN
  refine ⟨ρ, fun _ _ => rfl, fun f h => ?_, ?_⟩
  · have h : f ∈ ([[(1, 0), (1, 3)], [(-1, 0), (-1, 3)], [(-2, 0), (1, 4)], [(2, 0), (-1, 4)]] : List qF) := h
    simp only [List.mem_cons, List.not_mem_nil, or_false] at h
    rcases h with rfl | rfl | rfl | rfl
    · show 0 ≤ 1 * ρ 0 + (1 * ρ 3 + 0)
      (try rw [h0]); omega
    · show 0 ≤ -1 * ρ 0 + (-1 * ρ 3 + 0)
      (try rw [h0]); omega
    · show 0 ≤ -2 * ρ 0 + (1 * ρ 4 + 0)
      (try rw [h0]); omega
    · show 0 ≤ 2 * ρ 0 + (-1 * ρ 4 + 0)
      (try rw [h0]); omega
  · show sI M
    exact hI
-- eTwo
def xr_66 : qRu := (4, [[(-2, 0), (1, 1)], [(2, 0), (-1, 1)]], [(91, 964, [(1, 0)]), (91, 960, [(1, 1)]), (91, 961, [(1, 2)]), (91, 962, [(1, 3)])], [], [], [[(-1, 0), (1, 3)], [(2, 0), (-1, 3)]])
theorem xo_66 : qRok xr_66 := by
  intro ρ M h0 hf hm hI
  have f0 := hf [(-2, 0), (1, 1)] (by decide)
  have f1 := hf [(2, 0), (-1, 1)] (by decide)
  simp only [qD, h0] at f0 f1
  have m0 : M 91 964 = 1 * ρ 0 + 0 := hm (91, 964, [(1, 0)]) (by decide)
  have m1 : M 91 960 = 1 * ρ 1 + 0 := hm (91, 960, [(1, 1)]) (by decide)
  have m2 : M 91 961 = 1 * ρ 2 + 0 := hm (91, 961, [(1, 2)]) (by decide)
  have m3 : M 91 962 = 1 * ρ 3 + 0 := hm (91, 962, [(1, 3)]) (by decide)
  simp only [h0] at m0
  have qxZa := hI.2.2.2.1.2.2.2.2.2.2.2.2.2.2.2.2.1
  have hN := (qxZa (by omega)).2.2.1
  unfold xkN at hN
  rw [if_pos (by omega)] at hN
  have hN2 : 1 ≤ M 91 962 ∧ M 91 962 ≤ 2 := by
    rw [hN]
    split <;> omega
  refine ⟨ρ, fun _ _ => rfl, fun f h => ?_, ?_⟩
  · have h : f ∈ ([[(-1, 0), (1, 3)], [(2, 0), (-1, 3)]] : List qF) := h
    simp only [List.mem_cons, List.not_mem_nil, or_false] at h
    rcases h with rfl | rfl
    · show 0 ≤ -1 * ρ 0 + (1 * ρ 3 + 0)
      (try rw [h0]); omega
    · show 0 ≤ 2 * ρ 0 + (-1 * ρ 3 + 0)
      (try rw [h0]); omega
  · show sI M
    exact hI
-- evalStep
def xr_67 : qRu := (4, [], [(91, 964, [(1, 0)]), (91, 981, [(1, 1)]), (91, 982, [(1, 2)]), (91, 963, [(1, 3)])], [], [(91, 981, [(1, 1), (1, 0)]), (91, 982, [(1, 2), (1, 3)]), (91, 960, [(1, 4)]), (91, 961, [(1, 5)]), (91, 962, [(1, 6)]), (91, 963, [(1, 7)])], [])
theorem xo_67 : qRok xr_67 := by
  intro ρ M h0 hf hm hI
  have m0 : M 91 964 = 1 * ρ 0 + 0 := hm (91, 964, [(1, 0)]) (by decide)
  have m1 : M 91 981 = 1 * ρ 1 + 0 := hm (91, 981, [(1, 1)]) (by decide)
  have m2 : M 91 982 = 1 * ρ 2 + 0 := hm (91, 982, [(1, 2)]) (by decide)
  have m3 : M 91 963 = 1 * ρ 3 + 0 := hm (91, 963, [(1, 3)]) (by decide)
  simp only [h0] at m0
  have qxZ9 := hI.2.2.2.1.2.2.2.2.2.2.2.2.2.2.2.1
  have qxZa := hI.2.2.2.1.2.2.2.2.2.2.2.2.2.2.2.2.1
  refine ⟨fun a => cond (Nat.blt a 4) (ρ a) (([M 110 ((1 * ρ 1 + (1 * ρ 0 + 0)).toNat), M 111 ((1 * ρ 1 + (1 * ρ 0 + 0)).toNat), xkN (M 110 ((1 * ρ 1 + (1 * ρ 0 + 0)).toNat)) (M 111 ((1 * ρ 1 + (1 * ρ 0 + 0)).toNat)), xkE (M 110 ((1 * ρ 1 + (1 * ρ 0 + 0)).toNat)) (M 111 ((1 * ρ 1 + (1 * ρ 0 + 0)).toNat))] : List Int).getD (a - 4) 0), fun a ha => ?_, fun f h => ?_, ?_⟩
  · show cond (Nat.blt a 4) (ρ a) _ = ρ a
    rw [show Nat.blt a 4 = true from Nat.ble_eq_true_of_le ha]; rfl
  · exact nomatch h
  · show sI (sU (sU (sU (sU (sU (sU M 91 981 (1 * ρ 1 + (1 * ρ 0 + 0))) 91 982 (1 * ρ 2 + (1 * ρ 3 + 0))) 91 960 (1 * (M 110 ((1 * ρ 1 + (1 * ρ 0 + 0)).toNat)) + 0)) 91 961 (1 * (M 111 ((1 * ρ 1 + (1 * ρ 0 + 0)).toNat)) + 0)) 91 962 (1 * (xkN (M 110 ((1 * ρ 1 + (1 * ρ 0 + 0)).toNat)) (M 111 ((1 * ρ 1 + (1 * ρ 0 + 0)).toNat))) + 0)) 91 963 (1 * (xkE (M 110 ((1 * ρ 1 + (1 * ρ 0 + 0)).toNat)) (M 111 ((1 * ρ 1 + (1 * ρ 0 + 0)).toNat))) + 0))
    obtain ⟨W, hW⟩ : ∃ W, W = (sU (sU (sU (sU (sU (sU M 91 981 (1 * ρ 1 + (1 * ρ 0 + 0))) 91 982 (1 * ρ 2 + (1 * ρ 3 + 0))) 91 960 (1 * (M 110 ((1 * ρ 1 + (1 * ρ 0 + 0)).toNat)) + 0)) 91 961 (1 * (M 111 ((1 * ρ 1 + (1 * ρ 0 + 0)).toNat)) + 0)) 91 962 (1 * (xkN (M 110 ((1 * ρ 1 + (1 * ρ 0 + 0)).toNat)) (M 111 ((1 * ρ 1 + (1 * ρ 0 + 0)).toNat))) + 0)) 91 963 (1 * (xkE (M 110 ((1 * ρ 1 + (1 * ρ 0 + 0)).toNat)) (M 111 ((1 * ρ 1 + (1 * ρ 0 + 0)).toNat))) + 0)) := ⟨_, rfl⟩
    rw [← hW]
    have base : sI0 W := by
      rw [hW]
      exact (si_u0 (si_u0 (si_u0 (si_u0 (si_u0 (si_u0 hI.1 (fun r hr => by cases hr)) (fun r hr => by cases hr)) (fun r hr => by cases hr)) (fun r hr => by cases hr)) (fun r hr => by cases hr)) (fun r hr => by cases hr))
    have k2 : XI2 W := by
      rw [hW]
      exact (xi2_u rfl (xi2_u rfl (xi2_u rfl (xi2_u rfl (xi2_u rfl (xi2_u rfl hI.2.1))))))
    have k3 : XI3 W := by
      rw [hW]
      exact (xi3_u rfl (xi3_u rfl (xi3_u rfl (xi3_u rfl (xi3_u rfl (xi3_u rfl hI.2.2.1))))))
    have k_xY1 : xY1 W := by
      rw [hW]
      exact (uxY1 rfl (uxY1 rfl (uxY1 rfl (uxY1 rfl (uxY1 rfl (uxY1 rfl hI.2.2.2.1.1))))))
    have k_xY2 : xY2 W := by
      rw [hW]
      exact (uxY2 rfl (uxY2 rfl (uxY2 rfl (uxY2 rfl (uxY2 rfl (uxY2 rfl hI.2.2.2.1.2.1))))))
    have k_xY3 : xY3 W := by
      rw [hW]
      exact (uxY3 rfl (uxY3 rfl (uxY3 rfl (uxY3 rfl (uxY3 rfl (uxY3 rfl hI.2.2.2.1.2.2.1))))))
    have k_xZ1 : xZ1 W := by
      rw [hW]
      exact (uxZ1 rfl (uxZ1 rfl (uxZ1 rfl (uxZ1 rfl (uxZ1 rfl (uxZ1 rfl hI.2.2.2.1.2.2.2.1))))))
    have k_xZ2 : xZ2 W := by
      rw [hW]
      exact (uxZ2 rfl (uxZ2 rfl (uxZ2 rfl (uxZ2 rfl (uxZ2 rfl (uxZ2 rfl hI.2.2.2.1.2.2.2.2.1))))))
    have k_xZ3 : xZ3 W := by
      rw [hW]
      exact (uxZ3 rfl (uxZ3 rfl (uxZ3 rfl (uxZ3 rfl (uxZ3 rfl (uxZ3 rfl hI.2.2.2.1.2.2.2.2.2.1))))))
    have k_xZ4 : xZ4 W := by
      rw [hW]
      exact (uxZ4 rfl (uxZ4 rfl (uxZ4 rfl (uxZ4 rfl (uxZ4 rfl (uxZ4 rfl hI.2.2.2.1.2.2.2.2.2.2.1))))))
    have k_xZ5 : xZ5 W := by
      rw [hW]
      exact (uxZ5 rfl (uxZ5 rfl (uxZ5 rfl (uxZ5 rfl (uxZ5 rfl (uxZ5 rfl hI.2.2.2.1.2.2.2.2.2.2.2.1))))))
    have k_xZ6 : xZ6 W := by
      rw [hW]
      exact (uxZ6 rfl (uxZ6 rfl (uxZ6 rfl (uxZ6 rfl (uxZ6 rfl (uxZ6 rfl hI.2.2.2.1.2.2.2.2.2.2.2.2.1))))))
    have k_xZ7 : xZ7 W := by
      rw [hW]
      exact (uxZ7 rfl (uxZ7 rfl (uxZ7 rfl (uxZ7 rfl (uxZ7 rfl (uxZ7 rfl hI.2.2.2.1.2.2.2.2.2.2.2.2.2.1))))))
    have k_xZ8 : xZ8 W := by
      rw [hW]
      exact (uxZ8 rfl (uxZ8 rfl (uxZ8 rfl (uxZ8 rfl (uxZ8 rfl (uxZ8 rfl hI.2.2.2.1.2.2.2.2.2.2.2.2.2.2.1))))))
    have k_xZ9 : xZ9 W := by
      have r91_964 : W 91 964 = M 91 964 := by rw [hW, sU_ne (fun z => by omega), sU_ne (fun z => by omega), sU_ne (fun z => by omega), sU_ne (fun z => by omega), sU_ne (fun z => by omega), sU_ne (fun z => by omega)]
      have r91_980 : W 91 980 = M 91 980 := by rw [hW, sU_ne (fun z => by omega), sU_ne (fun z => by omega), sU_ne (fun z => by omega), sU_ne (fun z => by omega), sU_ne (fun z => by omega), sU_ne (fun z => by omega)]
      have r91_981 : W 91 981 = 1 * ρ 1 + (1 * ρ 0 + 0) := by rw [hW, sU_ne (fun z => by omega), sU_ne (fun z => by omega), sU_ne (fun z => by omega), sU_ne (fun z => by omega), sU_ne (fun z => by omega), sU_at]
      have r91_982 : W 91 982 = 1 * ρ 2 + (1 * ρ 3 + 0) := by rw [hW, sU_ne (fun z => by omega), sU_ne (fun z => by omega), sU_ne (fun z => by omega), sU_ne (fun z => by omega), sU_at]
      have c110 : ∀ k, W 110 k = M 110 k := fun k => by rw [hW, sU_ne (fun z => by omega), sU_ne (fun z => by omega), sU_ne (fun z => by omega), sU_ne (fun z => by omega), sU_ne (fun z => by omega), sU_ne (fun z => by omega)]
      have c111 : ∀ k, W 111 k = M 111 k := fun k => by rw [hW, sU_ne (fun z => by omega), sU_ne (fun z => by omega), sU_ne (fun z => by omega), sU_ne (fun z => by omega), sU_ne (fun z => by omega), sU_ne (fun z => by omega)]
      intro h
      have h9 := qxZ9 (by omega)
      have ha := qxZa (by omega)
      rw [r91_980, r91_981, r91_982, h0, show (1 * ρ 1 + (1 * 1 + 0)).toNat - (M 91 980).toNat = ((M 91 981).toNat - (M 91 980).toNat) + 1 by omega]
      refine ⟨h9.1, by omega, ?_⟩
      rw [dp_s, dp_congr (M := M) (fun k _ _ => ⟨c110 k, c111 k⟩), c110, c111, show (M 91 980).toNat + ((M 91 981).toNat - (M 91 980).toNat) = (M 91 981).toNat by omega, ← ha.1, ← ha.2.1, ← ha.2.2.2, ← h9.2.2]
      omega
    have k_xZa : xZa W := by
      have r91_964 : W 91 964 = M 91 964 := by rw [hW, sU_ne (fun z => by omega), sU_ne (fun z => by omega), sU_ne (fun z => by omega), sU_ne (fun z => by omega), sU_ne (fun z => by omega), sU_ne (fun z => by omega)]
      have r91_981 : W 91 981 = 1 * ρ 1 + (1 * ρ 0 + 0) := by rw [hW, sU_ne (fun z => by omega), sU_ne (fun z => by omega), sU_ne (fun z => by omega), sU_ne (fun z => by omega), sU_ne (fun z => by omega), sU_at]
      have r91_960 : W 91 960 = 1 * (M 110 ((1 * ρ 1 + (1 * ρ 0 + 0)).toNat)) + 0 := by rw [hW, sU_ne (fun z => by omega), sU_ne (fun z => by omega), sU_ne (fun z => by omega), sU_at]
      have r91_961 : W 91 961 = 1 * (M 111 ((1 * ρ 1 + (1 * ρ 0 + 0)).toNat)) + 0 := by rw [hW, sU_ne (fun z => by omega), sU_ne (fun z => by omega), sU_at]
      have r91_962 : W 91 962 = 1 * (xkN (M 110 ((1 * ρ 1 + (1 * ρ 0 + 0)).toNat)) (M 111 ((1 * ρ 1 + (1 * ρ 0 + 0)).toNat))) + 0 := by rw [hW, sU_ne (fun z => by omega), sU_at]
      have r91_963 : W 91 963 = 1 * (xkE (M 110 ((1 * ρ 1 + (1 * ρ 0 + 0)).toNat)) (M 111 ((1 * ρ 1 + (1 * ρ 0 + 0)).toNat))) + 0 := by rw [hW, sU_at]
      have c110 : ∀ k, W 110 k = M 110 k := fun k => by rw [hW, sU_ne (fun z => by omega), sU_ne (fun z => by omega), sU_ne (fun z => by omega), sU_ne (fun z => by omega), sU_ne (fun z => by omega), sU_ne (fun z => by omega)]
      have c111 : ∀ k, W 111 k = M 111 k := fun k => by rw [hW, sU_ne (fun z => by omega), sU_ne (fun z => by omega), sU_ne (fun z => by omega), sU_ne (fun z => by omega), sU_ne (fun z => by omega), sU_ne (fun z => by omega)]
      intro h
      rw [r91_960, r91_961, r91_962, r91_963, r91_981, c110, c111]
      repeat rw [x10]
      exact ⟨rfl, rfl, rfl, rfl⟩
    have k_xZb : xZb W := by
      rw [hW]
      exact (uxZb rfl (uxZb rfl (uxZb rfl (uxZb rfl (uxZb rfl (uxZb rfl hI.2.2.2.1.2.2.2.2.2.2.2.2.2.2.2.2.2.1))))))
    have k_xT1 : xT1 W := by
      rw [hW]
      exact (uxT1 rfl (uxT1 rfl (uxT1 rfl (uxT1 rfl (uxT1 rfl (uxT1 rfl hI.2.2.2.1.2.2.2.2.2.2.2.2.2.2.2.2.2.2))))))
    have kXA : XA W := ⟨k_xY1, k_xY2, k_xY3, k_xZ1, k_xZ2, k_xZ3, k_xZ4, k_xZ5, k_xZ6, k_xZ7, k_xZ8, k_xZ9, k_xZa, k_xZb, k_xT1⟩
    have kXB : XB W := by
      rw [hW]
      exact (uXB rfl (uXB rfl (uXB rfl (uXB rfl (uXB rfl (uXB rfl hI.2.2.2.2))))))
    exact ⟨base, k2, k3, kXA, kXB⟩
-- evSort
def xr_68 : qRu := (5, [[(1, 1), (-1, 4)], [(-1, 1), (1, 4)]], [(91, 964, [(1, 0)]), (91, 981, [(1, 1)]), (91, 960, [(1, 2)]), (110, 1004, [(1, 3)])], [], [], [[(1, 2), (-1, 3)], [(-1, 2), (1, 3)]])
theorem xo_68 : qRok xr_68 := by
  intro ρ M h0 hf hm hI
  have f0 := hf [(1, 1), (-1, 4)] (by decide)
  have f1 := hf [(-1, 1), (1, 4)] (by decide)
  simp only [qD, h0] at f0 f1
  have m0 : M 91 964 = 1 * ρ 0 + 0 := hm (91, 964, [(1, 0)]) (by decide)
  have m1 : M 91 981 = 1 * ρ 1 + 0 := hm (91, 981, [(1, 1)]) (by decide)
  have m2 : M 91 960 = 1 * ρ 2 + 0 := hm (91, 960, [(1, 2)]) (by decide)
  have m3 : M 110 (zIx ρ (1000 + 4)) = 1 * ρ 3 + 0 := hm (110, 1004, [(1, 3)]) (by decide)
  rw [zix_p] at m3
  simp only [h0] at m0
  have qxZa := hI.2.2.2.1.2.2.2.2.2.2.2.2.2.2.2.2.1
  have ha := (qxZa (by omega)).1
  rw [show (M 91 981).toNat = (ρ 4).toNat by omega] at ha
  refine ⟨ρ, fun _ _ => rfl, fun f h => ?_, ?_⟩
  · have h : f ∈ ([[(1, 2), (-1, 3)], [(-1, 2), (1, 3)]] : List qF) := h
    simp only [List.mem_cons, List.not_mem_nil, or_false] at h
    rcases h with rfl | rfl
    · show 0 ≤ 1 * ρ 2 + (-1 * ρ 3 + 0)
      (try rw [h0]); omega
    · show 0 ≤ -1 * ρ 2 + (1 * ρ 3 + 0)
      (try rw [h0]); omega
  · show sI M
    exact hI
-- evVal
def xr_69 : qRu := (5, [[(1, 1), (-1, 4)], [(-1, 1), (1, 4)]], [(91, 964, [(1, 0)]), (91, 981, [(1, 1)]), (91, 961, [(1, 2)]), (111, 1004, [(1, 3)])], [], [], [[(1, 2), (-1, 3)], [(-1, 2), (1, 3)]])
theorem xo_69 : qRok xr_69 := by
  intro ρ M h0 hf hm hI
  have f0 := hf [(1, 1), (-1, 4)] (by decide)
  have f1 := hf [(-1, 1), (1, 4)] (by decide)
  simp only [qD, h0] at f0 f1
  have m0 : M 91 964 = 1 * ρ 0 + 0 := hm (91, 964, [(1, 0)]) (by decide)
  have m1 : M 91 981 = 1 * ρ 1 + 0 := hm (91, 981, [(1, 1)]) (by decide)
  have m2 : M 91 961 = 1 * ρ 2 + 0 := hm (91, 961, [(1, 2)]) (by decide)
  have m3 : M 111 (zIx ρ (1000 + 4)) = 1 * ρ 3 + 0 := hm (111, 1004, [(1, 3)]) (by decide)
  rw [zix_p] at m3
  simp only [h0] at m0
  have qxZa := hI.2.2.2.1.2.2.2.2.2.2.2.2.2.2.2.2.1
  have ha := (qxZa (by omega)).2.1
  rw [show (M 91 981).toNat = (ρ 4).toNat by omega] at ha
  refine ⟨ρ, fun _ _ => rfl, fun f h => ?_, ?_⟩
  · have h : f ∈ ([[(1, 2), (-1, 3)], [(-1, 2), (1, 3)]] : List qF) := h
    simp only [List.mem_cons, List.not_mem_nil, or_false] at h
    rcases h with rfl | rfl
    · show 0 ≤ 1 * ρ 2 + (-1 * ρ 3 + 0)
      (try rw [h0]); omega
    · show 0 ≤ -1 * ρ 2 + (1 * ρ 3 + 0)
      (try rw [h0]); omega
  · show sI M
    exact hI
-- tokOff
def xr_70 : qRu := (1, [], [], [], [(91, 995, [])], [])
theorem xo_70 : qRok xr_70 := by
  intro ρ M h0 hf hm hI
  have qxT1 := hI.2.2.2.1.2.2.2.2.2.2.2.2.2.2.2.2.2.2
  refine ⟨ρ, fun _ _ => rfl, fun f h => ?_, ?_⟩
  · exact nomatch h
  · show sI (sU M 91 995 (0))
    obtain ⟨W, hW⟩ : ∃ W, W = (sU M 91 995 (0)) := ⟨_, rfl⟩
    rw [← hW]
    have base : sI0 W := by
      rw [hW]
      exact (si_u0 hI.1 (fun r hr => by cases hr))
    have k2 : XI2 W := by
      rw [hW]
      exact (xi2_u rfl hI.2.1)
    have k3 : XI3 W := by
      rw [hW]
      exact (xi3_u rfl hI.2.2.1)
    have k_xY1 : xY1 W := by
      rw [hW]
      exact (uxY1 rfl hI.2.2.2.1.1)
    have k_xY2 : xY2 W := by
      rw [hW]
      exact (uxY2 rfl hI.2.2.2.1.2.1)
    have k_xY3 : xY3 W := by
      rw [hW]
      exact (uxY3 rfl hI.2.2.2.1.2.2.1)
    have k_xZ1 : xZ1 W := by
      rw [hW]
      exact (uxZ1 rfl hI.2.2.2.1.2.2.2.1)
    have k_xZ2 : xZ2 W := by
      rw [hW]
      exact (uxZ2 rfl hI.2.2.2.1.2.2.2.2.1)
    have k_xZ3 : xZ3 W := by
      rw [hW]
      exact (uxZ3 rfl hI.2.2.2.1.2.2.2.2.2.1)
    have k_xZ4 : xZ4 W := by
      rw [hW]
      exact (uxZ4 rfl hI.2.2.2.1.2.2.2.2.2.2.1)
    have k_xZ5 : xZ5 W := by
      rw [hW]
      exact (uxZ5 rfl hI.2.2.2.1.2.2.2.2.2.2.2.1)
    have k_xZ6 : xZ6 W := by
      rw [hW]
      exact (uxZ6 rfl hI.2.2.2.1.2.2.2.2.2.2.2.2.1)
    have k_xZ7 : xZ7 W := by
      rw [hW]
      exact (uxZ7 rfl hI.2.2.2.1.2.2.2.2.2.2.2.2.2.1)
    have k_xZ8 : xZ8 W := by
      rw [hW]
      exact (uxZ8 rfl hI.2.2.2.1.2.2.2.2.2.2.2.2.2.2.1)
    have k_xZ9 : xZ9 W := by
      rw [hW]
      exact (uxZ9 rfl hI.2.2.2.1.2.2.2.2.2.2.2.2.2.2.2.1)
    have k_xZa : xZa W := by
      rw [hW]
      exact (uxZa rfl hI.2.2.2.1.2.2.2.2.2.2.2.2.2.2.2.2.1)
    have k_xZb : xZb W := by
      rw [hW]
      exact (uxZb rfl hI.2.2.2.1.2.2.2.2.2.2.2.2.2.2.2.2.2.1)
    have k_xT1 : xT1 W := by
      have r91_995 : W 91 995 = 0 := by rw [hW, sU_at]
      have r91_29 : W 91 29 = M 91 29 := by rw [hW, sU_ne (fun z => by omega)]
      have r91_30 : W 91 30 = M 91 30 := by rw [hW, sU_ne (fun z => by omega)]
      intro h
      rw [r91_995] at h
      omega
    have kXA : XA W := ⟨k_xY1, k_xY2, k_xY3, k_xZ1, k_xZ2, k_xZ3, k_xZ4, k_xZ5, k_xZ6, k_xZ7, k_xZ8, k_xZ9, k_xZa, k_xZb, k_xT1⟩
    have kXB : XB W := by
      rw [hW]
      exact (uXB rfl hI.2.2.2.2)
    exact ⟨base, k2, k3, kXA, kXB⟩
-- wSort
def xr_71 : qRu := (2, [[(1, 1)], [(5, 0), (-1, 1)]], [(91, 995, [])], [(91, [(29, 0)], [(1, 1)])], [], [])
theorem xo_71 : qRok xr_71 := by
  intro ρ M h0 hf hm hI
  have f0 := hf [(1, 1)] (by decide)
  have f1 := hf [(5, 0), (-1, 1)] (by decide)
  simp only [qD, h0] at f0 f1
  have m0 : M 91 995 = 0 := hm (91, 995, []) (by decide)
  have qxT1 := hI.2.2.2.1.2.2.2.2.2.2.2.2.2.2.2.2.2.2
  refine ⟨ρ, fun _ _ => rfl, fun f h => ?_, ?_⟩
  · exact nomatch h
  · show sI (sU M 91 (29 * ρ 0 + 0 : Int).toNat (1 * ρ 1 + 0))
    rw [show (29 * ρ 0 + 0 : Int).toNat = 29 by (try rw [h0]); rfl]
    obtain ⟨W, hW⟩ : ∃ W, W = (sU M 91 29 (1 * ρ 1 + 0)) := ⟨_, rfl⟩
    rw [← hW]
    have base : sI0 W := by
      rw [hW]
      exact (si_u0 hI.1 (fun r hr => by have hr : some ((0 : Int), (5 : Int)) = some r := hr; cases hr; exact ⟨by show (0 : Int) ≤ _; (try rw [h0]); omega, by show _ ≤ (5 : Int); (try rw [h0]); omega⟩))
    have k2 : XI2 W := by
      rw [hW]
      exact (xi2_u rfl hI.2.1)
    have k3 : XI3 W := by
      rw [hW]
      exact (xi3_u rfl hI.2.2.1)
    have k_xY1 : xY1 W := by
      rw [hW]
      exact (uxY1 rfl hI.2.2.2.1.1)
    have k_xY2 : xY2 W := by
      rw [hW]
      exact (uxY2 rfl hI.2.2.2.1.2.1)
    have k_xY3 : xY3 W := by
      rw [hW]
      exact (uxY3 rfl hI.2.2.2.1.2.2.1)
    have k_xZ1 : xZ1 W := by
      rw [hW]
      exact (uxZ1 rfl hI.2.2.2.1.2.2.2.1)
    have k_xZ2 : xZ2 W := by
      rw [hW]
      exact (uxZ2 rfl hI.2.2.2.1.2.2.2.2.1)
    have k_xZ3 : xZ3 W := by
      rw [hW]
      exact (uxZ3 rfl hI.2.2.2.1.2.2.2.2.2.1)
    have k_xZ4 : xZ4 W := by
      rw [hW]
      exact (uxZ4 rfl hI.2.2.2.1.2.2.2.2.2.2.1)
    have k_xZ5 : xZ5 W := by
      rw [hW]
      exact (uxZ5 rfl hI.2.2.2.1.2.2.2.2.2.2.2.1)
    have k_xZ6 : xZ6 W := by
      rw [hW]
      exact (uxZ6 rfl hI.2.2.2.1.2.2.2.2.2.2.2.2.1)
    have k_xZ7 : xZ7 W := by
      rw [hW]
      exact (uxZ7 rfl hI.2.2.2.1.2.2.2.2.2.2.2.2.2.1)
    have k_xZ8 : xZ8 W := by
      rw [hW]
      exact (uxZ8 rfl hI.2.2.2.1.2.2.2.2.2.2.2.2.2.2.1)
    have k_xZ9 : xZ9 W := by
      rw [hW]
      exact (uxZ9 rfl hI.2.2.2.1.2.2.2.2.2.2.2.2.2.2.2.1)
    have k_xZa : xZa W := by
      rw [hW]
      exact (uxZa rfl hI.2.2.2.1.2.2.2.2.2.2.2.2.2.2.2.2.1)
    have k_xZb : xZb W := by
      rw [hW]
      exact (uxZb rfl hI.2.2.2.1.2.2.2.2.2.2.2.2.2.2.2.2.2.1)
    have k_xT1 : xT1 W := by
      have r91_995 : W 91 995 = M 91 995 := by rw [hW, sU_ne (fun z => by omega)]
      have r91_29 : W 91 29 = 1 * ρ 1 + 0 := by rw [hW, sU_at]
      have r91_30 : W 91 30 = M 91 30 := by rw [hW, sU_ne (fun z => by omega)]
      intro h
      rw [r91_995] at h
      omega
    have kXA : XA W := ⟨k_xY1, k_xY2, k_xY3, k_xZ1, k_xZ2, k_xZ3, k_xZ4, k_xZ5, k_xZ6, k_xZ7, k_xZ8, k_xZ9, k_xZa, k_xZb, k_xT1⟩
    have kXB : XB W := by
      rw [hW]
      exact (uXB rfl hI.2.2.2.2)
    exact ⟨base, k2, k3, kXA, kXB⟩
-- wValue
def xr_72 : qRu := (2, [[(2147483648, 0), (1, 1)], [(2147483647, 0), (-1, 1)]], [(91, 995, [])], [(91, [(30, 0)], [(1, 1)])], [], [])
theorem xo_72 : qRok xr_72 := by
  intro ρ M h0 hf hm hI
  have f0 := hf [(2147483648, 0), (1, 1)] (by decide)
  have f1 := hf [(2147483647, 0), (-1, 1)] (by decide)
  simp only [qD, h0] at f0 f1
  have m0 : M 91 995 = 0 := hm (91, 995, []) (by decide)
  have qxT1 := hI.2.2.2.1.2.2.2.2.2.2.2.2.2.2.2.2.2.2
  refine ⟨ρ, fun _ _ => rfl, fun f h => ?_, ?_⟩
  · exact nomatch h
  · show sI (sU M 91 (30 * ρ 0 + 0 : Int).toNat (1 * ρ 1 + 0))
    rw [show (30 * ρ 0 + 0 : Int).toNat = 30 by (try rw [h0]); rfl]
    obtain ⟨W, hW⟩ : ∃ W, W = (sU M 91 30 (1 * ρ 1 + 0)) := ⟨_, rfl⟩
    rw [← hW]
    have base : sI0 W := by
      rw [hW]
      exact (si_u0 hI.1 (fun r hr => by have hr : some ((-2147483648 : Int), (2147483647 : Int)) = some r := hr; cases hr; exact ⟨by show (-2147483648 : Int) ≤ _; (try rw [h0]); omega, by show _ ≤ (2147483647 : Int); (try rw [h0]); omega⟩))
    have k2 : XI2 W := by
      rw [hW]
      exact (xi2_u rfl hI.2.1)
    have k3 : XI3 W := by
      rw [hW]
      exact (xi3_u rfl hI.2.2.1)
    have k_xY1 : xY1 W := by
      rw [hW]
      exact (uxY1 rfl hI.2.2.2.1.1)
    have k_xY2 : xY2 W := by
      rw [hW]
      exact (uxY2 rfl hI.2.2.2.1.2.1)
    have k_xY3 : xY3 W := by
      rw [hW]
      exact (uxY3 rfl hI.2.2.2.1.2.2.1)
    have k_xZ1 : xZ1 W := by
      rw [hW]
      exact (uxZ1 rfl hI.2.2.2.1.2.2.2.1)
    have k_xZ2 : xZ2 W := by
      rw [hW]
      exact (uxZ2 rfl hI.2.2.2.1.2.2.2.2.1)
    have k_xZ3 : xZ3 W := by
      rw [hW]
      exact (uxZ3 rfl hI.2.2.2.1.2.2.2.2.2.1)
    have k_xZ4 : xZ4 W := by
      rw [hW]
      exact (uxZ4 rfl hI.2.2.2.1.2.2.2.2.2.2.1)
    have k_xZ5 : xZ5 W := by
      rw [hW]
      exact (uxZ5 rfl hI.2.2.2.1.2.2.2.2.2.2.2.1)
    have k_xZ6 : xZ6 W := by
      rw [hW]
      exact (uxZ6 rfl hI.2.2.2.1.2.2.2.2.2.2.2.2.1)
    have k_xZ7 : xZ7 W := by
      rw [hW]
      exact (uxZ7 rfl hI.2.2.2.1.2.2.2.2.2.2.2.2.2.1)
    have k_xZ8 : xZ8 W := by
      rw [hW]
      exact (uxZ8 rfl hI.2.2.2.1.2.2.2.2.2.2.2.2.2.2.1)
    have k_xZ9 : xZ9 W := by
      rw [hW]
      exact (uxZ9 rfl hI.2.2.2.1.2.2.2.2.2.2.2.2.2.2.2.1)
    have k_xZa : xZa W := by
      rw [hW]
      exact (uxZa rfl hI.2.2.2.1.2.2.2.2.2.2.2.2.2.2.2.2.1)
    have k_xZb : xZb W := by
      rw [hW]
      exact (uxZb rfl hI.2.2.2.1.2.2.2.2.2.2.2.2.2.2.2.2.2.1)
    have k_xT1 : xT1 W := by
      have r91_995 : W 91 995 = M 91 995 := by rw [hW, sU_ne (fun z => by omega)]
      have r91_29 : W 91 29 = M 91 29 := by rw [hW, sU_ne (fun z => by omega)]
      have r91_30 : W 91 30 = 1 * ρ 1 + 0 := by rw [hW, sU_at]
      intro h
      rw [r91_995] at h
      omega
    have kXA : XA W := ⟨k_xY1, k_xY2, k_xY3, k_xZ1, k_xZ2, k_xZ3, k_xZ4, k_xZ5, k_xZ6, k_xZ7, k_xZ8, k_xZ9, k_xZa, k_xZb, k_xT1⟩
    have kXB : XB W := by
      rw [hW]
      exact (uXB rfl hI.2.2.2.2)
    exact ⟨base, k2, k3, kXA, kXB⟩
-- tokW
def xr_73 : qRu := (3, [[(1, 1)], [(-1, 1)], [(23, 0), (-1, 2)]], [(91, 29, [(1, 1)]), (91, 30, [(1, 2)])], [], [(91, 995, [(1, 0)])], [])
theorem xo_73 : qRok xr_73 := by
  intro ρ M h0 hf hm hI
  have f0 := hf [(1, 1)] (by decide)
  have f1 := hf [(-1, 1)] (by decide)
  have f2 := hf [(23, 0), (-1, 2)] (by decide)
  simp only [qD, h0] at f0 f1 f2
  have m0 : M 91 29 = 1 * ρ 1 + 0 := hm (91, 29, [(1, 1)]) (by decide)
  have m1 : M 91 30 = 1 * ρ 2 + 0 := hm (91, 30, [(1, 2)]) (by decide)
  have qxT1 := hI.2.2.2.1.2.2.2.2.2.2.2.2.2.2.2.2.2.2
  refine ⟨ρ, fun _ _ => rfl, fun f h => ?_, ?_⟩
  · exact nomatch h
  · show sI (sU M 91 995 (1 * ρ 0 + 0))
    obtain ⟨W, hW⟩ : ∃ W, W = (sU M 91 995 (1 * ρ 0 + 0)) := ⟨_, rfl⟩
    rw [← hW]
    have base : sI0 W := by
      rw [hW]
      exact (si_u0 hI.1 (fun r hr => by cases hr))
    have k2 : XI2 W := by
      rw [hW]
      exact (xi2_u rfl hI.2.1)
    have k3 : XI3 W := by
      rw [hW]
      exact (xi3_u rfl hI.2.2.1)
    have k_xY1 : xY1 W := by
      rw [hW]
      exact (uxY1 rfl hI.2.2.2.1.1)
    have k_xY2 : xY2 W := by
      rw [hW]
      exact (uxY2 rfl hI.2.2.2.1.2.1)
    have k_xY3 : xY3 W := by
      rw [hW]
      exact (uxY3 rfl hI.2.2.2.1.2.2.1)
    have k_xZ1 : xZ1 W := by
      rw [hW]
      exact (uxZ1 rfl hI.2.2.2.1.2.2.2.1)
    have k_xZ2 : xZ2 W := by
      rw [hW]
      exact (uxZ2 rfl hI.2.2.2.1.2.2.2.2.1)
    have k_xZ3 : xZ3 W := by
      rw [hW]
      exact (uxZ3 rfl hI.2.2.2.1.2.2.2.2.2.1)
    have k_xZ4 : xZ4 W := by
      rw [hW]
      exact (uxZ4 rfl hI.2.2.2.1.2.2.2.2.2.2.1)
    have k_xZ5 : xZ5 W := by
      rw [hW]
      exact (uxZ5 rfl hI.2.2.2.1.2.2.2.2.2.2.2.1)
    have k_xZ6 : xZ6 W := by
      rw [hW]
      exact (uxZ6 rfl hI.2.2.2.1.2.2.2.2.2.2.2.2.1)
    have k_xZ7 : xZ7 W := by
      rw [hW]
      exact (uxZ7 rfl hI.2.2.2.1.2.2.2.2.2.2.2.2.2.1)
    have k_xZ8 : xZ8 W := by
      rw [hW]
      exact (uxZ8 rfl hI.2.2.2.1.2.2.2.2.2.2.2.2.2.2.1)
    have k_xZ9 : xZ9 W := by
      rw [hW]
      exact (uxZ9 rfl hI.2.2.2.1.2.2.2.2.2.2.2.2.2.2.2.1)
    have k_xZa : xZa W := by
      rw [hW]
      exact (uxZa rfl hI.2.2.2.1.2.2.2.2.2.2.2.2.2.2.2.2.1)
    have k_xZb : xZb W := by
      rw [hW]
      exact (uxZb rfl hI.2.2.2.1.2.2.2.2.2.2.2.2.2.2.2.2.2.1)
    have k_xT1 : xT1 W := by
      have r91_995 : W 91 995 = 1 * ρ 0 + 0 := by rw [hW, sU_at]
      have r91_29 : W 91 29 = M 91 29 := by rw [hW, sU_ne (fun z => by omega)]
      have r91_30 : W 91 30 = M 91 30 := by rw [hW, sU_ne (fun z => by omega)]
      intro h
      rw [r91_29, r91_30]
      exact ⟨fun a => by omega, fun a => by omega⟩
    have kXA : XA W := ⟨k_xY1, k_xY2, k_xY3, k_xZ1, k_xZ2, k_xZ3, k_xZ4, k_xZ5, k_xZ6, k_xZ7, k_xZ8, k_xZ9, k_xZa, k_xZb, k_xT1⟩
    have kXB : XB W := by
      rw [hW]
      exact (uXB rfl hI.2.2.2.2)
    exact ⟨base, k2, k3, kXA, kXB⟩
-- tokS
def xr_74 : qRu := (3, [[(-3, 0), (1, 1)], [(3, 0), (-1, 1)], [(258, 0), (-1, 2)]], [(91, 29, [(1, 1)]), (91, 30, [(1, 2)])], [], [(91, 995, [(1, 0)])], [])
theorem xo_74 : qRok xr_74 := by
  intro ρ M h0 hf hm hI
  have f0 := hf [(-3, 0), (1, 1)] (by decide)
  have f1 := hf [(3, 0), (-1, 1)] (by decide)
  have f2 := hf [(258, 0), (-1, 2)] (by decide)
  simp only [qD, h0] at f0 f1 f2
  have m0 : M 91 29 = 1 * ρ 1 + 0 := hm (91, 29, [(1, 1)]) (by decide)
  have m1 : M 91 30 = 1 * ρ 2 + 0 := hm (91, 30, [(1, 2)]) (by decide)
  have qxT1 := hI.2.2.2.1.2.2.2.2.2.2.2.2.2.2.2.2.2.2
  refine ⟨ρ, fun _ _ => rfl, fun f h => ?_, ?_⟩
  · exact nomatch h
  · show sI (sU M 91 995 (1 * ρ 0 + 0))
    obtain ⟨W, hW⟩ : ∃ W, W = (sU M 91 995 (1 * ρ 0 + 0)) := ⟨_, rfl⟩
    rw [← hW]
    have base : sI0 W := by
      rw [hW]
      exact (si_u0 hI.1 (fun r hr => by cases hr))
    have k2 : XI2 W := by
      rw [hW]
      exact (xi2_u rfl hI.2.1)
    have k3 : XI3 W := by
      rw [hW]
      exact (xi3_u rfl hI.2.2.1)
    have k_xY1 : xY1 W := by
      rw [hW]
      exact (uxY1 rfl hI.2.2.2.1.1)
    have k_xY2 : xY2 W := by
      rw [hW]
      exact (uxY2 rfl hI.2.2.2.1.2.1)
    have k_xY3 : xY3 W := by
      rw [hW]
      exact (uxY3 rfl hI.2.2.2.1.2.2.1)
    have k_xZ1 : xZ1 W := by
      rw [hW]
      exact (uxZ1 rfl hI.2.2.2.1.2.2.2.1)
    have k_xZ2 : xZ2 W := by
      rw [hW]
      exact (uxZ2 rfl hI.2.2.2.1.2.2.2.2.1)
    have k_xZ3 : xZ3 W := by
      rw [hW]
      exact (uxZ3 rfl hI.2.2.2.1.2.2.2.2.2.1)
    have k_xZ4 : xZ4 W := by
      rw [hW]
      exact (uxZ4 rfl hI.2.2.2.1.2.2.2.2.2.2.1)
    have k_xZ5 : xZ5 W := by
      rw [hW]
      exact (uxZ5 rfl hI.2.2.2.1.2.2.2.2.2.2.2.1)
    have k_xZ6 : xZ6 W := by
      rw [hW]
      exact (uxZ6 rfl hI.2.2.2.1.2.2.2.2.2.2.2.2.1)
    have k_xZ7 : xZ7 W := by
      rw [hW]
      exact (uxZ7 rfl hI.2.2.2.1.2.2.2.2.2.2.2.2.2.1)
    have k_xZ8 : xZ8 W := by
      rw [hW]
      exact (uxZ8 rfl hI.2.2.2.1.2.2.2.2.2.2.2.2.2.2.1)
    have k_xZ9 : xZ9 W := by
      rw [hW]
      exact (uxZ9 rfl hI.2.2.2.1.2.2.2.2.2.2.2.2.2.2.2.1)
    have k_xZa : xZa W := by
      rw [hW]
      exact (uxZa rfl hI.2.2.2.1.2.2.2.2.2.2.2.2.2.2.2.2.1)
    have k_xZb : xZb W := by
      rw [hW]
      exact (uxZb rfl hI.2.2.2.1.2.2.2.2.2.2.2.2.2.2.2.2.2.1)
    have k_xT1 : xT1 W := by
      have r91_995 : W 91 995 = 1 * ρ 0 + 0 := by rw [hW, sU_at]
      have r91_29 : W 91 29 = M 91 29 := by rw [hW, sU_ne (fun z => by omega)]
      have r91_30 : W 91 30 = M 91 30 := by rw [hW, sU_ne (fun z => by omega)]
      intro h
      rw [r91_29, r91_30]
      exact ⟨fun a => by omega, fun a => by omega⟩
    have kXA : XA W := ⟨k_xY1, k_xY2, k_xY3, k_xZ1, k_xZ2, k_xZ3, k_xZ4, k_xZ5, k_xZ6, k_xZ7, k_xZ8, k_xZ9, k_xZa, k_xZb, k_xT1⟩
    have kXB : XB W := by
      rw [hW]
      exact (uXB rfl hI.2.2.2.2)
    exact ⟨base, k2, k3, kXA, kXB⟩
-- tokL
def xr_75 : qRu := (2, [[(-1, 0), (1, 1)], [(2, 0), (-1, 1)]], [(91, 29, [(1, 1)])], [], [(91, 995, [(1, 0)])], [])
theorem xo_75 : qRok xr_75 := by
  intro ρ M h0 hf hm hI
  have f0 := hf [(-1, 0), (1, 1)] (by decide)
  have f1 := hf [(2, 0), (-1, 1)] (by decide)
  simp only [qD, h0] at f0 f1
  have m0 : M 91 29 = 1 * ρ 1 + 0 := hm (91, 29, [(1, 1)]) (by decide)
  have qxT1 := hI.2.2.2.1.2.2.2.2.2.2.2.2.2.2.2.2.2.2
  refine ⟨ρ, fun _ _ => rfl, fun f h => ?_, ?_⟩
  · exact nomatch h
  · show sI (sU M 91 995 (1 * ρ 0 + 0))
    obtain ⟨W, hW⟩ : ∃ W, W = (sU M 91 995 (1 * ρ 0 + 0)) := ⟨_, rfl⟩
    rw [← hW]
    have base : sI0 W := by
      rw [hW]
      exact (si_u0 hI.1 (fun r hr => by cases hr))
    have k2 : XI2 W := by
      rw [hW]
      exact (xi2_u rfl hI.2.1)
    have k3 : XI3 W := by
      rw [hW]
      exact (xi3_u rfl hI.2.2.1)
    have k_xY1 : xY1 W := by
      rw [hW]
      exact (uxY1 rfl hI.2.2.2.1.1)
    have k_xY2 : xY2 W := by
      rw [hW]
      exact (uxY2 rfl hI.2.2.2.1.2.1)
    have k_xY3 : xY3 W := by
      rw [hW]
      exact (uxY3 rfl hI.2.2.2.1.2.2.1)
    have k_xZ1 : xZ1 W := by
      rw [hW]
      exact (uxZ1 rfl hI.2.2.2.1.2.2.2.1)
    have k_xZ2 : xZ2 W := by
      rw [hW]
      exact (uxZ2 rfl hI.2.2.2.1.2.2.2.2.1)
    have k_xZ3 : xZ3 W := by
      rw [hW]
      exact (uxZ3 rfl hI.2.2.2.1.2.2.2.2.2.1)
    have k_xZ4 : xZ4 W := by
      rw [hW]
      exact (uxZ4 rfl hI.2.2.2.1.2.2.2.2.2.2.1)
    have k_xZ5 : xZ5 W := by
      rw [hW]
      exact (uxZ5 rfl hI.2.2.2.1.2.2.2.2.2.2.2.1)
    have k_xZ6 : xZ6 W := by
      rw [hW]
      exact (uxZ6 rfl hI.2.2.2.1.2.2.2.2.2.2.2.2.1)
    have k_xZ7 : xZ7 W := by
      rw [hW]
      exact (uxZ7 rfl hI.2.2.2.1.2.2.2.2.2.2.2.2.2.1)
    have k_xZ8 : xZ8 W := by
      rw [hW]
      exact (uxZ8 rfl hI.2.2.2.1.2.2.2.2.2.2.2.2.2.2.1)
    have k_xZ9 : xZ9 W := by
      rw [hW]
      exact (uxZ9 rfl hI.2.2.2.1.2.2.2.2.2.2.2.2.2.2.2.1)
    have k_xZa : xZa W := by
      rw [hW]
      exact (uxZa rfl hI.2.2.2.1.2.2.2.2.2.2.2.2.2.2.2.2.1)
    have k_xZb : xZb W := by
      rw [hW]
      exact (uxZb rfl hI.2.2.2.1.2.2.2.2.2.2.2.2.2.2.2.2.2.1)
    have k_xT1 : xT1 W := by
      have r91_995 : W 91 995 = 1 * ρ 0 + 0 := by rw [hW, sU_at]
      have r91_29 : W 91 29 = M 91 29 := by rw [hW, sU_ne (fun z => by omega)]
      have r91_30 : W 91 30 = M 91 30 := by rw [hW, sU_ne (fun z => by omega)]
      intro h
      rw [r91_29, r91_30]
      exact ⟨fun a => by omega, fun a => by omega⟩
    have kXA : XA W := ⟨k_xY1, k_xY2, k_xY3, k_xZ1, k_xZ2, k_xZ3, k_xZ4, k_xZ5, k_xZ6, k_xZ7, k_xZ8, k_xZ9, k_xZa, k_xZb, k_xT1⟩
    have kXB : XB W := by
      rw [hW]
      exact (uXB rfl hI.2.2.2.2)
    exact ⟨base, k2, k3, kXA, kXB⟩
-- tokH
def xr_76 : qRu := (2, [[(-4, 0), (1, 1)]], [(91, 29, [(1, 1)])], [], [(91, 995, [(1, 0)])], [])
theorem xo_76 : qRok xr_76 := by
  intro ρ M h0 hf hm hI
  have f0 := hf [(-4, 0), (1, 1)] (by decide)
  simp only [qD, h0] at f0
  have m0 : M 91 29 = 1 * ρ 1 + 0 := hm (91, 29, [(1, 1)]) (by decide)
  have qxT1 := hI.2.2.2.1.2.2.2.2.2.2.2.2.2.2.2.2.2.2
  refine ⟨ρ, fun _ _ => rfl, fun f h => ?_, ?_⟩
  · exact nomatch h
  · show sI (sU M 91 995 (1 * ρ 0 + 0))
    obtain ⟨W, hW⟩ : ∃ W, W = (sU M 91 995 (1 * ρ 0 + 0)) := ⟨_, rfl⟩
    rw [← hW]
    have base : sI0 W := by
      rw [hW]
      exact (si_u0 hI.1 (fun r hr => by cases hr))
    have k2 : XI2 W := by
      rw [hW]
      exact (xi2_u rfl hI.2.1)
    have k3 : XI3 W := by
      rw [hW]
      exact (xi3_u rfl hI.2.2.1)
    have k_xY1 : xY1 W := by
      rw [hW]
      exact (uxY1 rfl hI.2.2.2.1.1)
    have k_xY2 : xY2 W := by
      rw [hW]
      exact (uxY2 rfl hI.2.2.2.1.2.1)
    have k_xY3 : xY3 W := by
      rw [hW]
      exact (uxY3 rfl hI.2.2.2.1.2.2.1)
    have k_xZ1 : xZ1 W := by
      rw [hW]
      exact (uxZ1 rfl hI.2.2.2.1.2.2.2.1)
    have k_xZ2 : xZ2 W := by
      rw [hW]
      exact (uxZ2 rfl hI.2.2.2.1.2.2.2.2.1)
    have k_xZ3 : xZ3 W := by
      rw [hW]
      exact (uxZ3 rfl hI.2.2.2.1.2.2.2.2.2.1)
    have k_xZ4 : xZ4 W := by
      rw [hW]
      exact (uxZ4 rfl hI.2.2.2.1.2.2.2.2.2.2.1)
    have k_xZ5 : xZ5 W := by
      rw [hW]
      exact (uxZ5 rfl hI.2.2.2.1.2.2.2.2.2.2.2.1)
    have k_xZ6 : xZ6 W := by
      rw [hW]
      exact (uxZ6 rfl hI.2.2.2.1.2.2.2.2.2.2.2.2.1)
    have k_xZ7 : xZ7 W := by
      rw [hW]
      exact (uxZ7 rfl hI.2.2.2.1.2.2.2.2.2.2.2.2.2.1)
    have k_xZ8 : xZ8 W := by
      rw [hW]
      exact (uxZ8 rfl hI.2.2.2.1.2.2.2.2.2.2.2.2.2.2.1)
    have k_xZ9 : xZ9 W := by
      rw [hW]
      exact (uxZ9 rfl hI.2.2.2.1.2.2.2.2.2.2.2.2.2.2.2.1)
    have k_xZa : xZa W := by
      rw [hW]
      exact (uxZa rfl hI.2.2.2.1.2.2.2.2.2.2.2.2.2.2.2.2.1)
    have k_xZb : xZb W := by
      rw [hW]
      exact (uxZb rfl hI.2.2.2.1.2.2.2.2.2.2.2.2.2.2.2.2.2.1)
    have k_xT1 : xT1 W := by
      have r91_995 : W 91 995 = 1 * ρ 0 + 0 := by rw [hW, sU_at]
      have r91_29 : W 91 29 = M 91 29 := by rw [hW, sU_ne (fun z => by omega)]
      have r91_30 : W 91 30 = M 91 30 := by rw [hW, sU_ne (fun z => by omega)]
      intro h
      rw [r91_29, r91_30]
      exact ⟨fun a => by omega, fun a => by omega⟩
    have kXA : XA W := ⟨k_xY1, k_xY2, k_xY3, k_xZ1, k_xZ2, k_xZ3, k_xZ4, k_xZ5, k_xZ6, k_xZ7, k_xZ8, k_xZ9, k_xZa, k_xZb, k_xT1⟩
    have kXB : XB W := by
      rw [hW]
      exact (uXB rfl hI.2.2.2.2)
    exact ⟨base, k2, k3, kXA, kXB⟩
-- isW
def xr_77 : qRu := (3, [[(1, 1)], [(-1, 1)]], [(91, 995, [(1, 0)]), (91, 29, [(1, 1)]), (91, 30, [(1, 2)])], [], [], [[(23, 0), (-1, 2)]])
theorem xo_77 : qRok xr_77 := by
  intro ρ M h0 hf hm hI
  have f0 := hf [(1, 1)] (by decide)
  have f1 := hf [(-1, 1)] (by decide)
  simp only [qD, h0] at f0 f1
  have m0 : M 91 995 = 1 * ρ 0 + 0 := hm (91, 995, [(1, 0)]) (by decide)
  have m1 : M 91 29 = 1 * ρ 1 + 0 := hm (91, 29, [(1, 1)]) (by decide)
  have m2 : M 91 30 = 1 * ρ 2 + 0 := hm (91, 30, [(1, 2)]) (by decide)
  simp only [h0] at m0
  have qxT1 := hI.2.2.2.1.2.2.2.2.2.2.2.2.2.2.2.2.2.2
  have h2 := (qxT1 (by omega)).1 (by omega)
  refine ⟨ρ, fun _ _ => rfl, fun f h => ?_, ?_⟩
  · have h : f ∈ ([[(23, 0), (-1, 2)]] : List qF) := h
    simp only [List.mem_cons, List.not_mem_nil, or_false] at h
    rcases h with rfl
    · show 0 ≤ 23 * ρ 0 + (-1 * ρ 2 + 0)
      (try rw [h0]); omega
  · show sI M
    exact hI
-- isS
def xr_78 : qRu := (3, [[(-3, 0), (1, 1)], [(3, 0), (-1, 1)]], [(91, 995, [(1, 0)]), (91, 29, [(1, 1)]), (91, 30, [(1, 2)])], [], [], [[(258, 0), (-1, 2)]])
theorem xo_78 : qRok xr_78 := by
  intro ρ M h0 hf hm hI
  have f0 := hf [(-3, 0), (1, 1)] (by decide)
  have f1 := hf [(3, 0), (-1, 1)] (by decide)
  simp only [qD, h0] at f0 f1
  have m0 : M 91 995 = 1 * ρ 0 + 0 := hm (91, 995, [(1, 0)]) (by decide)
  have m1 : M 91 29 = 1 * ρ 1 + 0 := hm (91, 29, [(1, 1)]) (by decide)
  have m2 : M 91 30 = 1 * ρ 2 + 0 := hm (91, 30, [(1, 2)]) (by decide)
  simp only [h0] at m0
  have qxT1 := hI.2.2.2.1.2.2.2.2.2.2.2.2.2.2.2.2.2.2
  have h2 := (qxT1 (by omega)).2 (by omega)
  refine ⟨ρ, fun _ _ => rfl, fun f h => ?_, ?_⟩
  · have h : f ∈ ([[(258, 0), (-1, 2)]] : List qF) := h
    simp only [List.mem_cons, List.not_mem_nil, or_false] at h
    rcases h with rfl
    · show 0 ≤ 258 * ρ 0 + (-1 * ρ 2 + 0)
      (try rw [h0]); omega
  · show sI M
    exact hI
-- w115
def xr_79 : qRu := (3, [[(1, 1)]], [], [(115, [(1, 1)], [(1, 2)])], [(91, 949, []), (91, 930, []), (91, 928, []), (91, 919, []), (91, 909, []), (91, 900, []), (91, 889, []), (91, 888, []), (91, 884, [])], [])
theorem xo_79 : qRok xr_79 := by
  intro ρ M h0 hf hm hI
  have f0 := hf [(1, 1)] (by decide)
  simp only [qD, h0] at f0
  refine ⟨ρ, fun _ _ => rfl, fun f h => ?_, ?_⟩
  · exact nomatch h
  · show sI (sU (sU (sU (sU (sU (sU (sU (sU (sU (sU M 115 (1 * ρ 1 + 0 : Int).toNat (1 * ρ 2 + 0)) 91 949 (0)) 91 930 (0)) 91 928 (0)) 91 919 (0)) 91 909 (0)) 91 900 (0)) 91 889 (0)) 91 888 (0)) 91 884 (0))
    obtain ⟨W, hW⟩ : ∃ W, W = (sU (sU (sU (sU (sU (sU (sU (sU (sU (sU M 115 (1 * ρ 1 + 0).toNat (1 * ρ 2 + 0)) 91 949 (0)) 91 930 (0)) 91 928 (0)) 91 919 (0)) 91 909 (0)) 91 900 (0)) 91 889 (0)) 91 888 (0)) 91 884 (0)) := ⟨_, rfl⟩
    rw [← hW]
    have base : sI0 W := by
      rw [hW]
      exact (si_u0 (si_u0 (si_u0 (si_u0 (si_u0 (si_u0 (si_u0 (si_u0 (si_u0 (si_u0 hI.1 (fun r hr => by cases hr)) (fun r hr => by cases hr)) (fun r hr => by cases hr)) (fun r hr => by cases hr)) (fun r hr => by cases hr)) (fun r hr => by cases hr)) (fun r hr => by cases hr)) (fun r hr => by cases hr)) (fun r hr => by cases hr)) (fun r hr => by cases hr))
    have k2 : XI2 W := by
      rw [hW]
      exact (xi2_u rfl (xi2_u rfl (xi2_u rfl (xi2_u rfl (xi2_u rfl (xi2_u rfl (xi2_u rfl (xi2_u rfl (xi2_u rfl (xi2_u (sinc_ok rfl _) hI.2.1))))))))))
    have k3 : XI3 W := by
      rw [hW]
      exact (xi3_u rfl (xi3_u rfl (xi3_u rfl (xi3_u rfl (xi3_u rfl (xi3_u rfl (xi3_u rfl (xi3_u rfl (xi3_u rfl (xi3_u (sinc_ok rfl _) hI.2.2.1))))))))))
    have kXA : XA W := by
      rw [hW]
      exact (uXA rfl (uXA rfl (uXA rfl (uXA rfl (uXA rfl (uXA rfl (uXA rfl (uXA rfl (uXA rfl (uXA (sinc_ok rfl _) hI.2.2.2.1))))))))))
    have k_xN1 : xN1 W := by
      have r : W 91 949 = 0 := by rw [hW, sU_ne (fun z => by omega), sU_ne (fun z => by omega), sU_ne (fun z => by omega), sU_ne (fun z => by omega), sU_ne (fun z => by omega), sU_ne (fun z => by omega), sU_ne (fun z => by omega), sU_ne (fun z => by omega), sU_at]
      intro h
      rw [r] at h
      omega
    have k_xN2 : xN2 W := by
      have r : W 91 930 = 0 := by rw [hW, sU_ne (fun z => by omega), sU_ne (fun z => by omega), sU_ne (fun z => by omega), sU_ne (fun z => by omega), sU_ne (fun z => by omega), sU_ne (fun z => by omega), sU_ne (fun z => by omega), sU_at]
      intro h
      rw [r] at h
      omega
    have k_xN3 : xN3 W := by
      have r : W 91 928 = 0 := by rw [hW, sU_ne (fun z => by omega), sU_ne (fun z => by omega), sU_ne (fun z => by omega), sU_ne (fun z => by omega), sU_ne (fun z => by omega), sU_ne (fun z => by omega), sU_at]
      intro h
      rw [r] at h
      omega
    have k_xN4 : xN4 W := by
      rw [hW]
      exact (uxN4 rfl (uxN4 rfl (uxN4 rfl (uxN4 rfl (uxN4 rfl (uxN4 rfl (uxN4 rfl (uxN4 rfl (uxN4 rfl (uxN4 (sinc_ok rfl _) hI.2.2.2.2.2.2.2.1))))))))))
    have k_xN5 : xN5 W := by
      rw [hW]
      exact (uxN5 rfl (uxN5 rfl (uxN5 rfl (uxN5 rfl (uxN5 rfl (uxN5 rfl (uxN5 rfl (uxN5 rfl (uxN5 rfl (uxN5 (sinc_ok rfl _) hI.2.2.2.2.2.2.2.2.1))))))))))
    have k_xN6 : xN6 W := by
      rw [hW]
      exact (uxN6 rfl (uxN6 rfl (uxN6 rfl (uxN6 rfl (uxN6 rfl (uxN6 rfl (uxN6 rfl (uxN6 rfl (uxN6 rfl (uxN6 (sinc_ok rfl _) hI.2.2.2.2.2.2.2.2.2.1))))))))))
    have k_xH1 : xH1 W := by
      have r : W 91 919 = 0 := by rw [hW, sU_ne (fun z => by omega), sU_ne (fun z => by omega), sU_ne (fun z => by omega), sU_ne (fun z => by omega), sU_ne (fun z => by omega), sU_at]
      intro h
      rw [r] at h
      omega
    have k_xK1 : xK1 W := by
      have r : W 91 909 = 0 := by rw [hW, sU_ne (fun z => by omega), sU_ne (fun z => by omega), sU_ne (fun z => by omega), sU_ne (fun z => by omega), sU_at]
      intro h
      rw [r] at h
      omega
    have k_xC1 : xC1 W := by
      have r : W 91 900 = 0 := by rw [hW, sU_ne (fun z => by omega), sU_ne (fun z => by omega), sU_ne (fun z => by omega), sU_at]
      intro h
      rw [r] at h
      omega
    have k_xRW : xRW W := by
      have r : W 91 889 = 0 := by rw [hW, sU_ne (fun z => by omega), sU_ne (fun z => by omega), sU_at]
      intro h
      rw [r] at h
      omega
    have k_xWT : xWT W := by
      have r : W 91 888 = 0 := by rw [hW, sU_ne (fun z => by omega), sU_at]
      intro h
      rw [r] at h
      omega
    have k_xCU : xCU W := by
      have r : W 91 884 = 0 := by rw [hW, sU_at]
      intro h
      rw [r] at h
      omega
    have k_xG2 : xG2 W := by
      rw [hW]
      exact (uxG2 rfl (uxG2 rfl (uxG2 rfl (uxG2 rfl (uxG2 rfl (uxG2 rfl (uxG2 rfl (uxG2 rfl (uxG2 rfl (uxG2 (sinc_ok rfl _) hI.2.2.2.2.2.2.2.2.2.2.2.2.2.2.2.2.1))))))))))
    have k_xG3 : xG3 W := by
      rw [hW]
      exact (uxG3 rfl (uxG3 rfl (uxG3 rfl (uxG3 rfl (uxG3 rfl (uxG3 rfl (uxG3 rfl (uxG3 rfl (uxG3 rfl (uxG3 (sinc_ok rfl _) hI.2.2.2.2.2.2.2.2.2.2.2.2.2.2.2.2.2.1))))))))))
    have k_xG4 : xG4 W := by
      rw [hW]
      exact (uxG4 rfl (uxG4 rfl (uxG4 rfl (uxG4 rfl (uxG4 rfl (uxG4 rfl (uxG4 rfl (uxG4 rfl (uxG4 rfl (uxG4 (sinc_ok rfl _) hI.2.2.2.2.2.2.2.2.2.2.2.2.2.2.2.2.2.2.1))))))))))
    have k_xG5 : xG5 W := by
      rw [hW]
      exact (uxG5 rfl (uxG5 rfl (uxG5 rfl (uxG5 rfl (uxG5 rfl (uxG5 rfl (uxG5 rfl (uxG5 rfl (uxG5 rfl (uxG5 (sinc_ok rfl _) hI.2.2.2.2.2.2.2.2.2.2.2.2.2.2.2.2.2.2.2.1))))))))))
    have k_xG6 : xG6 W := by
      rw [hW]
      exact (uxG6 rfl (uxG6 rfl (uxG6 rfl (uxG6 rfl (uxG6 rfl (uxG6 rfl (uxG6 rfl (uxG6 rfl (uxG6 rfl (uxG6 (sinc_ok rfl _) hI.2.2.2.2.2.2.2.2.2.2.2.2.2.2.2.2.2.2.2.2.1))))))))))
    have k_XC : XC W := by
      rw [hW]
      exact (uXC rfl (uXC rfl (uXC rfl (uXC rfl (uXC rfl (uXC rfl (uXC rfl (uXC rfl (uXC rfl (uXC (sinc_ok rfl _) hI.2.2.2.2.2.2.2.2.2.2.2.2.2.2.2.2.2.2.2.2.2))))))))))
    have kXB : XB W := ⟨k_xN1, k_xN2, k_xN3, k_xN4, k_xN5, k_xN6, k_xH1, k_xK1, k_xC1, k_xRW, k_xWT, k_xCU, k_xG2, k_xG3, k_xG4, k_xG5, k_xG6, k_XC⟩
    exact ⟨base, k2, k3, kXA, kXB⟩
-- w116
def xr_80 : qRu := (3, [[(1, 1)]], [], [(116, [(1, 1)], [(1, 2)])], [(91, 949, []), (91, 930, []), (91, 928, []), (91, 919, []), (91, 909, []), (91, 900, []), (91, 889, []), (91, 888, []), (91, 884, [])], [])
theorem xo_80 : qRok xr_80 := by
  intro ρ M h0 hf hm hI
  have f0 := hf [(1, 1)] (by decide)
  simp only [qD, h0] at f0
  refine ⟨ρ, fun _ _ => rfl, fun f h => ?_, ?_⟩
  · exact nomatch h
  · show sI (sU (sU (sU (sU (sU (sU (sU (sU (sU (sU M 116 (1 * ρ 1 + 0 : Int).toNat (1 * ρ 2 + 0)) 91 949 (0)) 91 930 (0)) 91 928 (0)) 91 919 (0)) 91 909 (0)) 91 900 (0)) 91 889 (0)) 91 888 (0)) 91 884 (0))
    obtain ⟨W, hW⟩ : ∃ W, W = (sU (sU (sU (sU (sU (sU (sU (sU (sU (sU M 116 (1 * ρ 1 + 0).toNat (1 * ρ 2 + 0)) 91 949 (0)) 91 930 (0)) 91 928 (0)) 91 919 (0)) 91 909 (0)) 91 900 (0)) 91 889 (0)) 91 888 (0)) 91 884 (0)) := ⟨_, rfl⟩
    rw [← hW]
    have base : sI0 W := by
      rw [hW]
      exact (si_u0 (si_u0 (si_u0 (si_u0 (si_u0 (si_u0 (si_u0 (si_u0 (si_u0 (si_u0 hI.1 (fun r hr => by cases hr)) (fun r hr => by cases hr)) (fun r hr => by cases hr)) (fun r hr => by cases hr)) (fun r hr => by cases hr)) (fun r hr => by cases hr)) (fun r hr => by cases hr)) (fun r hr => by cases hr)) (fun r hr => by cases hr)) (fun r hr => by cases hr))
    have k2 : XI2 W := by
      rw [hW]
      exact (xi2_u rfl (xi2_u rfl (xi2_u rfl (xi2_u rfl (xi2_u rfl (xi2_u rfl (xi2_u rfl (xi2_u rfl (xi2_u rfl (xi2_u (sinc_ok rfl _) hI.2.1))))))))))
    have k3 : XI3 W := by
      rw [hW]
      exact (xi3_u rfl (xi3_u rfl (xi3_u rfl (xi3_u rfl (xi3_u rfl (xi3_u rfl (xi3_u rfl (xi3_u rfl (xi3_u rfl (xi3_u (sinc_ok rfl _) hI.2.2.1))))))))))
    have kXA : XA W := by
      rw [hW]
      exact (uXA rfl (uXA rfl (uXA rfl (uXA rfl (uXA rfl (uXA rfl (uXA rfl (uXA rfl (uXA rfl (uXA (sinc_ok rfl _) hI.2.2.2.1))))))))))
    have k_xN1 : xN1 W := by
      have r : W 91 949 = 0 := by rw [hW, sU_ne (fun z => by omega), sU_ne (fun z => by omega), sU_ne (fun z => by omega), sU_ne (fun z => by omega), sU_ne (fun z => by omega), sU_ne (fun z => by omega), sU_ne (fun z => by omega), sU_ne (fun z => by omega), sU_at]
      intro h
      rw [r] at h
      omega
    have k_xN2 : xN2 W := by
      have r : W 91 930 = 0 := by rw [hW, sU_ne (fun z => by omega), sU_ne (fun z => by omega), sU_ne (fun z => by omega), sU_ne (fun z => by omega), sU_ne (fun z => by omega), sU_ne (fun z => by omega), sU_ne (fun z => by omega), sU_at]
      intro h
      rw [r] at h
      omega
    have k_xN3 : xN3 W := by
      have r : W 91 928 = 0 := by rw [hW, sU_ne (fun z => by omega), sU_ne (fun z => by omega), sU_ne (fun z => by omega), sU_ne (fun z => by omega), sU_ne (fun z => by omega), sU_ne (fun z => by omega), sU_at]
      intro h
      rw [r] at h
      omega
    have k_xN4 : xN4 W := by
      rw [hW]
      exact (uxN4 rfl (uxN4 rfl (uxN4 rfl (uxN4 rfl (uxN4 rfl (uxN4 rfl (uxN4 rfl (uxN4 rfl (uxN4 rfl (uxN4 (sinc_ok rfl _) hI.2.2.2.2.2.2.2.1))))))))))
    have k_xN5 : xN5 W := by
      rw [hW]
      exact (uxN5 rfl (uxN5 rfl (uxN5 rfl (uxN5 rfl (uxN5 rfl (uxN5 rfl (uxN5 rfl (uxN5 rfl (uxN5 rfl (uxN5 (sinc_ok rfl _) hI.2.2.2.2.2.2.2.2.1))))))))))
    have k_xN6 : xN6 W := by
      rw [hW]
      exact (uxN6 rfl (uxN6 rfl (uxN6 rfl (uxN6 rfl (uxN6 rfl (uxN6 rfl (uxN6 rfl (uxN6 rfl (uxN6 rfl (uxN6 (sinc_ok rfl _) hI.2.2.2.2.2.2.2.2.2.1))))))))))
    have k_xH1 : xH1 W := by
      have r : W 91 919 = 0 := by rw [hW, sU_ne (fun z => by omega), sU_ne (fun z => by omega), sU_ne (fun z => by omega), sU_ne (fun z => by omega), sU_ne (fun z => by omega), sU_at]
      intro h
      rw [r] at h
      omega
    have k_xK1 : xK1 W := by
      have r : W 91 909 = 0 := by rw [hW, sU_ne (fun z => by omega), sU_ne (fun z => by omega), sU_ne (fun z => by omega), sU_ne (fun z => by omega), sU_at]
      intro h
      rw [r] at h
      omega
    have k_xC1 : xC1 W := by
      have r : W 91 900 = 0 := by rw [hW, sU_ne (fun z => by omega), sU_ne (fun z => by omega), sU_ne (fun z => by omega), sU_at]
      intro h
      rw [r] at h
      omega
    have k_xRW : xRW W := by
      have r : W 91 889 = 0 := by rw [hW, sU_ne (fun z => by omega), sU_ne (fun z => by omega), sU_at]
      intro h
      rw [r] at h
      omega
    have k_xWT : xWT W := by
      have r : W 91 888 = 0 := by rw [hW, sU_ne (fun z => by omega), sU_at]
      intro h
      rw [r] at h
      omega
    have k_xCU : xCU W := by
      have r : W 91 884 = 0 := by rw [hW, sU_at]
      intro h
      rw [r] at h
      omega
    have k_xG2 : xG2 W := by
      rw [hW]
      exact (uxG2 rfl (uxG2 rfl (uxG2 rfl (uxG2 rfl (uxG2 rfl (uxG2 rfl (uxG2 rfl (uxG2 rfl (uxG2 rfl (uxG2 (sinc_ok rfl _) hI.2.2.2.2.2.2.2.2.2.2.2.2.2.2.2.2.1))))))))))
    have k_xG3 : xG3 W := by
      rw [hW]
      exact (uxG3 rfl (uxG3 rfl (uxG3 rfl (uxG3 rfl (uxG3 rfl (uxG3 rfl (uxG3 rfl (uxG3 rfl (uxG3 rfl (uxG3 (sinc_ok rfl _) hI.2.2.2.2.2.2.2.2.2.2.2.2.2.2.2.2.2.1))))))))))
    have k_xG4 : xG4 W := by
      rw [hW]
      exact (uxG4 rfl (uxG4 rfl (uxG4 rfl (uxG4 rfl (uxG4 rfl (uxG4 rfl (uxG4 rfl (uxG4 rfl (uxG4 rfl (uxG4 (sinc_ok rfl _) hI.2.2.2.2.2.2.2.2.2.2.2.2.2.2.2.2.2.2.1))))))))))
    have k_xG5 : xG5 W := by
      rw [hW]
      exact (uxG5 rfl (uxG5 rfl (uxG5 rfl (uxG5 rfl (uxG5 rfl (uxG5 rfl (uxG5 rfl (uxG5 rfl (uxG5 rfl (uxG5 (sinc_ok rfl _) hI.2.2.2.2.2.2.2.2.2.2.2.2.2.2.2.2.2.2.2.1))))))))))
    have k_xG6 : xG6 W := by
      rw [hW]
      exact (uxG6 rfl (uxG6 rfl (uxG6 rfl (uxG6 rfl (uxG6 rfl (uxG6 rfl (uxG6 rfl (uxG6 rfl (uxG6 rfl (uxG6 (sinc_ok rfl _) hI.2.2.2.2.2.2.2.2.2.2.2.2.2.2.2.2.2.2.2.2.1))))))))))
    have k_XC : XC W := by
      rw [hW]
      exact (uXC rfl (uXC rfl (uXC rfl (uXC rfl (uXC rfl (uXC rfl (uXC rfl (uXC rfl (uXC rfl (uXC (sinc_ok rfl _) hI.2.2.2.2.2.2.2.2.2.2.2.2.2.2.2.2.2.2.2.2.2))))))))))
    have kXB : XB W := ⟨k_xN1, k_xN2, k_xN3, k_xN4, k_xN5, k_xN6, k_xH1, k_xK1, k_xC1, k_xRW, k_xWT, k_xCU, k_xG2, k_xG3, k_xG4, k_xG5, k_xG6, k_XC⟩
    exact ⟨base, k2, k3, kXA, kXB⟩
-- w119
def xr_81 : qRu := (3, [[(1, 1)]], [], [(119, [(1, 1)], [(1, 2)])], [(91, 949, []), (91, 930, []), (91, 928, []), (91, 919, []), (91, 909, []), (91, 900, []), (91, 889, []), (91, 888, []), (91, 884, [])], [])
theorem xo_81 : qRok xr_81 := by
  intro ρ M h0 hf hm hI
  have f0 := hf [(1, 1)] (by decide)
  simp only [qD, h0] at f0
  refine ⟨ρ, fun _ _ => rfl, fun f h => ?_, ?_⟩
  · exact nomatch h
  · show sI (sU (sU (sU (sU (sU (sU (sU (sU (sU (sU M 119 (1 * ρ 1 + 0 : Int).toNat (1 * ρ 2 + 0)) 91 949 (0)) 91 930 (0)) 91 928 (0)) 91 919 (0)) 91 909 (0)) 91 900 (0)) 91 889 (0)) 91 888 (0)) 91 884 (0))
    obtain ⟨W, hW⟩ : ∃ W, W = (sU (sU (sU (sU (sU (sU (sU (sU (sU (sU M 119 (1 * ρ 1 + 0).toNat (1 * ρ 2 + 0)) 91 949 (0)) 91 930 (0)) 91 928 (0)) 91 919 (0)) 91 909 (0)) 91 900 (0)) 91 889 (0)) 91 888 (0)) 91 884 (0)) := ⟨_, rfl⟩
    rw [← hW]
    have base : sI0 W := by
      rw [hW]
      exact (si_u0 (si_u0 (si_u0 (si_u0 (si_u0 (si_u0 (si_u0 (si_u0 (si_u0 (si_u0 hI.1 (fun r hr => by cases hr)) (fun r hr => by cases hr)) (fun r hr => by cases hr)) (fun r hr => by cases hr)) (fun r hr => by cases hr)) (fun r hr => by cases hr)) (fun r hr => by cases hr)) (fun r hr => by cases hr)) (fun r hr => by cases hr)) (fun r hr => by cases hr))
    have k2 : XI2 W := by
      rw [hW]
      exact (xi2_u rfl (xi2_u rfl (xi2_u rfl (xi2_u rfl (xi2_u rfl (xi2_u rfl (xi2_u rfl (xi2_u rfl (xi2_u rfl (xi2_u (sinc_ok rfl _) hI.2.1))))))))))
    have k3 : XI3 W := by
      rw [hW]
      exact (xi3_u rfl (xi3_u rfl (xi3_u rfl (xi3_u rfl (xi3_u rfl (xi3_u rfl (xi3_u rfl (xi3_u rfl (xi3_u rfl (xi3_u (sinc_ok rfl _) hI.2.2.1))))))))))
    have kXA : XA W := by
      rw [hW]
      exact (uXA rfl (uXA rfl (uXA rfl (uXA rfl (uXA rfl (uXA rfl (uXA rfl (uXA rfl (uXA rfl (uXA (sinc_ok rfl _) hI.2.2.2.1))))))))))
    have k_xN1 : xN1 W := by
      have r : W 91 949 = 0 := by rw [hW, sU_ne (fun z => by omega), sU_ne (fun z => by omega), sU_ne (fun z => by omega), sU_ne (fun z => by omega), sU_ne (fun z => by omega), sU_ne (fun z => by omega), sU_ne (fun z => by omega), sU_ne (fun z => by omega), sU_at]
      intro h
      rw [r] at h
      omega
    have k_xN2 : xN2 W := by
      have r : W 91 930 = 0 := by rw [hW, sU_ne (fun z => by omega), sU_ne (fun z => by omega), sU_ne (fun z => by omega), sU_ne (fun z => by omega), sU_ne (fun z => by omega), sU_ne (fun z => by omega), sU_ne (fun z => by omega), sU_at]
      intro h
      rw [r] at h
      omega
    have k_xN3 : xN3 W := by
      have r : W 91 928 = 0 := by rw [hW, sU_ne (fun z => by omega), sU_ne (fun z => by omega), sU_ne (fun z => by omega), sU_ne (fun z => by omega), sU_ne (fun z => by omega), sU_ne (fun z => by omega), sU_at]
      intro h
      rw [r] at h
      omega
    have k_xN4 : xN4 W := by
      rw [hW]
      exact (uxN4 rfl (uxN4 rfl (uxN4 rfl (uxN4 rfl (uxN4 rfl (uxN4 rfl (uxN4 rfl (uxN4 rfl (uxN4 rfl (uxN4 (sinc_ok rfl _) hI.2.2.2.2.2.2.2.1))))))))))
    have k_xN5 : xN5 W := by
      rw [hW]
      exact (uxN5 rfl (uxN5 rfl (uxN5 rfl (uxN5 rfl (uxN5 rfl (uxN5 rfl (uxN5 rfl (uxN5 rfl (uxN5 rfl (uxN5 (sinc_ok rfl _) hI.2.2.2.2.2.2.2.2.1))))))))))
    have k_xN6 : xN6 W := by
      rw [hW]
      exact (uxN6 rfl (uxN6 rfl (uxN6 rfl (uxN6 rfl (uxN6 rfl (uxN6 rfl (uxN6 rfl (uxN6 rfl (uxN6 rfl (uxN6 (sinc_ok rfl _) hI.2.2.2.2.2.2.2.2.2.1))))))))))
    have k_xH1 : xH1 W := by
      have r : W 91 919 = 0 := by rw [hW, sU_ne (fun z => by omega), sU_ne (fun z => by omega), sU_ne (fun z => by omega), sU_ne (fun z => by omega), sU_ne (fun z => by omega), sU_at]
      intro h
      rw [r] at h
      omega
    have k_xK1 : xK1 W := by
      have r : W 91 909 = 0 := by rw [hW, sU_ne (fun z => by omega), sU_ne (fun z => by omega), sU_ne (fun z => by omega), sU_ne (fun z => by omega), sU_at]
      intro h
      rw [r] at h
      omega
    have k_xC1 : xC1 W := by
      have r : W 91 900 = 0 := by rw [hW, sU_ne (fun z => by omega), sU_ne (fun z => by omega), sU_ne (fun z => by omega), sU_at]
      intro h
      rw [r] at h
      omega
    have k_xRW : xRW W := by
      have r : W 91 889 = 0 := by rw [hW, sU_ne (fun z => by omega), sU_ne (fun z => by omega), sU_at]
      intro h
      rw [r] at h
      omega
    have k_xWT : xWT W := by
      have r : W 91 888 = 0 := by rw [hW, sU_ne (fun z => by omega), sU_at]
      intro h
      rw [r] at h
      omega
    have k_xCU : xCU W := by
      have r : W 91 884 = 0 := by rw [hW, sU_at]
      intro h
      rw [r] at h
      omega
    have k_xG2 : xG2 W := by
      rw [hW]
      exact (uxG2 rfl (uxG2 rfl (uxG2 rfl (uxG2 rfl (uxG2 rfl (uxG2 rfl (uxG2 rfl (uxG2 rfl (uxG2 rfl (uxG2 (sinc_ok rfl _) hI.2.2.2.2.2.2.2.2.2.2.2.2.2.2.2.2.1))))))))))
    have k_xG3 : xG3 W := by
      rw [hW]
      exact (uxG3 rfl (uxG3 rfl (uxG3 rfl (uxG3 rfl (uxG3 rfl (uxG3 rfl (uxG3 rfl (uxG3 rfl (uxG3 rfl (uxG3 (sinc_ok rfl _) hI.2.2.2.2.2.2.2.2.2.2.2.2.2.2.2.2.2.1))))))))))
    have k_xG4 : xG4 W := by
      rw [hW]
      exact (uxG4 rfl (uxG4 rfl (uxG4 rfl (uxG4 rfl (uxG4 rfl (uxG4 rfl (uxG4 rfl (uxG4 rfl (uxG4 rfl (uxG4 (sinc_ok rfl _) hI.2.2.2.2.2.2.2.2.2.2.2.2.2.2.2.2.2.2.1))))))))))
    have k_xG5 : xG5 W := by
      rw [hW]
      exact (uxG5 rfl (uxG5 rfl (uxG5 rfl (uxG5 rfl (uxG5 rfl (uxG5 rfl (uxG5 rfl (uxG5 rfl (uxG5 rfl (uxG5 (sinc_ok rfl _) hI.2.2.2.2.2.2.2.2.2.2.2.2.2.2.2.2.2.2.2.1))))))))))
    have k_xG6 : xG6 W := by
      rw [hW]
      exact (uxG6 rfl (uxG6 rfl (uxG6 rfl (uxG6 rfl (uxG6 rfl (uxG6 rfl (uxG6 rfl (uxG6 rfl (uxG6 rfl (uxG6 (sinc_ok rfl _) hI.2.2.2.2.2.2.2.2.2.2.2.2.2.2.2.2.2.2.2.2.1))))))))))
    have k_XC : XC W := by
      rw [hW]
      exact (uXC rfl (uXC rfl (uXC rfl (uXC rfl (uXC rfl (uXC rfl (uXC rfl (uXC rfl (uXC rfl (uXC (sinc_ok rfl _) hI.2.2.2.2.2.2.2.2.2.2.2.2.2.2.2.2.2.2.2.2.2))))))))))
    have kXB : XB W := ⟨k_xN1, k_xN2, k_xN3, k_xN4, k_xN5, k_xN6, k_xH1, k_xK1, k_xC1, k_xRW, k_xWT, k_xCU, k_xG2, k_xG3, k_xG4, k_xG5, k_xG6, k_XC⟩
    exact ⟨base, k2, k3, kXA, kXB⟩
-- w122
def xr_82 : qRu := (3, [[(1, 1)]], [], [(122, [(1, 1)], [(1, 2)])], [(91, 949, []), (91, 930, []), (91, 928, []), (91, 919, []), (91, 909, []), (91, 900, []), (91, 889, []), (91, 888, []), (91, 884, [])], [])
theorem xo_82 : qRok xr_82 := by
  intro ρ M h0 hf hm hI
  have f0 := hf [(1, 1)] (by decide)
  simp only [qD, h0] at f0
  refine ⟨ρ, fun _ _ => rfl, fun f h => ?_, ?_⟩
  · exact nomatch h
  · show sI (sU (sU (sU (sU (sU (sU (sU (sU (sU (sU M 122 (1 * ρ 1 + 0 : Int).toNat (1 * ρ 2 + 0)) 91 949 (0)) 91 930 (0)) 91 928 (0)) 91 919 (0)) 91 909 (0)) 91 900 (0)) 91 889 (0)) 91 888 (0)) 91 884 (0))
    obtain ⟨W, hW⟩ : ∃ W, W = (sU (sU (sU (sU (sU (sU (sU (sU (sU (sU M 122 (1 * ρ 1 + 0).toNat (1 * ρ 2 + 0)) 91 949 (0)) 91 930 (0)) 91 928 (0)) 91 919 (0)) 91 909 (0)) 91 900 (0)) 91 889 (0)) 91 888 (0)) 91 884 (0)) := ⟨_, rfl⟩
    rw [← hW]
    have base : sI0 W := by
      rw [hW]
      exact (si_u0 (si_u0 (si_u0 (si_u0 (si_u0 (si_u0 (si_u0 (si_u0 (si_u0 (si_u0 hI.1 (fun r hr => by cases hr)) (fun r hr => by cases hr)) (fun r hr => by cases hr)) (fun r hr => by cases hr)) (fun r hr => by cases hr)) (fun r hr => by cases hr)) (fun r hr => by cases hr)) (fun r hr => by cases hr)) (fun r hr => by cases hr)) (fun r hr => by cases hr))
    have k2 : XI2 W := by
      rw [hW]
      exact (xi2_u rfl (xi2_u rfl (xi2_u rfl (xi2_u rfl (xi2_u rfl (xi2_u rfl (xi2_u rfl (xi2_u rfl (xi2_u rfl (xi2_u (sinc_ok rfl _) hI.2.1))))))))))
    have k3 : XI3 W := by
      rw [hW]
      exact (xi3_u rfl (xi3_u rfl (xi3_u rfl (xi3_u rfl (xi3_u rfl (xi3_u rfl (xi3_u rfl (xi3_u rfl (xi3_u rfl (xi3_u (sinc_ok rfl _) hI.2.2.1))))))))))
    have kXA : XA W := by
      rw [hW]
      exact (uXA rfl (uXA rfl (uXA rfl (uXA rfl (uXA rfl (uXA rfl (uXA rfl (uXA rfl (uXA rfl (uXA (sinc_ok rfl _) hI.2.2.2.1))))))))))
    have k_xN1 : xN1 W := by
      have r : W 91 949 = 0 := by rw [hW, sU_ne (fun z => by omega), sU_ne (fun z => by omega), sU_ne (fun z => by omega), sU_ne (fun z => by omega), sU_ne (fun z => by omega), sU_ne (fun z => by omega), sU_ne (fun z => by omega), sU_ne (fun z => by omega), sU_at]
      intro h
      rw [r] at h
      omega
    have k_xN2 : xN2 W := by
      have r : W 91 930 = 0 := by rw [hW, sU_ne (fun z => by omega), sU_ne (fun z => by omega), sU_ne (fun z => by omega), sU_ne (fun z => by omega), sU_ne (fun z => by omega), sU_ne (fun z => by omega), sU_ne (fun z => by omega), sU_at]
      intro h
      rw [r] at h
      omega
    have k_xN3 : xN3 W := by
      have r : W 91 928 = 0 := by rw [hW, sU_ne (fun z => by omega), sU_ne (fun z => by omega), sU_ne (fun z => by omega), sU_ne (fun z => by omega), sU_ne (fun z => by omega), sU_ne (fun z => by omega), sU_at]
      intro h
      rw [r] at h
      omega
    have k_xN4 : xN4 W := by
      rw [hW]
      exact (uxN4 rfl (uxN4 rfl (uxN4 rfl (uxN4 rfl (uxN4 rfl (uxN4 rfl (uxN4 rfl (uxN4 rfl (uxN4 rfl (uxN4 (sinc_ok rfl _) hI.2.2.2.2.2.2.2.1))))))))))
    have k_xN5 : xN5 W := by
      rw [hW]
      exact (uxN5 rfl (uxN5 rfl (uxN5 rfl (uxN5 rfl (uxN5 rfl (uxN5 rfl (uxN5 rfl (uxN5 rfl (uxN5 rfl (uxN5 (sinc_ok rfl _) hI.2.2.2.2.2.2.2.2.1))))))))))
    have k_xN6 : xN6 W := by
      rw [hW]
      exact (uxN6 rfl (uxN6 rfl (uxN6 rfl (uxN6 rfl (uxN6 rfl (uxN6 rfl (uxN6 rfl (uxN6 rfl (uxN6 rfl (uxN6 (sinc_ok rfl _) hI.2.2.2.2.2.2.2.2.2.1))))))))))
    have k_xH1 : xH1 W := by
      have r : W 91 919 = 0 := by rw [hW, sU_ne (fun z => by omega), sU_ne (fun z => by omega), sU_ne (fun z => by omega), sU_ne (fun z => by omega), sU_ne (fun z => by omega), sU_at]
      intro h
      rw [r] at h
      omega
    have k_xK1 : xK1 W := by
      have r : W 91 909 = 0 := by rw [hW, sU_ne (fun z => by omega), sU_ne (fun z => by omega), sU_ne (fun z => by omega), sU_ne (fun z => by omega), sU_at]
      intro h
      rw [r] at h
      omega
    have k_xC1 : xC1 W := by
      have r : W 91 900 = 0 := by rw [hW, sU_ne (fun z => by omega), sU_ne (fun z => by omega), sU_ne (fun z => by omega), sU_at]
      intro h
      rw [r] at h
      omega
    have k_xRW : xRW W := by
      have r : W 91 889 = 0 := by rw [hW, sU_ne (fun z => by omega), sU_ne (fun z => by omega), sU_at]
      intro h
      rw [r] at h
      omega
    have k_xWT : xWT W := by
      have r : W 91 888 = 0 := by rw [hW, sU_ne (fun z => by omega), sU_at]
      intro h
      rw [r] at h
      omega
    have k_xCU : xCU W := by
      have r : W 91 884 = 0 := by rw [hW, sU_at]
      intro h
      rw [r] at h
      omega
    have k_xG2 : xG2 W := by
      rw [hW]
      exact (uxG2 rfl (uxG2 rfl (uxG2 rfl (uxG2 rfl (uxG2 rfl (uxG2 rfl (uxG2 rfl (uxG2 rfl (uxG2 rfl (uxG2 (sinc_ok rfl _) hI.2.2.2.2.2.2.2.2.2.2.2.2.2.2.2.2.1))))))))))
    have k_xG3 : xG3 W := by
      rw [hW]
      exact (uxG3 rfl (uxG3 rfl (uxG3 rfl (uxG3 rfl (uxG3 rfl (uxG3 rfl (uxG3 rfl (uxG3 rfl (uxG3 rfl (uxG3 (sinc_ok rfl _) hI.2.2.2.2.2.2.2.2.2.2.2.2.2.2.2.2.2.1))))))))))
    have k_xG4 : xG4 W := by
      rw [hW]
      exact (uxG4 rfl (uxG4 rfl (uxG4 rfl (uxG4 rfl (uxG4 rfl (uxG4 rfl (uxG4 rfl (uxG4 rfl (uxG4 rfl (uxG4 (sinc_ok rfl _) hI.2.2.2.2.2.2.2.2.2.2.2.2.2.2.2.2.2.2.1))))))))))
    have k_xG5 : xG5 W := by
      rw [hW]
      exact (uxG5 rfl (uxG5 rfl (uxG5 rfl (uxG5 rfl (uxG5 rfl (uxG5 rfl (uxG5 rfl (uxG5 rfl (uxG5 rfl (uxG5 (sinc_ok rfl _) hI.2.2.2.2.2.2.2.2.2.2.2.2.2.2.2.2.2.2.2.1))))))))))
    have k_xG6 : xG6 W := by
      rw [hW]
      exact (uxG6 rfl (uxG6 rfl (uxG6 rfl (uxG6 rfl (uxG6 rfl (uxG6 rfl (uxG6 rfl (uxG6 rfl (uxG6 rfl (uxG6 (sinc_ok rfl _) hI.2.2.2.2.2.2.2.2.2.2.2.2.2.2.2.2.2.2.2.2.1))))))))))
    have k_XC : XC W := by
      rw [hW]
      exact (uXC rfl (uXC rfl (uXC rfl (uXC rfl (uXC rfl (uXC rfl (uXC rfl (uXC rfl (uXC rfl (uXC (sinc_ok rfl _) hI.2.2.2.2.2.2.2.2.2.2.2.2.2.2.2.2.2.2.2.2.2))))))))))
    have kXB : XB W := ⟨k_xN1, k_xN2, k_xN3, k_xN4, k_xN5, k_xN6, k_xH1, k_xK1, k_xC1, k_xRW, k_xWT, k_xCU, k_xG2, k_xG3, k_xG4, k_xG5, k_xG6, k_XC⟩
    exact ⟨base, k2, k3, kXA, kXB⟩
-- w123
def xr_83 : qRu := (3, [[(1, 1)]], [], [(123, [(1, 1)], [(1, 2)])], [(91, 949, []), (91, 930, []), (91, 928, []), (91, 919, []), (91, 909, []), (91, 900, []), (91, 889, []), (91, 888, []), (91, 884, [])], [])
theorem xo_83 : qRok xr_83 := by
  intro ρ M h0 hf hm hI
  have f0 := hf [(1, 1)] (by decide)
  simp only [qD, h0] at f0
  refine ⟨ρ, fun _ _ => rfl, fun f h => ?_, ?_⟩
  · exact nomatch h
  · show sI (sU (sU (sU (sU (sU (sU (sU (sU (sU (sU M 123 (1 * ρ 1 + 0 : Int).toNat (1 * ρ 2 + 0)) 91 949 (0)) 91 930 (0)) 91 928 (0)) 91 919 (0)) 91 909 (0)) 91 900 (0)) 91 889 (0)) 91 888 (0)) 91 884 (0))
    obtain ⟨W, hW⟩ : ∃ W, W = (sU (sU (sU (sU (sU (sU (sU (sU (sU (sU M 123 (1 * ρ 1 + 0).toNat (1 * ρ 2 + 0)) 91 949 (0)) 91 930 (0)) 91 928 (0)) 91 919 (0)) 91 909 (0)) 91 900 (0)) 91 889 (0)) 91 888 (0)) 91 884 (0)) := ⟨_, rfl⟩
    rw [← hW]
    have base : sI0 W := by
      rw [hW]
      exact (si_u0 (si_u0 (si_u0 (si_u0 (si_u0 (si_u0 (si_u0 (si_u0 (si_u0 (si_u0 hI.1 (fun r hr => by cases hr)) (fun r hr => by cases hr)) (fun r hr => by cases hr)) (fun r hr => by cases hr)) (fun r hr => by cases hr)) (fun r hr => by cases hr)) (fun r hr => by cases hr)) (fun r hr => by cases hr)) (fun r hr => by cases hr)) (fun r hr => by cases hr))
    have k2 : XI2 W := by
      rw [hW]
      exact (xi2_u rfl (xi2_u rfl (xi2_u rfl (xi2_u rfl (xi2_u rfl (xi2_u rfl (xi2_u rfl (xi2_u rfl (xi2_u rfl (xi2_u (sinc_ok rfl _) hI.2.1))))))))))
    have k3 : XI3 W := by
      rw [hW]
      exact (xi3_u rfl (xi3_u rfl (xi3_u rfl (xi3_u rfl (xi3_u rfl (xi3_u rfl (xi3_u rfl (xi3_u rfl (xi3_u rfl (xi3_u (sinc_ok rfl _) hI.2.2.1))))))))))
    have kXA : XA W := by
      rw [hW]
      exact (uXA rfl (uXA rfl (uXA rfl (uXA rfl (uXA rfl (uXA rfl (uXA rfl (uXA rfl (uXA rfl (uXA (sinc_ok rfl _) hI.2.2.2.1))))))))))
    have k_xN1 : xN1 W := by
      have r : W 91 949 = 0 := by rw [hW, sU_ne (fun z => by omega), sU_ne (fun z => by omega), sU_ne (fun z => by omega), sU_ne (fun z => by omega), sU_ne (fun z => by omega), sU_ne (fun z => by omega), sU_ne (fun z => by omega), sU_ne (fun z => by omega), sU_at]
      intro h
      rw [r] at h
      omega
    have k_xN2 : xN2 W := by
      have r : W 91 930 = 0 := by rw [hW, sU_ne (fun z => by omega), sU_ne (fun z => by omega), sU_ne (fun z => by omega), sU_ne (fun z => by omega), sU_ne (fun z => by omega), sU_ne (fun z => by omega), sU_ne (fun z => by omega), sU_at]
      intro h
      rw [r] at h
      omega
    have k_xN3 : xN3 W := by
      have r : W 91 928 = 0 := by rw [hW, sU_ne (fun z => by omega), sU_ne (fun z => by omega), sU_ne (fun z => by omega), sU_ne (fun z => by omega), sU_ne (fun z => by omega), sU_ne (fun z => by omega), sU_at]
      intro h
      rw [r] at h
      omega
    have k_xN4 : xN4 W := by
      rw [hW]
      exact (uxN4 rfl (uxN4 rfl (uxN4 rfl (uxN4 rfl (uxN4 rfl (uxN4 rfl (uxN4 rfl (uxN4 rfl (uxN4 rfl (uxN4 (sinc_ok rfl _) hI.2.2.2.2.2.2.2.1))))))))))
    have k_xN5 : xN5 W := by
      rw [hW]
      exact (uxN5 rfl (uxN5 rfl (uxN5 rfl (uxN5 rfl (uxN5 rfl (uxN5 rfl (uxN5 rfl (uxN5 rfl (uxN5 rfl (uxN5 (sinc_ok rfl _) hI.2.2.2.2.2.2.2.2.1))))))))))
    have k_xN6 : xN6 W := by
      rw [hW]
      exact (uxN6 rfl (uxN6 rfl (uxN6 rfl (uxN6 rfl (uxN6 rfl (uxN6 rfl (uxN6 rfl (uxN6 rfl (uxN6 rfl (uxN6 (sinc_ok rfl _) hI.2.2.2.2.2.2.2.2.2.1))))))))))
    have k_xH1 : xH1 W := by
      have r : W 91 919 = 0 := by rw [hW, sU_ne (fun z => by omega), sU_ne (fun z => by omega), sU_ne (fun z => by omega), sU_ne (fun z => by omega), sU_ne (fun z => by omega), sU_at]
      intro h
      rw [r] at h
      omega
    have k_xK1 : xK1 W := by
      have r : W 91 909 = 0 := by rw [hW, sU_ne (fun z => by omega), sU_ne (fun z => by omega), sU_ne (fun z => by omega), sU_ne (fun z => by omega), sU_at]
      intro h
      rw [r] at h
      omega
    have k_xC1 : xC1 W := by
      have r : W 91 900 = 0 := by rw [hW, sU_ne (fun z => by omega), sU_ne (fun z => by omega), sU_ne (fun z => by omega), sU_at]
      intro h
      rw [r] at h
      omega
    have k_xRW : xRW W := by
      have r : W 91 889 = 0 := by rw [hW, sU_ne (fun z => by omega), sU_ne (fun z => by omega), sU_at]
      intro h
      rw [r] at h
      omega
    have k_xWT : xWT W := by
      have r : W 91 888 = 0 := by rw [hW, sU_ne (fun z => by omega), sU_at]
      intro h
      rw [r] at h
      omega
    have k_xCU : xCU W := by
      have r : W 91 884 = 0 := by rw [hW, sU_at]
      intro h
      rw [r] at h
      omega
    have k_xG2 : xG2 W := by
      rw [hW]
      exact (uxG2 rfl (uxG2 rfl (uxG2 rfl (uxG2 rfl (uxG2 rfl (uxG2 rfl (uxG2 rfl (uxG2 rfl (uxG2 rfl (uxG2 (sinc_ok rfl _) hI.2.2.2.2.2.2.2.2.2.2.2.2.2.2.2.2.1))))))))))
    have k_xG3 : xG3 W := by
      rw [hW]
      exact (uxG3 rfl (uxG3 rfl (uxG3 rfl (uxG3 rfl (uxG3 rfl (uxG3 rfl (uxG3 rfl (uxG3 rfl (uxG3 rfl (uxG3 (sinc_ok rfl _) hI.2.2.2.2.2.2.2.2.2.2.2.2.2.2.2.2.2.1))))))))))
    have k_xG4 : xG4 W := by
      rw [hW]
      exact (uxG4 rfl (uxG4 rfl (uxG4 rfl (uxG4 rfl (uxG4 rfl (uxG4 rfl (uxG4 rfl (uxG4 rfl (uxG4 rfl (uxG4 (sinc_ok rfl _) hI.2.2.2.2.2.2.2.2.2.2.2.2.2.2.2.2.2.2.1))))))))))
    have k_xG5 : xG5 W := by
      rw [hW]
      exact (uxG5 rfl (uxG5 rfl (uxG5 rfl (uxG5 rfl (uxG5 rfl (uxG5 rfl (uxG5 rfl (uxG5 rfl (uxG5 rfl (uxG5 (sinc_ok rfl _) hI.2.2.2.2.2.2.2.2.2.2.2.2.2.2.2.2.2.2.2.1))))))))))
    have k_xG6 : xG6 W := by
      rw [hW]
      exact (uxG6 rfl (uxG6 rfl (uxG6 rfl (uxG6 rfl (uxG6 rfl (uxG6 rfl (uxG6 rfl (uxG6 rfl (uxG6 rfl (uxG6 (sinc_ok rfl _) hI.2.2.2.2.2.2.2.2.2.2.2.2.2.2.2.2.2.2.2.2.1))))))))))
    have k_XC : XC W := by
      rw [hW]
      exact (uXC rfl (uXC rfl (uXC rfl (uXC rfl (uXC rfl (uXC rfl (uXC rfl (uXC rfl (uXC rfl (uXC (sinc_ok rfl _) hI.2.2.2.2.2.2.2.2.2.2.2.2.2.2.2.2.2.2.2.2.2))))))))))
    have kXB : XB W := ⟨k_xN1, k_xN2, k_xN3, k_xN4, k_xN5, k_xN6, k_xH1, k_xK1, k_xC1, k_xRW, k_xWT, k_xCU, k_xG2, k_xG3, k_xG4, k_xG5, k_xG6, k_XC⟩
    exact ⟨base, k2, k3, kXA, kXB⟩
-- n1
def xr_84 : qRu := (2, [[(1, 1)], [(6, 0), (-1, 1)]], [], [(93, [(1, 0)], [(1, 1)])], [(91, 949, []), (91, 930, []), (91, 928, []), (91, 919, []), (91, 909, []), (91, 900, []), (91, 889, []), (91, 888, []), (91, 884, [])], [])
theorem xo_84 : qRok xr_84 := by
  intro ρ M h0 hf hm hI
  have f0 := hf [(1, 1)] (by decide)
  have f1 := hf [(6, 0), (-1, 1)] (by decide)
  simp only [qD, h0] at f0 f1
  refine ⟨ρ, fun _ _ => rfl, fun f h => ?_, ?_⟩
  · exact nomatch h
  · show sI (sU (sU (sU (sU (sU (sU (sU (sU (sU (sU M 93 (1 * ρ 0 + 0 : Int).toNat (1 * ρ 1 + 0)) 91 949 (0)) 91 930 (0)) 91 928 (0)) 91 919 (0)) 91 909 (0)) 91 900 (0)) 91 889 (0)) 91 888 (0)) 91 884 (0))
    rw [show (1 * ρ 0 + 0 : Int).toNat = 1 by (try rw [h0]); rfl]
    obtain ⟨W, hW⟩ : ∃ W, W = (sU (sU (sU (sU (sU (sU (sU (sU (sU (sU M 93 1 (1 * ρ 1 + 0)) 91 949 (0)) 91 930 (0)) 91 928 (0)) 91 919 (0)) 91 909 (0)) 91 900 (0)) 91 889 (0)) 91 888 (0)) 91 884 (0)) := ⟨_, rfl⟩
    rw [← hW]
    have base : sI0 W := by
      rw [hW]
      exact (si_u0 (si_u0 (si_u0 (si_u0 (si_u0 (si_u0 (si_u0 (si_u0 (si_u0 (si_u0 hI.1 (fun r hr => by have hr : some ((0 : Int), (6 : Int)) = some r := hr; cases hr; exact ⟨by show (0 : Int) ≤ _; (try rw [h0]); omega, by show _ ≤ (6 : Int); (try rw [h0]); omega⟩)) (fun r hr => by cases hr)) (fun r hr => by cases hr)) (fun r hr => by cases hr)) (fun r hr => by cases hr)) (fun r hr => by cases hr)) (fun r hr => by cases hr)) (fun r hr => by cases hr)) (fun r hr => by cases hr)) (fun r hr => by cases hr))
    have k2 : XI2 W := by
      rw [hW]
      exact (xi2_u rfl (xi2_u rfl (xi2_u rfl (xi2_u rfl (xi2_u rfl (xi2_u rfl (xi2_u rfl (xi2_u rfl (xi2_u rfl (xi2_u rfl hI.2.1))))))))))
    have k3 : XI3 W := by
      rw [hW]
      exact (xi3_u rfl (xi3_u rfl (xi3_u rfl (xi3_u rfl (xi3_u rfl (xi3_u rfl (xi3_u rfl (xi3_u rfl (xi3_u rfl (xi3_u rfl hI.2.2.1))))))))))
    have kXA : XA W := by
      rw [hW]
      exact (uXA rfl (uXA rfl (uXA rfl (uXA rfl (uXA rfl (uXA rfl (uXA rfl (uXA rfl (uXA rfl (uXA rfl hI.2.2.2.1))))))))))
    have k_xN1 : xN1 W := by
      have r : W 91 949 = 0 := by rw [hW, sU_ne (fun z => by omega), sU_ne (fun z => by omega), sU_ne (fun z => by omega), sU_ne (fun z => by omega), sU_ne (fun z => by omega), sU_ne (fun z => by omega), sU_ne (fun z => by omega), sU_ne (fun z => by omega), sU_at]
      intro h
      rw [r] at h
      omega
    have k_xN2 : xN2 W := by
      have r : W 91 930 = 0 := by rw [hW, sU_ne (fun z => by omega), sU_ne (fun z => by omega), sU_ne (fun z => by omega), sU_ne (fun z => by omega), sU_ne (fun z => by omega), sU_ne (fun z => by omega), sU_ne (fun z => by omega), sU_at]
      intro h
      rw [r] at h
      omega
    have k_xN3 : xN3 W := by
      have r : W 91 928 = 0 := by rw [hW, sU_ne (fun z => by omega), sU_ne (fun z => by omega), sU_ne (fun z => by omega), sU_ne (fun z => by omega), sU_ne (fun z => by omega), sU_ne (fun z => by omega), sU_at]
      intro h
      rw [r] at h
      omega
    have k_xN4 : xN4 W := by
      rw [hW]
      exact (uxN4 rfl (uxN4 rfl (uxN4 rfl (uxN4 rfl (uxN4 rfl (uxN4 rfl (uxN4 rfl (uxN4 rfl (uxN4 rfl (uxN4 rfl hI.2.2.2.2.2.2.2.1))))))))))
    have k_xN5 : xN5 W := by
      rw [hW]
      exact (uxN5 rfl (uxN5 rfl (uxN5 rfl (uxN5 rfl (uxN5 rfl (uxN5 rfl (uxN5 rfl (uxN5 rfl (uxN5 rfl (uxN5 rfl hI.2.2.2.2.2.2.2.2.1))))))))))
    have k_xN6 : xN6 W := by
      rw [hW]
      exact (uxN6 rfl (uxN6 rfl (uxN6 rfl (uxN6 rfl (uxN6 rfl (uxN6 rfl (uxN6 rfl (uxN6 rfl (uxN6 rfl (uxN6 rfl hI.2.2.2.2.2.2.2.2.2.1))))))))))
    have k_xH1 : xH1 W := by
      have r : W 91 919 = 0 := by rw [hW, sU_ne (fun z => by omega), sU_ne (fun z => by omega), sU_ne (fun z => by omega), sU_ne (fun z => by omega), sU_ne (fun z => by omega), sU_at]
      intro h
      rw [r] at h
      omega
    have k_xK1 : xK1 W := by
      have r : W 91 909 = 0 := by rw [hW, sU_ne (fun z => by omega), sU_ne (fun z => by omega), sU_ne (fun z => by omega), sU_ne (fun z => by omega), sU_at]
      intro h
      rw [r] at h
      omega
    have k_xC1 : xC1 W := by
      have r : W 91 900 = 0 := by rw [hW, sU_ne (fun z => by omega), sU_ne (fun z => by omega), sU_ne (fun z => by omega), sU_at]
      intro h
      rw [r] at h
      omega
    have k_xRW : xRW W := by
      have r : W 91 889 = 0 := by rw [hW, sU_ne (fun z => by omega), sU_ne (fun z => by omega), sU_at]
      intro h
      rw [r] at h
      omega
    have k_xWT : xWT W := by
      have r : W 91 888 = 0 := by rw [hW, sU_ne (fun z => by omega), sU_at]
      intro h
      rw [r] at h
      omega
    have k_xCU : xCU W := by
      have r : W 91 884 = 0 := by rw [hW, sU_at]
      intro h
      rw [r] at h
      omega
    have k_xG2 : xG2 W := by
      rw [hW]
      exact (uxG2 rfl (uxG2 rfl (uxG2 rfl (uxG2 rfl (uxG2 rfl (uxG2 rfl (uxG2 rfl (uxG2 rfl (uxG2 rfl (uxG2 rfl hI.2.2.2.2.2.2.2.2.2.2.2.2.2.2.2.2.1))))))))))
    have k_xG3 : xG3 W := by
      rw [hW]
      exact (uxG3 rfl (uxG3 rfl (uxG3 rfl (uxG3 rfl (uxG3 rfl (uxG3 rfl (uxG3 rfl (uxG3 rfl (uxG3 rfl (uxG3 rfl hI.2.2.2.2.2.2.2.2.2.2.2.2.2.2.2.2.2.1))))))))))
    have k_xG4 : xG4 W := by
      rw [hW]
      exact (uxG4 rfl (uxG4 rfl (uxG4 rfl (uxG4 rfl (uxG4 rfl (uxG4 rfl (uxG4 rfl (uxG4 rfl (uxG4 rfl (uxG4 rfl hI.2.2.2.2.2.2.2.2.2.2.2.2.2.2.2.2.2.2.1))))))))))
    have k_xG5 : xG5 W := by
      rw [hW]
      exact (uxG5 rfl (uxG5 rfl (uxG5 rfl (uxG5 rfl (uxG5 rfl (uxG5 rfl (uxG5 rfl (uxG5 rfl (uxG5 rfl (uxG5 rfl hI.2.2.2.2.2.2.2.2.2.2.2.2.2.2.2.2.2.2.2.1))))))))))
    have k_xG6 : xG6 W := by
      rw [hW]
      exact (uxG6 rfl (uxG6 rfl (uxG6 rfl (uxG6 rfl (uxG6 rfl (uxG6 rfl (uxG6 rfl (uxG6 rfl (uxG6 rfl (uxG6 rfl hI.2.2.2.2.2.2.2.2.2.2.2.2.2.2.2.2.2.2.2.2.1))))))))))
    have k_XC : XC W := by
      rw [hW]
      exact (uXC rfl (uXC rfl (uXC rfl (uXC rfl (uXC rfl (uXC rfl (uXC rfl (uXC rfl (uXC rfl (uXC rfl hI.2.2.2.2.2.2.2.2.2.2.2.2.2.2.2.2.2.2.2.2.2))))))))))
    have kXB : XB W := ⟨k_xN1, k_xN2, k_xN3, k_xN4, k_xN5, k_xN6, k_xH1, k_xK1, k_xC1, k_xRW, k_xWT, k_xCU, k_xG2, k_xG3, k_xG4, k_xG5, k_xG6, k_XC⟩
    exact ⟨base, k2, k3, kXA, kXB⟩
-- n2
def xr_85 : qRu := (2, [[(1, 1)], [(3, 0), (-1, 1)]], [], [(93, [(2, 0)], [(1, 1)])], [(91, 949, []), (91, 930, []), (91, 928, []), (91, 919, []), (91, 909, []), (91, 900, []), (91, 889, []), (91, 888, []), (91, 884, [])], [])
theorem xo_85 : qRok xr_85 := by
  intro ρ M h0 hf hm hI
  have f0 := hf [(1, 1)] (by decide)
  have f1 := hf [(3, 0), (-1, 1)] (by decide)
  simp only [qD, h0] at f0 f1
  refine ⟨ρ, fun _ _ => rfl, fun f h => ?_, ?_⟩
  · exact nomatch h
  · show sI (sU (sU (sU (sU (sU (sU (sU (sU (sU (sU M 93 (2 * ρ 0 + 0 : Int).toNat (1 * ρ 1 + 0)) 91 949 (0)) 91 930 (0)) 91 928 (0)) 91 919 (0)) 91 909 (0)) 91 900 (0)) 91 889 (0)) 91 888 (0)) 91 884 (0))
    rw [show (2 * ρ 0 + 0 : Int).toNat = 2 by (try rw [h0]); rfl]
    obtain ⟨W, hW⟩ : ∃ W, W = (sU (sU (sU (sU (sU (sU (sU (sU (sU (sU M 93 2 (1 * ρ 1 + 0)) 91 949 (0)) 91 930 (0)) 91 928 (0)) 91 919 (0)) 91 909 (0)) 91 900 (0)) 91 889 (0)) 91 888 (0)) 91 884 (0)) := ⟨_, rfl⟩
    rw [← hW]
    have base : sI0 W := by
      rw [hW]
      exact (si_u0 (si_u0 (si_u0 (si_u0 (si_u0 (si_u0 (si_u0 (si_u0 (si_u0 (si_u0 hI.1 (fun r hr => by have hr : some ((0 : Int), (3 : Int)) = some r := hr; cases hr; exact ⟨by show (0 : Int) ≤ _; (try rw [h0]); omega, by show _ ≤ (3 : Int); (try rw [h0]); omega⟩)) (fun r hr => by cases hr)) (fun r hr => by cases hr)) (fun r hr => by cases hr)) (fun r hr => by cases hr)) (fun r hr => by cases hr)) (fun r hr => by cases hr)) (fun r hr => by cases hr)) (fun r hr => by cases hr)) (fun r hr => by cases hr))
    have k2 : XI2 W := by
      rw [hW]
      exact (xi2_u rfl (xi2_u rfl (xi2_u rfl (xi2_u rfl (xi2_u rfl (xi2_u rfl (xi2_u rfl (xi2_u rfl (xi2_u rfl (xi2_u rfl hI.2.1))))))))))
    have k3 : XI3 W := by
      rw [hW]
      exact (xi3_u rfl (xi3_u rfl (xi3_u rfl (xi3_u rfl (xi3_u rfl (xi3_u rfl (xi3_u rfl (xi3_u rfl (xi3_u rfl (xi3_u rfl hI.2.2.1))))))))))
    have kXA : XA W := by
      rw [hW]
      exact (uXA rfl (uXA rfl (uXA rfl (uXA rfl (uXA rfl (uXA rfl (uXA rfl (uXA rfl (uXA rfl (uXA rfl hI.2.2.2.1))))))))))
    have k_xN1 : xN1 W := by
      have r : W 91 949 = 0 := by rw [hW, sU_ne (fun z => by omega), sU_ne (fun z => by omega), sU_ne (fun z => by omega), sU_ne (fun z => by omega), sU_ne (fun z => by omega), sU_ne (fun z => by omega), sU_ne (fun z => by omega), sU_ne (fun z => by omega), sU_at]
      intro h
      rw [r] at h
      omega
    have k_xN2 : xN2 W := by
      have r : W 91 930 = 0 := by rw [hW, sU_ne (fun z => by omega), sU_ne (fun z => by omega), sU_ne (fun z => by omega), sU_ne (fun z => by omega), sU_ne (fun z => by omega), sU_ne (fun z => by omega), sU_ne (fun z => by omega), sU_at]
      intro h
      rw [r] at h
      omega
    have k_xN3 : xN3 W := by
      have r : W 91 928 = 0 := by rw [hW, sU_ne (fun z => by omega), sU_ne (fun z => by omega), sU_ne (fun z => by omega), sU_ne (fun z => by omega), sU_ne (fun z => by omega), sU_ne (fun z => by omega), sU_at]
      intro h
      rw [r] at h
      omega
    have k_xN4 : xN4 W := by
      rw [hW]
      exact (uxN4 rfl (uxN4 rfl (uxN4 rfl (uxN4 rfl (uxN4 rfl (uxN4 rfl (uxN4 rfl (uxN4 rfl (uxN4 rfl (uxN4 rfl hI.2.2.2.2.2.2.2.1))))))))))
    have k_xN5 : xN5 W := by
      rw [hW]
      exact (uxN5 rfl (uxN5 rfl (uxN5 rfl (uxN5 rfl (uxN5 rfl (uxN5 rfl (uxN5 rfl (uxN5 rfl (uxN5 rfl (uxN5 rfl hI.2.2.2.2.2.2.2.2.1))))))))))
    have k_xN6 : xN6 W := by
      rw [hW]
      exact (uxN6 rfl (uxN6 rfl (uxN6 rfl (uxN6 rfl (uxN6 rfl (uxN6 rfl (uxN6 rfl (uxN6 rfl (uxN6 rfl (uxN6 rfl hI.2.2.2.2.2.2.2.2.2.1))))))))))
    have k_xH1 : xH1 W := by
      have r : W 91 919 = 0 := by rw [hW, sU_ne (fun z => by omega), sU_ne (fun z => by omega), sU_ne (fun z => by omega), sU_ne (fun z => by omega), sU_ne (fun z => by omega), sU_at]
      intro h
      rw [r] at h
      omega
    have k_xK1 : xK1 W := by
      have r : W 91 909 = 0 := by rw [hW, sU_ne (fun z => by omega), sU_ne (fun z => by omega), sU_ne (fun z => by omega), sU_ne (fun z => by omega), sU_at]
      intro h
      rw [r] at h
      omega
    have k_xC1 : xC1 W := by
      have r : W 91 900 = 0 := by rw [hW, sU_ne (fun z => by omega), sU_ne (fun z => by omega), sU_ne (fun z => by omega), sU_at]
      intro h
      rw [r] at h
      omega
    have k_xRW : xRW W := by
      have r : W 91 889 = 0 := by rw [hW, sU_ne (fun z => by omega), sU_ne (fun z => by omega), sU_at]
      intro h
      rw [r] at h
      omega
    have k_xWT : xWT W := by
      have r : W 91 888 = 0 := by rw [hW, sU_ne (fun z => by omega), sU_at]
      intro h
      rw [r] at h
      omega
    have k_xCU : xCU W := by
      have r : W 91 884 = 0 := by rw [hW, sU_at]
      intro h
      rw [r] at h
      omega
    have k_xG2 : xG2 W := by
      rw [hW]
      exact (uxG2 rfl (uxG2 rfl (uxG2 rfl (uxG2 rfl (uxG2 rfl (uxG2 rfl (uxG2 rfl (uxG2 rfl (uxG2 rfl (uxG2 rfl hI.2.2.2.2.2.2.2.2.2.2.2.2.2.2.2.2.1))))))))))
    have k_xG3 : xG3 W := by
      rw [hW]
      exact (uxG3 rfl (uxG3 rfl (uxG3 rfl (uxG3 rfl (uxG3 rfl (uxG3 rfl (uxG3 rfl (uxG3 rfl (uxG3 rfl (uxG3 rfl hI.2.2.2.2.2.2.2.2.2.2.2.2.2.2.2.2.2.1))))))))))
    have k_xG4 : xG4 W := by
      rw [hW]
      exact (uxG4 rfl (uxG4 rfl (uxG4 rfl (uxG4 rfl (uxG4 rfl (uxG4 rfl (uxG4 rfl (uxG4 rfl (uxG4 rfl (uxG4 rfl hI.2.2.2.2.2.2.2.2.2.2.2.2.2.2.2.2.2.2.1))))))))))
    have k_xG5 : xG5 W := by
      rw [hW]
      exact (uxG5 rfl (uxG5 rfl (uxG5 rfl (uxG5 rfl (uxG5 rfl (uxG5 rfl (uxG5 rfl (uxG5 rfl (uxG5 rfl (uxG5 rfl hI.2.2.2.2.2.2.2.2.2.2.2.2.2.2.2.2.2.2.2.1))))))))))
    have k_xG6 : xG6 W := by
      rw [hW]
      exact (uxG6 rfl (uxG6 rfl (uxG6 rfl (uxG6 rfl (uxG6 rfl (uxG6 rfl (uxG6 rfl (uxG6 rfl (uxG6 rfl (uxG6 rfl hI.2.2.2.2.2.2.2.2.2.2.2.2.2.2.2.2.2.2.2.2.1))))))))))
    have k_XC : XC W := by
      rw [hW]
      exact (uXC rfl (uXC rfl (uXC rfl (uXC rfl (uXC rfl (uXC rfl (uXC rfl (uXC rfl (uXC rfl (uXC rfl hI.2.2.2.2.2.2.2.2.2.2.2.2.2.2.2.2.2.2.2.2.2))))))))))
    have kXB : XB W := ⟨k_xN1, k_xN2, k_xN3, k_xN4, k_xN5, k_xN6, k_xH1, k_xK1, k_xC1, k_xRW, k_xWT, k_xCU, k_xG2, k_xG3, k_xG4, k_xG5, k_xG6, k_XC⟩
    exact ⟨base, k2, k3, kXA, kXB⟩
-- n4
def xr_86 : qRu := (2, [], [], [(93, [(4, 0)], [(1, 1)])], [(91, 949, []), (91, 930, []), (91, 928, []), (91, 919, []), (91, 909, []), (91, 900, []), (91, 889, []), (91, 888, []), (91, 884, [])], [])
theorem xo_86 : qRok xr_86 := by
  intro ρ M h0 hf hm hI
  refine ⟨ρ, fun _ _ => rfl, fun f h => ?_, ?_⟩
  · exact nomatch h
  · show sI (sU (sU (sU (sU (sU (sU (sU (sU (sU (sU M 93 (4 * ρ 0 + 0 : Int).toNat (1 * ρ 1 + 0)) 91 949 (0)) 91 930 (0)) 91 928 (0)) 91 919 (0)) 91 909 (0)) 91 900 (0)) 91 889 (0)) 91 888 (0)) 91 884 (0))
    rw [show (4 * ρ 0 + 0 : Int).toNat = 4 by (try rw [h0]); rfl]
    obtain ⟨W, hW⟩ : ∃ W, W = (sU (sU (sU (sU (sU (sU (sU (sU (sU (sU M 93 4 (1 * ρ 1 + 0)) 91 949 (0)) 91 930 (0)) 91 928 (0)) 91 919 (0)) 91 909 (0)) 91 900 (0)) 91 889 (0)) 91 888 (0)) 91 884 (0)) := ⟨_, rfl⟩
    rw [← hW]
    have base : sI0 W := by
      rw [hW]
      exact (si_u0 (si_u0 (si_u0 (si_u0 (si_u0 (si_u0 (si_u0 (si_u0 (si_u0 (si_u0 hI.1 (fun r hr => by cases hr)) (fun r hr => by cases hr)) (fun r hr => by cases hr)) (fun r hr => by cases hr)) (fun r hr => by cases hr)) (fun r hr => by cases hr)) (fun r hr => by cases hr)) (fun r hr => by cases hr)) (fun r hr => by cases hr)) (fun r hr => by cases hr))
    have k2 : XI2 W := by
      rw [hW]
      exact (xi2_u rfl (xi2_u rfl (xi2_u rfl (xi2_u rfl (xi2_u rfl (xi2_u rfl (xi2_u rfl (xi2_u rfl (xi2_u rfl (xi2_u rfl hI.2.1))))))))))
    have k3 : XI3 W := by
      rw [hW]
      exact (xi3_u rfl (xi3_u rfl (xi3_u rfl (xi3_u rfl (xi3_u rfl (xi3_u rfl (xi3_u rfl (xi3_u rfl (xi3_u rfl (xi3_u rfl hI.2.2.1))))))))))
    have kXA : XA W := by
      rw [hW]
      exact (uXA rfl (uXA rfl (uXA rfl (uXA rfl (uXA rfl (uXA rfl (uXA rfl (uXA rfl (uXA rfl (uXA rfl hI.2.2.2.1))))))))))
    have k_xN1 : xN1 W := by
      have r : W 91 949 = 0 := by rw [hW, sU_ne (fun z => by omega), sU_ne (fun z => by omega), sU_ne (fun z => by omega), sU_ne (fun z => by omega), sU_ne (fun z => by omega), sU_ne (fun z => by omega), sU_ne (fun z => by omega), sU_ne (fun z => by omega), sU_at]
      intro h
      rw [r] at h
      omega
    have k_xN2 : xN2 W := by
      have r : W 91 930 = 0 := by rw [hW, sU_ne (fun z => by omega), sU_ne (fun z => by omega), sU_ne (fun z => by omega), sU_ne (fun z => by omega), sU_ne (fun z => by omega), sU_ne (fun z => by omega), sU_ne (fun z => by omega), sU_at]
      intro h
      rw [r] at h
      omega
    have k_xN3 : xN3 W := by
      have r : W 91 928 = 0 := by rw [hW, sU_ne (fun z => by omega), sU_ne (fun z => by omega), sU_ne (fun z => by omega), sU_ne (fun z => by omega), sU_ne (fun z => by omega), sU_ne (fun z => by omega), sU_at]
      intro h
      rw [r] at h
      omega
    have k_xN4 : xN4 W := by
      rw [hW]
      exact (uxN4 rfl (uxN4 rfl (uxN4 rfl (uxN4 rfl (uxN4 rfl (uxN4 rfl (uxN4 rfl (uxN4 rfl (uxN4 rfl (uxN4 rfl hI.2.2.2.2.2.2.2.1))))))))))
    have k_xN5 : xN5 W := by
      rw [hW]
      exact (uxN5 rfl (uxN5 rfl (uxN5 rfl (uxN5 rfl (uxN5 rfl (uxN5 rfl (uxN5 rfl (uxN5 rfl (uxN5 rfl (uxN5 rfl hI.2.2.2.2.2.2.2.2.1))))))))))
    have k_xN6 : xN6 W := by
      rw [hW]
      exact (uxN6 rfl (uxN6 rfl (uxN6 rfl (uxN6 rfl (uxN6 rfl (uxN6 rfl (uxN6 rfl (uxN6 rfl (uxN6 rfl (uxN6 rfl hI.2.2.2.2.2.2.2.2.2.1))))))))))
    have k_xH1 : xH1 W := by
      have r : W 91 919 = 0 := by rw [hW, sU_ne (fun z => by omega), sU_ne (fun z => by omega), sU_ne (fun z => by omega), sU_ne (fun z => by omega), sU_ne (fun z => by omega), sU_at]
      intro h
      rw [r] at h
      omega
    have k_xK1 : xK1 W := by
      have r : W 91 909 = 0 := by rw [hW, sU_ne (fun z => by omega), sU_ne (fun z => by omega), sU_ne (fun z => by omega), sU_ne (fun z => by omega), sU_at]
      intro h
      rw [r] at h
      omega
    have k_xC1 : xC1 W := by
      have r : W 91 900 = 0 := by rw [hW, sU_ne (fun z => by omega), sU_ne (fun z => by omega), sU_ne (fun z => by omega), sU_at]
      intro h
      rw [r] at h
      omega
    have k_xRW : xRW W := by
      have r : W 91 889 = 0 := by rw [hW, sU_ne (fun z => by omega), sU_ne (fun z => by omega), sU_at]
      intro h
      rw [r] at h
      omega
    have k_xWT : xWT W := by
      have r : W 91 888 = 0 := by rw [hW, sU_ne (fun z => by omega), sU_at]
      intro h
      rw [r] at h
      omega
    have k_xCU : xCU W := by
      have r : W 91 884 = 0 := by rw [hW, sU_at]
      intro h
      rw [r] at h
      omega
    have k_xG2 : xG2 W := by
      rw [hW]
      exact (uxG2 rfl (uxG2 rfl (uxG2 rfl (uxG2 rfl (uxG2 rfl (uxG2 rfl (uxG2 rfl (uxG2 rfl (uxG2 rfl (uxG2 rfl hI.2.2.2.2.2.2.2.2.2.2.2.2.2.2.2.2.1))))))))))
    have k_xG3 : xG3 W := by
      rw [hW]
      exact (uxG3 rfl (uxG3 rfl (uxG3 rfl (uxG3 rfl (uxG3 rfl (uxG3 rfl (uxG3 rfl (uxG3 rfl (uxG3 rfl (uxG3 rfl hI.2.2.2.2.2.2.2.2.2.2.2.2.2.2.2.2.2.1))))))))))
    have k_xG4 : xG4 W := by
      rw [hW]
      exact (uxG4 rfl (uxG4 rfl (uxG4 rfl (uxG4 rfl (uxG4 rfl (uxG4 rfl (uxG4 rfl (uxG4 rfl (uxG4 rfl (uxG4 rfl hI.2.2.2.2.2.2.2.2.2.2.2.2.2.2.2.2.2.2.1))))))))))
    have k_xG5 : xG5 W := by
      rw [hW]
      exact (uxG5 rfl (uxG5 rfl (uxG5 rfl (uxG5 rfl (uxG5 rfl (uxG5 rfl (uxG5 rfl (uxG5 rfl (uxG5 rfl (uxG5 rfl hI.2.2.2.2.2.2.2.2.2.2.2.2.2.2.2.2.2.2.2.1))))))))))
    have k_xG6 : xG6 W := by
      rw [hW]
      exact (uxG6 rfl (uxG6 rfl (uxG6 rfl (uxG6 rfl (uxG6 rfl (uxG6 rfl (uxG6 rfl (uxG6 rfl (uxG6 rfl (uxG6 rfl hI.2.2.2.2.2.2.2.2.2.2.2.2.2.2.2.2.2.2.2.2.1))))))))))
    have k_XC : XC W := by
      rw [hW]
      exact (uXC rfl (uXC rfl (uXC rfl (uXC rfl (uXC rfl (uXC rfl (uXC rfl (uXC rfl (uXC rfl (uXC rfl hI.2.2.2.2.2.2.2.2.2.2.2.2.2.2.2.2.2.2.2.2.2))))))))))
    have kXB : XB W := ⟨k_xN1, k_xN2, k_xN3, k_xN4, k_xN5, k_xN6, k_xH1, k_xK1, k_xC1, k_xRW, k_xWT, k_xCU, k_xG2, k_xG3, k_xG4, k_xG5, k_xG6, k_XC⟩
    exact ⟨base, k2, k3, kXA, kXB⟩
-- n6
def xr_87 : qRu := (2, [], [], [(93, [(6, 0)], [(1, 1)])], [(91, 949, []), (91, 930, []), (91, 928, []), (91, 919, []), (91, 909, []), (91, 900, []), (91, 889, []), (91, 888, []), (91, 884, [])], [])
theorem xo_87 : qRok xr_87 := by
  intro ρ M h0 hf hm hI
  refine ⟨ρ, fun _ _ => rfl, fun f h => ?_, ?_⟩
  · exact nomatch h
  · show sI (sU (sU (sU (sU (sU (sU (sU (sU (sU (sU M 93 (6 * ρ 0 + 0 : Int).toNat (1 * ρ 1 + 0)) 91 949 (0)) 91 930 (0)) 91 928 (0)) 91 919 (0)) 91 909 (0)) 91 900 (0)) 91 889 (0)) 91 888 (0)) 91 884 (0))
    rw [show (6 * ρ 0 + 0 : Int).toNat = 6 by (try rw [h0]); rfl]
    obtain ⟨W, hW⟩ : ∃ W, W = (sU (sU (sU (sU (sU (sU (sU (sU (sU (sU M 93 6 (1 * ρ 1 + 0)) 91 949 (0)) 91 930 (0)) 91 928 (0)) 91 919 (0)) 91 909 (0)) 91 900 (0)) 91 889 (0)) 91 888 (0)) 91 884 (0)) := ⟨_, rfl⟩
    rw [← hW]
    have base : sI0 W := by
      rw [hW]
      exact (si_u0 (si_u0 (si_u0 (si_u0 (si_u0 (si_u0 (si_u0 (si_u0 (si_u0 (si_u0 hI.1 (fun r hr => by cases hr)) (fun r hr => by cases hr)) (fun r hr => by cases hr)) (fun r hr => by cases hr)) (fun r hr => by cases hr)) (fun r hr => by cases hr)) (fun r hr => by cases hr)) (fun r hr => by cases hr)) (fun r hr => by cases hr)) (fun r hr => by cases hr))
    have k2 : XI2 W := by
      rw [hW]
      exact (xi2_u rfl (xi2_u rfl (xi2_u rfl (xi2_u rfl (xi2_u rfl (xi2_u rfl (xi2_u rfl (xi2_u rfl (xi2_u rfl (xi2_u rfl hI.2.1))))))))))
    have k3 : XI3 W := by
      rw [hW]
      exact (xi3_u rfl (xi3_u rfl (xi3_u rfl (xi3_u rfl (xi3_u rfl (xi3_u rfl (xi3_u rfl (xi3_u rfl (xi3_u rfl (xi3_u rfl hI.2.2.1))))))))))
    have kXA : XA W := by
      rw [hW]
      exact (uXA rfl (uXA rfl (uXA rfl (uXA rfl (uXA rfl (uXA rfl (uXA rfl (uXA rfl (uXA rfl (uXA rfl hI.2.2.2.1))))))))))
    have k_xN1 : xN1 W := by
      have r : W 91 949 = 0 := by rw [hW, sU_ne (fun z => by omega), sU_ne (fun z => by omega), sU_ne (fun z => by omega), sU_ne (fun z => by omega), sU_ne (fun z => by omega), sU_ne (fun z => by omega), sU_ne (fun z => by omega), sU_ne (fun z => by omega), sU_at]
      intro h
      rw [r] at h
      omega
    have k_xN2 : xN2 W := by
      have r : W 91 930 = 0 := by rw [hW, sU_ne (fun z => by omega), sU_ne (fun z => by omega), sU_ne (fun z => by omega), sU_ne (fun z => by omega), sU_ne (fun z => by omega), sU_ne (fun z => by omega), sU_ne (fun z => by omega), sU_at]
      intro h
      rw [r] at h
      omega
    have k_xN3 : xN3 W := by
      have r : W 91 928 = 0 := by rw [hW, sU_ne (fun z => by omega), sU_ne (fun z => by omega), sU_ne (fun z => by omega), sU_ne (fun z => by omega), sU_ne (fun z => by omega), sU_ne (fun z => by omega), sU_at]
      intro h
      rw [r] at h
      omega
    have k_xN4 : xN4 W := by
      rw [hW]
      exact (uxN4 rfl (uxN4 rfl (uxN4 rfl (uxN4 rfl (uxN4 rfl (uxN4 rfl (uxN4 rfl (uxN4 rfl (uxN4 rfl (uxN4 rfl hI.2.2.2.2.2.2.2.1))))))))))
    have k_xN5 : xN5 W := by
      rw [hW]
      exact (uxN5 rfl (uxN5 rfl (uxN5 rfl (uxN5 rfl (uxN5 rfl (uxN5 rfl (uxN5 rfl (uxN5 rfl (uxN5 rfl (uxN5 rfl hI.2.2.2.2.2.2.2.2.1))))))))))
    have k_xN6 : xN6 W := by
      rw [hW]
      exact (uxN6 rfl (uxN6 rfl (uxN6 rfl (uxN6 rfl (uxN6 rfl (uxN6 rfl (uxN6 rfl (uxN6 rfl (uxN6 rfl (uxN6 rfl hI.2.2.2.2.2.2.2.2.2.1))))))))))
    have k_xH1 : xH1 W := by
      have r : W 91 919 = 0 := by rw [hW, sU_ne (fun z => by omega), sU_ne (fun z => by omega), sU_ne (fun z => by omega), sU_ne (fun z => by omega), sU_ne (fun z => by omega), sU_at]
      intro h
      rw [r] at h
      omega
    have k_xK1 : xK1 W := by
      have r : W 91 909 = 0 := by rw [hW, sU_ne (fun z => by omega), sU_ne (fun z => by omega), sU_ne (fun z => by omega), sU_ne (fun z => by omega), sU_at]
      intro h
      rw [r] at h
      omega
    have k_xC1 : xC1 W := by
      have r : W 91 900 = 0 := by rw [hW, sU_ne (fun z => by omega), sU_ne (fun z => by omega), sU_ne (fun z => by omega), sU_at]
      intro h
      rw [r] at h
      omega
    have k_xRW : xRW W := by
      have r : W 91 889 = 0 := by rw [hW, sU_ne (fun z => by omega), sU_ne (fun z => by omega), sU_at]
      intro h
      rw [r] at h
      omega
    have k_xWT : xWT W := by
      have r : W 91 888 = 0 := by rw [hW, sU_ne (fun z => by omega), sU_at]
      intro h
      rw [r] at h
      omega
    have k_xCU : xCU W := by
      have r : W 91 884 = 0 := by rw [hW, sU_at]
      intro h
      rw [r] at h
      omega
    have k_xG2 : xG2 W := by
      rw [hW]
      exact (uxG2 rfl (uxG2 rfl (uxG2 rfl (uxG2 rfl (uxG2 rfl (uxG2 rfl (uxG2 rfl (uxG2 rfl (uxG2 rfl (uxG2 rfl hI.2.2.2.2.2.2.2.2.2.2.2.2.2.2.2.2.1))))))))))
    have k_xG3 : xG3 W := by
      rw [hW]
      exact (uxG3 rfl (uxG3 rfl (uxG3 rfl (uxG3 rfl (uxG3 rfl (uxG3 rfl (uxG3 rfl (uxG3 rfl (uxG3 rfl (uxG3 rfl hI.2.2.2.2.2.2.2.2.2.2.2.2.2.2.2.2.2.1))))))))))
    have k_xG4 : xG4 W := by
      rw [hW]
      exact (uxG4 rfl (uxG4 rfl (uxG4 rfl (uxG4 rfl (uxG4 rfl (uxG4 rfl (uxG4 rfl (uxG4 rfl (uxG4 rfl (uxG4 rfl hI.2.2.2.2.2.2.2.2.2.2.2.2.2.2.2.2.2.2.1))))))))))
    have k_xG5 : xG5 W := by
      rw [hW]
      exact (uxG5 rfl (uxG5 rfl (uxG5 rfl (uxG5 rfl (uxG5 rfl (uxG5 rfl (uxG5 rfl (uxG5 rfl (uxG5 rfl (uxG5 rfl hI.2.2.2.2.2.2.2.2.2.2.2.2.2.2.2.2.2.2.2.1))))))))))
    have k_xG6 : xG6 W := by
      rw [hW]
      exact (uxG6 rfl (uxG6 rfl (uxG6 rfl (uxG6 rfl (uxG6 rfl (uxG6 rfl (uxG6 rfl (uxG6 rfl (uxG6 rfl (uxG6 rfl hI.2.2.2.2.2.2.2.2.2.2.2.2.2.2.2.2.2.2.2.2.1))))))))))
    have k_XC : XC W := by
      rw [hW]
      exact (uXC rfl (uXC rfl (uXC rfl (uXC rfl (uXC rfl (uXC rfl (uXC rfl (uXC rfl (uXC rfl (uXC rfl hI.2.2.2.2.2.2.2.2.2.2.2.2.2.2.2.2.2.2.2.2.2))))))))))
    have kXB : XB W := ⟨k_xN1, k_xN2, k_xN3, k_xN4, k_xN5, k_xN6, k_xH1, k_xK1, k_xC1, k_xRW, k_xWT, k_xCU, k_xG2, k_xG3, k_xG4, k_xG5, k_xG6, k_XC⟩
    exact ⟨base, k2, k3, kXA, kXB⟩
-- wWeight
def xr_88 : qRu := (3, [[(-6, 0), (1, 1)], [(11, 0), (-1, 1)], [(-1, 0), (1, 2)], [(60, 0), (-1, 2)]], [], [(101, [(1, 1)], [(1, 2)])], [(91, 958, [(1, 1)]), (91, 956, []), (91, 949, []), (91, 930, []), (91, 928, []), (91, 919, []), (91, 909, []), (91, 900, []), (91, 889, []), (91, 888, []), (91, 884, [])], [])
theorem xo_88 : qRok xr_88 := by
  intro ρ M h0 hf hm hI
  have f0 := hf [(-6, 0), (1, 1)] (by decide)
  have f1 := hf [(11, 0), (-1, 1)] (by decide)
  have f2 := hf [(-1, 0), (1, 2)] (by decide)
  have f3 := hf [(60, 0), (-1, 2)] (by decide)
  simp only [qD, h0] at f0 f1 f2 f3
  have qxG2 := hI.2.2.2.2.2.2.2.2.2.2.2.2.2.2.2.2.1
  have qxG3 := hI.2.2.2.2.2.2.2.2.2.2.2.2.2.2.2.2.2.1
  have qxG4 := hI.2.2.2.2.2.2.2.2.2.2.2.2.2.2.2.2.2.2.1
  have qxG6 := hI.2.2.2.2.2.2.2.2.2.2.2.2.2.2.2.2.2.2.2.2.1
  refine ⟨ρ, fun _ _ => rfl, fun f h => ?_, ?_⟩
  · exact nomatch h
  · show sI (sU (sU (sU (sU (sU (sU (sU (sU (sU (sU (sU (sU M 101 (1 * ρ 1 + 0 : Int).toNat (1 * ρ 2 + 0)) 91 958 (1 * ρ 1 + 0)) 91 956 (0)) 91 949 (0)) 91 930 (0)) 91 928 (0)) 91 919 (0)) 91 909 (0)) 91 900 (0)) 91 889 (0)) 91 888 (0)) 91 884 (0))
    obtain ⟨W, hW⟩ : ∃ W, W = (sU (sU (sU (sU (sU (sU (sU (sU (sU (sU (sU (sU M 101 (1 * ρ 1 + 0).toNat (1 * ρ 2 + 0)) 91 958 (1 * ρ 1 + 0)) 91 956 (0)) 91 949 (0)) 91 930 (0)) 91 928 (0)) 91 919 (0)) 91 909 (0)) 91 900 (0)) 91 889 (0)) 91 888 (0)) 91 884 (0)) := ⟨_, rfl⟩
    rw [← hW]
    have base : sI0 W := by
      rw [hW]
      exact (si_u0 (si_u0 (si_u0 (si_u0 (si_u0 (si_u0 (si_u0 (si_u0 (si_u0 (si_u0 (si_u0 (si_u0 hI.1 (fun r hr => by rw [xt_101 hr]; exact ⟨by show (0 : Int) ≤ _; omega, by show _ ≤ (60 : Int); omega⟩)) (fun r hr => by cases hr)) (fun r hr => by cases hr)) (fun r hr => by cases hr)) (fun r hr => by cases hr)) (fun r hr => by cases hr)) (fun r hr => by cases hr)) (fun r hr => by cases hr)) (fun r hr => by cases hr)) (fun r hr => by cases hr)) (fun r hr => by cases hr)) (fun r hr => by cases hr))
    have k2 : XI2 W := by
      rw [hW]
      exact (xi2_u rfl (xi2_u rfl (xi2_u rfl (xi2_u rfl (xi2_u rfl (xi2_u rfl (xi2_u rfl (xi2_u rfl (xi2_u rfl (xi2_u rfl (xi2_u rfl (xi2_u (sinc_ok rfl _) hI.2.1))))))))))))
    have k3 : XI3 W := by
      rw [hW]
      exact (xi3_u rfl (xi3_u rfl (xi3_u rfl (xi3_u rfl (xi3_u rfl (xi3_u rfl (xi3_u rfl (xi3_u rfl (xi3_u rfl (xi3_u rfl (xi3_u rfl (xi3_u (sinc_ok rfl _) hI.2.2.1))))))))))))
    have kXA : XA W := by
      rw [hW]
      exact (uXA rfl (uXA rfl (uXA rfl (uXA rfl (uXA rfl (uXA rfl (uXA rfl (uXA rfl (uXA rfl (uXA rfl (uXA rfl (uXA (sinc_ok rfl _) hI.2.2.2.1))))))))))))
    have k_xN1 : xN1 W := by
      have r : W 91 949 = 0 := by rw [hW, sU_ne (fun z => by omega), sU_ne (fun z => by omega), sU_ne (fun z => by omega), sU_ne (fun z => by omega), sU_ne (fun z => by omega), sU_ne (fun z => by omega), sU_ne (fun z => by omega), sU_ne (fun z => by omega), sU_at]
      intro h
      rw [r] at h
      omega
    have k_xN2 : xN2 W := by
      have r : W 91 930 = 0 := by rw [hW, sU_ne (fun z => by omega), sU_ne (fun z => by omega), sU_ne (fun z => by omega), sU_ne (fun z => by omega), sU_ne (fun z => by omega), sU_ne (fun z => by omega), sU_ne (fun z => by omega), sU_at]
      intro h
      rw [r] at h
      omega
    have k_xN3 : xN3 W := by
      have r : W 91 928 = 0 := by rw [hW, sU_ne (fun z => by omega), sU_ne (fun z => by omega), sU_ne (fun z => by omega), sU_ne (fun z => by omega), sU_ne (fun z => by omega), sU_ne (fun z => by omega), sU_at]
      intro h
      rw [r] at h
      omega
    have k_xN4 : xN4 W := by
      rw [hW]
      exact (uxN4 rfl (uxN4 rfl (uxN4 rfl (uxN4 rfl (uxN4 rfl (uxN4 rfl (uxN4 rfl (uxN4 rfl (uxN4 rfl (uxN4 rfl (uxN4 rfl (uxN4 (sinc_ok rfl _) hI.2.2.2.2.2.2.2.1))))))))))))
    have k_xN5 : xN5 W := by
      rw [hW]
      exact (uxN5 rfl (uxN5 rfl (uxN5 rfl (uxN5 rfl (uxN5 rfl (uxN5 rfl (uxN5 rfl (uxN5 rfl (uxN5 rfl (uxN5 rfl (uxN5 rfl (uxN5 (sinc_ok rfl _) hI.2.2.2.2.2.2.2.2.1))))))))))))
    have k_xN6 : xN6 W := by
      rw [hW]
      exact (uxN6 rfl (uxN6 rfl (uxN6 rfl (uxN6 rfl (uxN6 rfl (uxN6 rfl (uxN6 rfl (uxN6 rfl (uxN6 rfl (uxN6 rfl (uxN6 rfl (uxN6 (sinc_ok rfl _) hI.2.2.2.2.2.2.2.2.2.1))))))))))))
    have k_xH1 : xH1 W := by
      have r : W 91 919 = 0 := by rw [hW, sU_ne (fun z => by omega), sU_ne (fun z => by omega), sU_ne (fun z => by omega), sU_ne (fun z => by omega), sU_ne (fun z => by omega), sU_at]
      intro h
      rw [r] at h
      omega
    have k_xK1 : xK1 W := by
      have r : W 91 909 = 0 := by rw [hW, sU_ne (fun z => by omega), sU_ne (fun z => by omega), sU_ne (fun z => by omega), sU_ne (fun z => by omega), sU_at]
      intro h
      rw [r] at h
      omega
    have k_xC1 : xC1 W := by
      have r : W 91 900 = 0 := by rw [hW, sU_ne (fun z => by omega), sU_ne (fun z => by omega), sU_ne (fun z => by omega), sU_at]
      intro h
      rw [r] at h
      omega
    have k_xRW : xRW W := by
      have r : W 91 889 = 0 := by rw [hW, sU_ne (fun z => by omega), sU_ne (fun z => by omega), sU_at]
      intro h
      rw [r] at h
      omega
    have k_xWT : xWT W := by
      have r : W 91 888 = 0 := by rw [hW, sU_ne (fun z => by omega), sU_at]
      intro h
      rw [r] at h
      omega
    have k_xCU : xCU W := by
      have r : W 91 884 = 0 := by rw [hW, sU_at]
      intro h
      rw [r] at h
      omega
    have k_xG2 : xG2 W := by
      have c101 : ∀ k : Nat, k ≠ (1 * ρ 1 + 0).toNat → W 101 k = M 101 k := fun k hk => by rw [hW, sU_ne (fun z => by omega), sU_ne (fun z => by omega), sU_ne (fun z => by omega), sU_ne (fun z => by omega), sU_ne (fun z => by omega), sU_ne (fun z => by omega), sU_ne (fun z => by omega), sU_ne (fun z => by omega), sU_ne (fun z => by omega), sU_ne (fun z => by omega), sU_ne (fun z => by omega), sU_ne (fun z => by omega)]
      have a101 : W 101 (1 * ρ 1 + 0).toNat = 1 * ρ 2 + 0 := by rw [hW, sU_ne (fun z => by omega), sU_ne (fun z => by omega), sU_ne (fun z => by omega), sU_ne (fun z => by omega), sU_ne (fun z => by omega), sU_ne (fun z => by omega), sU_ne (fun z => by omega), sU_ne (fun z => by omega), sU_ne (fun z => by omega), sU_ne (fun z => by omega), sU_ne (fun z => by omega), sU_at]
      have c103 : ∀ k, W 103 k = M 103 k := fun k => by rw [hW, sU_ne (fun z => by omega), sU_ne (fun z => by omega), sU_ne (fun z => by omega), sU_ne (fun z => by omega), sU_ne (fun z => by omega), sU_ne (fun z => by omega), sU_ne (fun z => by omega), sU_ne (fun z => by omega), sU_ne (fun z => by omega), sU_ne (fun z => by omega), sU_ne (fun z => by omega), sU_ne (fun z => by omega)]
      intro g h1 h2
      have h3 : (0 : Int) ≤ M 103 g ∧ M 103 g ≤ 99 := hI.1 103 g (0, 99) (xs_103 h2)
      rw [c103]
      by_cases hc : g = (1 * ρ 1 + 0).toNat
      · rw [hc] at h3 ⊢
        rw [a101]
        omega
      · rw [c101 g hc]
        exact qxG2 g h1 h2
    have k_xG3 : xG3 W := by
      have r91_958 : W 91 958 = 1 * ρ 1 + 0 := by rw [hW, sU_ne (fun z => by omega), sU_ne (fun z => by omega), sU_ne (fun z => by omega), sU_ne (fun z => by omega), sU_ne (fun z => by omega), sU_ne (fun z => by omega), sU_ne (fun z => by omega), sU_ne (fun z => by omega), sU_ne (fun z => by omega), sU_ne (fun z => by omega), sU_at]
      have c101 : ∀ k : Nat, k ≠ (1 * ρ 1 + 0).toNat → W 101 k = M 101 k := fun k hk => by rw [hW, sU_ne (fun z => by omega), sU_ne (fun z => by omega), sU_ne (fun z => by omega), sU_ne (fun z => by omega), sU_ne (fun z => by omega), sU_ne (fun z => by omega), sU_ne (fun z => by omega), sU_ne (fun z => by omega), sU_ne (fun z => by omega), sU_ne (fun z => by omega), sU_ne (fun z => by omega), sU_ne (fun z => by omega)]
      have a101 : W 101 (1 * ρ 1 + 0).toNat = 1 * ρ 2 + 0 := by rw [hW, sU_ne (fun z => by omega), sU_ne (fun z => by omega), sU_ne (fun z => by omega), sU_ne (fun z => by omega), sU_ne (fun z => by omega), sU_ne (fun z => by omega), sU_ne (fun z => by omega), sU_ne (fun z => by omega), sU_ne (fun z => by omega), sU_ne (fun z => by omega), sU_ne (fun z => by omega), sU_at]
      intro h1 h2
      rw [r91_958, a101]
      omega
    have k_xG4 : xG4 W := by
      have r91_956 : W 91 956 = 0 := by rw [hW, sU_ne (fun z => by omega), sU_ne (fun z => by omega), sU_ne (fun z => by omega), sU_ne (fun z => by omega), sU_ne (fun z => by omega), sU_ne (fun z => by omega), sU_ne (fun z => by omega), sU_ne (fun z => by omega), sU_ne (fun z => by omega), sU_at]
      have c101 : ∀ k : Nat, k ≠ (1 * ρ 1 + 0).toNat → W 101 k = M 101 k := fun k hk => by rw [hW, sU_ne (fun z => by omega), sU_ne (fun z => by omega), sU_ne (fun z => by omega), sU_ne (fun z => by omega), sU_ne (fun z => by omega), sU_ne (fun z => by omega), sU_ne (fun z => by omega), sU_ne (fun z => by omega), sU_ne (fun z => by omega), sU_ne (fun z => by omega), sU_ne (fun z => by omega), sU_ne (fun z => by omega)]
      have a101 : W 101 (1 * ρ 1 + 0).toNat = 1 * ρ 2 + 0 := by rw [hW, sU_ne (fun z => by omega), sU_ne (fun z => by omega), sU_ne (fun z => by omega), sU_ne (fun z => by omega), sU_ne (fun z => by omega), sU_ne (fun z => by omega), sU_ne (fun z => by omega), sU_ne (fun z => by omega), sU_ne (fun z => by omega), sU_ne (fun z => by omega), sU_ne (fun z => by omega), sU_at]
      intro j hj
      rw [r91_956] at hj
      omega
    have k_xG5 : xG5 W := by
      rw [hW]
      exact (uxG5 rfl (uxG5 rfl (uxG5 rfl (uxG5 rfl (uxG5 rfl (uxG5 rfl (uxG5 rfl (uxG5 rfl (uxG5 rfl (uxG5 rfl (uxG5 rfl (uxG5 (sinc_ok rfl _) hI.2.2.2.2.2.2.2.2.2.2.2.2.2.2.2.2.2.2.2.1))))))))))))
    have k_xG6 : xG6 W := by
      have r91_975 : W 91 975 = M 91 975 := by rw [hW, sU_ne (fun z => by omega), sU_ne (fun z => by omega), sU_ne (fun z => by omega), sU_ne (fun z => by omega), sU_ne (fun z => by omega), sU_ne (fun z => by omega), sU_ne (fun z => by omega), sU_ne (fun z => by omega), sU_ne (fun z => by omega), sU_ne (fun z => by omega), sU_ne (fun z => by omega), sU_ne (fun z => by omega)]
      have c101 : ∀ k : Nat, k ≠ (1 * ρ 1 + 0).toNat → W 101 k = M 101 k := fun k hk => by rw [hW, sU_ne (fun z => by omega), sU_ne (fun z => by omega), sU_ne (fun z => by omega), sU_ne (fun z => by omega), sU_ne (fun z => by omega), sU_ne (fun z => by omega), sU_ne (fun z => by omega), sU_ne (fun z => by omega), sU_ne (fun z => by omega), sU_ne (fun z => by omega), sU_ne (fun z => by omega), sU_ne (fun z => by omega)]
      have a101 : W 101 (1 * ρ 1 + 0).toNat = 1 * ρ 2 + 0 := by rw [hW, sU_ne (fun z => by omega), sU_ne (fun z => by omega), sU_ne (fun z => by omega), sU_ne (fun z => by omega), sU_ne (fun z => by omega), sU_ne (fun z => by omega), sU_ne (fun z => by omega), sU_ne (fun z => by omega), sU_ne (fun z => by omega), sU_ne (fun z => by omega), sU_ne (fun z => by omega), sU_at]
      have c103 : ∀ k, W 103 k = M 103 k := fun k => by rw [hW, sU_ne (fun z => by omega), sU_ne (fun z => by omega), sU_ne (fun z => by omega), sU_ne (fun z => by omega), sU_ne (fun z => by omega), sU_ne (fun z => by omega), sU_ne (fun z => by omega), sU_ne (fun z => by omega), sU_ne (fun z => by omega), sU_ne (fun z => by omega), sU_ne (fun z => by omega), sU_ne (fun z => by omega)]
      intro h g hg
      rw [r91_975] at h
      rw [c103, c101 g (by omega)]
      exact qxG6 h g hg
    have k_XC : XC W := by
      rw [hW]
      exact (uXC rfl (uXC rfl (uXC rfl (uXC rfl (uXC rfl (uXC rfl (uXC rfl (uXC rfl (uXC rfl (uXC rfl (uXC rfl (uXC (sinc_ok rfl _) hI.2.2.2.2.2.2.2.2.2.2.2.2.2.2.2.2.2.2.2.2.2))))))))))))
    have kXB : XB W := ⟨k_xN1, k_xN2, k_xN3, k_xN4, k_xN5, k_xN6, k_xH1, k_xK1, k_xC1, k_xRW, k_xWT, k_xCU, k_xG2, k_xG3, k_xG4, k_xG5, k_xG6, k_XC⟩
    exact ⟨base, k2, k3, kXA, kXB⟩
-- wAbove
def xr_89 : qRu := (4, [[(-6, 0), (1, 1)], [(11, 0), (-1, 1)], [(1, 2)], [(99, 0), (-1, 2)], [(1, 1), (-1, 3)], [(-1, 1), (1, 3)]], [(91, 958, [(1, 3)])], [(103, [(1, 1)], [(1, 2)])], [(91, 957, [])], [])
theorem xo_89 : qRok xr_89 := by
  intro ρ M h0 hf hm hI
  have f0 := hf [(-6, 0), (1, 1)] (by decide)
  have f1 := hf [(11, 0), (-1, 1)] (by decide)
  have f2 := hf [(1, 2)] (by decide)
  have f3 := hf [(99, 0), (-1, 2)] (by decide)
  have f4 := hf [(1, 1), (-1, 3)] (by decide)
  have f5 := hf [(-1, 1), (1, 3)] (by decide)
  simp only [qD, h0] at f0 f1 f2 f3 f4 f5
  have m0 : M 91 958 = 1 * ρ 3 + 0 := hm (91, 958, [(1, 3)]) (by decide)
  have qxG2 := hI.2.2.2.2.2.2.2.2.2.2.2.2.2.2.2.2.1
  have qxG3 := hI.2.2.2.2.2.2.2.2.2.2.2.2.2.2.2.2.2.1
  have qxG5 := hI.2.2.2.2.2.2.2.2.2.2.2.2.2.2.2.2.2.2.2.1
  have qxG6 := hI.2.2.2.2.2.2.2.2.2.2.2.2.2.2.2.2.2.2.2.2.1
  refine ⟨ρ, fun _ _ => rfl, fun f h => ?_, ?_⟩
  · exact nomatch h
  · show sI (sU (sU M 103 (1 * ρ 1 + 0 : Int).toNat (1 * ρ 2 + 0)) 91 957 (0))
    obtain ⟨W, hW⟩ : ∃ W, W = (sU (sU M 103 (1 * ρ 1 + 0).toNat (1 * ρ 2 + 0)) 91 957 (0)) := ⟨_, rfl⟩
    rw [← hW]
    have base : sI0 W := by
      rw [hW]
      exact (si_u0 (si_u0 hI.1 (fun r hr => by rw [xt_103 hr]; exact ⟨by show (0 : Int) ≤ _; omega, by show _ ≤ (99 : Int); omega⟩)) (fun r hr => by cases hr))
    have k2 : XI2 W := by
      rw [hW]
      exact (xi2_u rfl (xi2_u (sinc_ok rfl _) hI.2.1))
    have k3 : XI3 W := by
      rw [hW]
      exact (xi3_u rfl (xi3_u (sinc_ok rfl _) hI.2.2.1))
    have kXA : XA W := by
      rw [hW]
      exact (uXA rfl (uXA (sinc_ok rfl _) hI.2.2.2.1))
    have k_xN1 : xN1 W := by
      rw [hW]
      exact (uxN1 rfl (uxN1 (sinc_ok rfl _) hI.2.2.2.2.1))
    have k_xN2 : xN2 W := by
      rw [hW]
      exact (uxN2 rfl (uxN2 (sinc_ok rfl _) hI.2.2.2.2.2.1))
    have k_xN3 : xN3 W := by
      rw [hW]
      exact (uxN3 rfl (uxN3 (sinc_ok rfl _) hI.2.2.2.2.2.2.1))
    have k_xN4 : xN4 W := by
      rw [hW]
      exact (uxN4 rfl (uxN4 (sinc_ok rfl _) hI.2.2.2.2.2.2.2.1))
    have k_xN5 : xN5 W := by
      rw [hW]
      exact (uxN5 rfl (uxN5 (sinc_ok rfl _) hI.2.2.2.2.2.2.2.2.1))
    have k_xN6 : xN6 W := by
      rw [hW]
      exact (uxN6 rfl (uxN6 (sinc_ok rfl _) hI.2.2.2.2.2.2.2.2.2.1))
    have k_xH1 : xH1 W := by
      rw [hW]
      exact (uxH1 rfl (uxH1 (sinc_ok rfl _) hI.2.2.2.2.2.2.2.2.2.2.1))
    have k_xK1 : xK1 W := by
      rw [hW]
      exact (uxK1 rfl (uxK1 (sinc_ok rfl _) hI.2.2.2.2.2.2.2.2.2.2.2.1))
    have k_xC1 : xC1 W := by
      rw [hW]
      exact (uxC1 rfl (uxC1 (sinc_ok rfl _) hI.2.2.2.2.2.2.2.2.2.2.2.2.1))
    have k_xRW : xRW W := by
      rw [hW]
      exact (uxRW rfl (uxRW (sinc_ok rfl _) hI.2.2.2.2.2.2.2.2.2.2.2.2.2.1))
    have k_xWT : xWT W := by
      rw [hW]
      exact (uxWT rfl (uxWT (sinc_ok rfl _) hI.2.2.2.2.2.2.2.2.2.2.2.2.2.2.1))
    have k_xCU : xCU W := by
      rw [hW]
      exact (uxCU rfl (uxCU (sinc_ok rfl _) hI.2.2.2.2.2.2.2.2.2.2.2.2.2.2.2.1))
    have k_xG2 : xG2 W := by
      have c101 : ∀ k, W 101 k = M 101 k := fun k => by rw [hW, sU_ne (fun z => by omega), sU_ne (fun z => by omega)]
      have c103 : ∀ k : Nat, k ≠ (1 * ρ 1 + 0).toNat → W 103 k = M 103 k := fun k hk => by rw [hW, sU_ne (fun z => by omega), sU_ne (fun z => by omega)]
      have a103 : W 103 (1 * ρ 1 + 0).toNat = 1 * ρ 2 + 0 := by rw [hW, sU_ne (fun z => by omega), sU_at]
      intro g h1 h2
      rw [c101]
      by_cases hc : g = (1 * ρ 1 + 0).toNat
      · rw [hc, a103]
        have h3 := qxG3 (by omega) (by omega)
        rw [show (M 91 958).toNat = (1 * ρ 1 + 0).toNat by omega] at h3
        omega
      · rw [c103 g hc]
        exact qxG2 g h1 h2
    have k_xG3 : xG3 W := by
      rw [hW]
      exact (uxG3 rfl (uxG3 (sinc_ok rfl _) hI.2.2.2.2.2.2.2.2.2.2.2.2.2.2.2.2.2.1))
    have k_xG4 : xG4 W := by
      rw [hW]
      exact (uxG4 rfl (uxG4 (sinc_ok rfl _) hI.2.2.2.2.2.2.2.2.2.2.2.2.2.2.2.2.2.2.1))
    have k_xG5 : xG5 W := by
      have r91_957 : W 91 957 = 0 := by rw [hW, sU_at]
      have c103 : ∀ k : Nat, k ≠ (1 * ρ 1 + 0).toNat → W 103 k = M 103 k := fun k hk => by rw [hW, sU_ne (fun z => by omega), sU_ne (fun z => by omega)]
      have a103 : W 103 (1 * ρ 1 + 0).toNat = 1 * ρ 2 + 0 := by rw [hW, sU_ne (fun z => by omega), sU_at]
      intro j hj
      rw [r91_957] at hj
      omega
    have k_xG6 : xG6 W := by
      have r91_975 : W 91 975 = M 91 975 := by rw [hW, sU_ne (fun z => by omega), sU_ne (fun z => by omega)]
      have c101 : ∀ k, W 101 k = M 101 k := fun k => by rw [hW, sU_ne (fun z => by omega), sU_ne (fun z => by omega)]
      have c103 : ∀ k : Nat, k ≠ (1 * ρ 1 + 0).toNat → W 103 k = M 103 k := fun k hk => by rw [hW, sU_ne (fun z => by omega), sU_ne (fun z => by omega)]
      have a103 : W 103 (1 * ρ 1 + 0).toNat = 1 * ρ 2 + 0 := by rw [hW, sU_ne (fun z => by omega), sU_at]
      intro h g hg
      rw [r91_975] at h
      rw [c101, c103 g (by omega)]
      exact qxG6 h g hg
    have k_XC : XC W := by
      rw [hW]
      exact (uXC rfl (uXC (sinc_ok rfl _) hI.2.2.2.2.2.2.2.2.2.2.2.2.2.2.2.2.2.2.2.2.2))
    have kXB : XB W := ⟨k_xN1, k_xN2, k_xN3, k_xN4, k_xN5, k_xN6, k_xH1, k_xK1, k_xC1, k_xRW, k_xWT, k_xCU, k_xG2, k_xG3, k_xG4, k_xG5, k_xG6, k_XC⟩
    exact ⟨base, k2, k3, kXA, kXB⟩
-- cp101
def xr_90 : qRu := (5, [[(1, 1)], [(5, 0), (-1, 1)], [(-6, 0), (-1, 1), (1, 2)], [(6, 0), (1, 1), (-1, 2)], [(1, 1), (-1, 4)], [(-1, 1), (1, 4)]], [(91, 956, [(1, 4)]), (101, 1002, [(1, 3)]), (91, 975, [])], [(101, [(1, 1)], [(1, 3)])], [(91, 956, [(1, 4), (1, 0)]), (91, 958, [(-1, 0)]), (91, 949, []), (91, 930, []), (91, 928, []), (91, 919, []), (91, 909, []), (91, 900, []), (91, 889, []), (91, 888, []), (91, 884, [])], [])
theorem xo_90 : qRok xr_90 := by
  intro ρ M h0 hf hm hI
  have f0 := hf [(1, 1)] (by decide)
  have f1 := hf [(5, 0), (-1, 1)] (by decide)
  have f2 := hf [(-6, 0), (-1, 1), (1, 2)] (by decide)
  have f3 := hf [(6, 0), (1, 1), (-1, 2)] (by decide)
  have f4 := hf [(1, 1), (-1, 4)] (by decide)
  have f5 := hf [(-1, 1), (1, 4)] (by decide)
  simp only [qD, h0] at f0 f1 f2 f3 f4 f5
  have m0 : M 91 956 = 1 * ρ 4 + 0 := hm (91, 956, [(1, 4)]) (by decide)
  have m1 : M 101 (zIx ρ (1000 + 2)) = 1 * ρ 3 + 0 := hm (101, 1002, [(1, 3)]) (by decide)
  rw [zix_p] at m1
  have m2 : M 91 975 = 0 := hm (91, 975, []) (by decide)
  have qxG2 := hI.2.2.2.2.2.2.2.2.2.2.2.2.2.2.2.2.1
  have qxG3 := hI.2.2.2.2.2.2.2.2.2.2.2.2.2.2.2.2.2.1
  have qxG4 := hI.2.2.2.2.2.2.2.2.2.2.2.2.2.2.2.2.2.2.1
  have qxG6 := hI.2.2.2.2.2.2.2.2.2.2.2.2.2.2.2.2.2.2.2.2.1
  have hv : (0 : Int) ≤ M 101 (ρ 2).toNat ∧ M 101 (ρ 2).toNat ≤ 60 := hI.1 101 (ρ 2).toNat (0, 60) (xs_101 (by omega))
  refine ⟨ρ, fun _ _ => rfl, fun f h => ?_, ?_⟩
  · exact nomatch h
  · show sI (sU (sU (sU (sU (sU (sU (sU (sU (sU (sU (sU (sU M 101 (1 * ρ 1 + 0 : Int).toNat (1 * ρ 3 + 0)) 91 956 (1 * ρ 4 + (1 * ρ 0 + 0))) 91 958 (-1 * ρ 0 + 0)) 91 949 (0)) 91 930 (0)) 91 928 (0)) 91 919 (0)) 91 909 (0)) 91 900 (0)) 91 889 (0)) 91 888 (0)) 91 884 (0))
    obtain ⟨W, hW⟩ : ∃ W, W = (sU (sU (sU (sU (sU (sU (sU (sU (sU (sU (sU (sU M 101 (1 * ρ 1 + 0).toNat (1 * ρ 3 + 0)) 91 956 (1 * ρ 4 + (1 * ρ 0 + 0))) 91 958 (-1 * ρ 0 + 0)) 91 949 (0)) 91 930 (0)) 91 928 (0)) 91 919 (0)) 91 909 (0)) 91 900 (0)) 91 889 (0)) 91 888 (0)) 91 884 (0)) := ⟨_, rfl⟩
    rw [← hW]
    have base : sI0 W := by
      rw [hW]
      exact (si_u0 (si_u0 (si_u0 (si_u0 (si_u0 (si_u0 (si_u0 (si_u0 (si_u0 (si_u0 (si_u0 (si_u0 hI.1 (fun r hr => by rw [xt_101 hr]; exact ⟨by show (0 : Int) ≤ _; omega, by show _ ≤ (60 : Int); omega⟩)) (fun r hr => by cases hr)) (fun r hr => by cases hr)) (fun r hr => by cases hr)) (fun r hr => by cases hr)) (fun r hr => by cases hr)) (fun r hr => by cases hr)) (fun r hr => by cases hr)) (fun r hr => by cases hr)) (fun r hr => by cases hr)) (fun r hr => by cases hr)) (fun r hr => by cases hr))
    have k2 : XI2 W := by
      rw [hW]
      exact (xi2_u rfl (xi2_u rfl (xi2_u rfl (xi2_u rfl (xi2_u rfl (xi2_u rfl (xi2_u rfl (xi2_u rfl (xi2_u rfl (xi2_u rfl (xi2_u rfl (xi2_u (sinc_ok rfl _) hI.2.1))))))))))))
    have k3 : XI3 W := by
      rw [hW]
      exact (xi3_u rfl (xi3_u rfl (xi3_u rfl (xi3_u rfl (xi3_u rfl (xi3_u rfl (xi3_u rfl (xi3_u rfl (xi3_u rfl (xi3_u rfl (xi3_u rfl (xi3_u (sinc_ok rfl _) hI.2.2.1))))))))))))
    have kXA : XA W := by
      rw [hW]
      exact (uXA rfl (uXA rfl (uXA rfl (uXA rfl (uXA rfl (uXA rfl (uXA rfl (uXA rfl (uXA rfl (uXA rfl (uXA rfl (uXA (sinc_ok rfl _) hI.2.2.2.1))))))))))))
    have k_xN1 : xN1 W := by
      have r : W 91 949 = 0 := by rw [hW, sU_ne (fun z => by omega), sU_ne (fun z => by omega), sU_ne (fun z => by omega), sU_ne (fun z => by omega), sU_ne (fun z => by omega), sU_ne (fun z => by omega), sU_ne (fun z => by omega), sU_ne (fun z => by omega), sU_at]
      intro h
      rw [r] at h
      omega
    have k_xN2 : xN2 W := by
      have r : W 91 930 = 0 := by rw [hW, sU_ne (fun z => by omega), sU_ne (fun z => by omega), sU_ne (fun z => by omega), sU_ne (fun z => by omega), sU_ne (fun z => by omega), sU_ne (fun z => by omega), sU_ne (fun z => by omega), sU_at]
      intro h
      rw [r] at h
      omega
    have k_xN3 : xN3 W := by
      have r : W 91 928 = 0 := by rw [hW, sU_ne (fun z => by omega), sU_ne (fun z => by omega), sU_ne (fun z => by omega), sU_ne (fun z => by omega), sU_ne (fun z => by omega), sU_ne (fun z => by omega), sU_at]
      intro h
      rw [r] at h
      omega
    have k_xN4 : xN4 W := by
      rw [hW]
      exact (uxN4 rfl (uxN4 rfl (uxN4 rfl (uxN4 rfl (uxN4 rfl (uxN4 rfl (uxN4 rfl (uxN4 rfl (uxN4 rfl (uxN4 rfl (uxN4 rfl (uxN4 (sinc_ok rfl _) hI.2.2.2.2.2.2.2.1))))))))))))
    have k_xN5 : xN5 W := by
      rw [hW]
      exact (uxN5 rfl (uxN5 rfl (uxN5 rfl (uxN5 rfl (uxN5 rfl (uxN5 rfl (uxN5 rfl (uxN5 rfl (uxN5 rfl (uxN5 rfl (uxN5 rfl (uxN5 (sinc_ok rfl _) hI.2.2.2.2.2.2.2.2.1))))))))))))
    have k_xN6 : xN6 W := by
      rw [hW]
      exact (uxN6 rfl (uxN6 rfl (uxN6 rfl (uxN6 rfl (uxN6 rfl (uxN6 rfl (uxN6 rfl (uxN6 rfl (uxN6 rfl (uxN6 rfl (uxN6 rfl (uxN6 (sinc_ok rfl _) hI.2.2.2.2.2.2.2.2.2.1))))))))))))
    have k_xH1 : xH1 W := by
      have r : W 91 919 = 0 := by rw [hW, sU_ne (fun z => by omega), sU_ne (fun z => by omega), sU_ne (fun z => by omega), sU_ne (fun z => by omega), sU_ne (fun z => by omega), sU_at]
      intro h
      rw [r] at h
      omega
    have k_xK1 : xK1 W := by
      have r : W 91 909 = 0 := by rw [hW, sU_ne (fun z => by omega), sU_ne (fun z => by omega), sU_ne (fun z => by omega), sU_ne (fun z => by omega), sU_at]
      intro h
      rw [r] at h
      omega
    have k_xC1 : xC1 W := by
      have r : W 91 900 = 0 := by rw [hW, sU_ne (fun z => by omega), sU_ne (fun z => by omega), sU_ne (fun z => by omega), sU_at]
      intro h
      rw [r] at h
      omega
    have k_xRW : xRW W := by
      have r : W 91 889 = 0 := by rw [hW, sU_ne (fun z => by omega), sU_ne (fun z => by omega), sU_at]
      intro h
      rw [r] at h
      omega
    have k_xWT : xWT W := by
      have r : W 91 888 = 0 := by rw [hW, sU_ne (fun z => by omega), sU_at]
      intro h
      rw [r] at h
      omega
    have k_xCU : xCU W := by
      have r : W 91 884 = 0 := by rw [hW, sU_at]
      intro h
      rw [r] at h
      omega
    have k_xG2 : xG2 W := by
      have c101 : ∀ k : Nat, k ≠ (1 * ρ 1 + 0).toNat → W 101 k = M 101 k := fun k hk => by rw [hW, sU_ne (fun z => by omega), sU_ne (fun z => by omega), sU_ne (fun z => by omega), sU_ne (fun z => by omega), sU_ne (fun z => by omega), sU_ne (fun z => by omega), sU_ne (fun z => by omega), sU_ne (fun z => by omega), sU_ne (fun z => by omega), sU_ne (fun z => by omega), sU_ne (fun z => by omega), sU_ne (fun z => by omega)]
      have a101 : W 101 (1 * ρ 1 + 0).toNat = 1 * ρ 3 + 0 := by rw [hW, sU_ne (fun z => by omega), sU_ne (fun z => by omega), sU_ne (fun z => by omega), sU_ne (fun z => by omega), sU_ne (fun z => by omega), sU_ne (fun z => by omega), sU_ne (fun z => by omega), sU_ne (fun z => by omega), sU_ne (fun z => by omega), sU_ne (fun z => by omega), sU_ne (fun z => by omega), sU_at]
      have c103 : ∀ k, W 103 k = M 103 k := fun k => by rw [hW, sU_ne (fun z => by omega), sU_ne (fun z => by omega), sU_ne (fun z => by omega), sU_ne (fun z => by omega), sU_ne (fun z => by omega), sU_ne (fun z => by omega), sU_ne (fun z => by omega), sU_ne (fun z => by omega), sU_ne (fun z => by omega), sU_ne (fun z => by omega), sU_ne (fun z => by omega), sU_ne (fun z => by omega)]
      intro g h1 h2
      rw [c103, c101 g (by omega)]
      exact qxG2 g h1 h2
    have k_xG3 : xG3 W := by
      have r91_958 : W 91 958 = -1 * ρ 0 + 0 := by rw [hW, sU_ne (fun z => by omega), sU_ne (fun z => by omega), sU_ne (fun z => by omega), sU_ne (fun z => by omega), sU_ne (fun z => by omega), sU_ne (fun z => by omega), sU_ne (fun z => by omega), sU_ne (fun z => by omega), sU_ne (fun z => by omega), sU_at]
      have c101 : ∀ k : Nat, k ≠ (1 * ρ 1 + 0).toNat → W 101 k = M 101 k := fun k hk => by rw [hW, sU_ne (fun z => by omega), sU_ne (fun z => by omega), sU_ne (fun z => by omega), sU_ne (fun z => by omega), sU_ne (fun z => by omega), sU_ne (fun z => by omega), sU_ne (fun z => by omega), sU_ne (fun z => by omega), sU_ne (fun z => by omega), sU_ne (fun z => by omega), sU_ne (fun z => by omega), sU_ne (fun z => by omega)]
      have a101 : W 101 (1 * ρ 1 + 0).toNat = 1 * ρ 3 + 0 := by rw [hW, sU_ne (fun z => by omega), sU_ne (fun z => by omega), sU_ne (fun z => by omega), sU_ne (fun z => by omega), sU_ne (fun z => by omega), sU_ne (fun z => by omega), sU_ne (fun z => by omega), sU_ne (fun z => by omega), sU_ne (fun z => by omega), sU_ne (fun z => by omega), sU_ne (fun z => by omega), sU_at]
      intro h
      rw [r91_958, h0] at h
      omega
    have k_xG4 : xG4 W := by
      have r91_956 : W 91 956 = 1 * ρ 4 + (1 * ρ 0 + 0) := by rw [hW, sU_ne (fun z => by omega), sU_ne (fun z => by omega), sU_ne (fun z => by omega), sU_ne (fun z => by omega), sU_ne (fun z => by omega), sU_ne (fun z => by omega), sU_ne (fun z => by omega), sU_ne (fun z => by omega), sU_ne (fun z => by omega), sU_ne (fun z => by omega), sU_at]
      have c101 : ∀ k : Nat, k ≠ (1 * ρ 1 + 0).toNat → W 101 k = M 101 k := fun k hk => by rw [hW, sU_ne (fun z => by omega), sU_ne (fun z => by omega), sU_ne (fun z => by omega), sU_ne (fun z => by omega), sU_ne (fun z => by omega), sU_ne (fun z => by omega), sU_ne (fun z => by omega), sU_ne (fun z => by omega), sU_ne (fun z => by omega), sU_ne (fun z => by omega), sU_ne (fun z => by omega), sU_ne (fun z => by omega)]
      have a101 : W 101 (1 * ρ 1 + 0).toNat = 1 * ρ 3 + 0 := by rw [hW, sU_ne (fun z => by omega), sU_ne (fun z => by omega), sU_ne (fun z => by omega), sU_ne (fun z => by omega), sU_ne (fun z => by omega), sU_ne (fun z => by omega), sU_ne (fun z => by omega), sU_ne (fun z => by omega), sU_ne (fun z => by omega), sU_ne (fun z => by omega), sU_ne (fun z => by omega), sU_at]
      intro j hj
      rw [r91_956] at hj
      by_cases hc : j = (1 * ρ 1 + 0).toNat
      · rw [hc, a101, c101 _ (by omega), show 6 + (1 * ρ 1 + 0).toNat = (ρ 2).toNat by omega, m1]
      · rw [c101 j hc, c101 (6 + j) (by omega)]
        exact qxG4 j (by omega)
    have k_xG5 : xG5 W := by
      rw [hW]
      exact (uxG5 rfl (uxG5 rfl (uxG5 rfl (uxG5 rfl (uxG5 rfl (uxG5 rfl (uxG5 rfl (uxG5 rfl (uxG5 rfl (uxG5 rfl (uxG5 rfl (uxG5 (sinc_ok rfl _) hI.2.2.2.2.2.2.2.2.2.2.2.2.2.2.2.2.2.2.2.1))))))))))))
    have k_xG6 : xG6 W := by
      have r91_975 : W 91 975 = M 91 975 := by rw [hW, sU_ne (fun z => by omega), sU_ne (fun z => by omega), sU_ne (fun z => by omega), sU_ne (fun z => by omega), sU_ne (fun z => by omega), sU_ne (fun z => by omega), sU_ne (fun z => by omega), sU_ne (fun z => by omega), sU_ne (fun z => by omega), sU_ne (fun z => by omega), sU_ne (fun z => by omega), sU_ne (fun z => by omega)]
      have c101 : ∀ k : Nat, k ≠ (1 * ρ 1 + 0).toNat → W 101 k = M 101 k := fun k hk => by rw [hW, sU_ne (fun z => by omega), sU_ne (fun z => by omega), sU_ne (fun z => by omega), sU_ne (fun z => by omega), sU_ne (fun z => by omega), sU_ne (fun z => by omega), sU_ne (fun z => by omega), sU_ne (fun z => by omega), sU_ne (fun z => by omega), sU_ne (fun z => by omega), sU_ne (fun z => by omega), sU_ne (fun z => by omega)]
      have a101 : W 101 (1 * ρ 1 + 0).toNat = 1 * ρ 3 + 0 := by rw [hW, sU_ne (fun z => by omega), sU_ne (fun z => by omega), sU_ne (fun z => by omega), sU_ne (fun z => by omega), sU_ne (fun z => by omega), sU_ne (fun z => by omega), sU_ne (fun z => by omega), sU_ne (fun z => by omega), sU_ne (fun z => by omega), sU_ne (fun z => by omega), sU_ne (fun z => by omega), sU_at]
      have c103 : ∀ k, W 103 k = M 103 k := fun k => by rw [hW, sU_ne (fun z => by omega), sU_ne (fun z => by omega), sU_ne (fun z => by omega), sU_ne (fun z => by omega), sU_ne (fun z => by omega), sU_ne (fun z => by omega), sU_ne (fun z => by omega), sU_ne (fun z => by omega), sU_ne (fun z => by omega), sU_ne (fun z => by omega), sU_ne (fun z => by omega), sU_ne (fun z => by omega)]
      intro h
      rw [r91_975] at h
      omega
    have k_XC : XC W := by
      rw [hW]
      exact (uXC rfl (uXC rfl (uXC rfl (uXC rfl (uXC rfl (uXC rfl (uXC rfl (uXC rfl (uXC rfl (uXC rfl (uXC rfl (uXC (sinc_ok rfl _) hI.2.2.2.2.2.2.2.2.2.2.2.2.2.2.2.2.2.2.2.2.2))))))))))))
    have kXB : XB W := ⟨k_xN1, k_xN2, k_xN3, k_xN4, k_xN5, k_xN6, k_xH1, k_xK1, k_xC1, k_xRW, k_xWT, k_xCU, k_xG2, k_xG3, k_xG4, k_xG5, k_xG6, k_XC⟩
    exact ⟨base, k2, k3, kXA, kXB⟩
-- cp103
def xr_91 : qRu := (5, [[(1, 1)], [(5, 0), (-1, 1)], [(-6, 0), (-1, 1), (1, 2)], [(6, 0), (1, 1), (-1, 2)], [(1, 1), (-1, 4)], [(-1, 1), (1, 4)]], [(91, 957, [(1, 4)]), (103, 1002, [(1, 3)]), (91, 975, [])], [(103, [(1, 1)], [(1, 3)])], [(91, 957, [(1, 4), (1, 0)])], [])
theorem xo_91 : qRok xr_91 := by
  intro ρ M h0 hf hm hI
  have f0 := hf [(1, 1)] (by decide)
  have f1 := hf [(5, 0), (-1, 1)] (by decide)
  have f2 := hf [(-6, 0), (-1, 1), (1, 2)] (by decide)
  have f3 := hf [(6, 0), (1, 1), (-1, 2)] (by decide)
  have f4 := hf [(1, 1), (-1, 4)] (by decide)
  have f5 := hf [(-1, 1), (1, 4)] (by decide)
  simp only [qD, h0] at f0 f1 f2 f3 f4 f5
  have m0 : M 91 957 = 1 * ρ 4 + 0 := hm (91, 957, [(1, 4)]) (by decide)
  have m1 : M 103 (zIx ρ (1000 + 2)) = 1 * ρ 3 + 0 := hm (103, 1002, [(1, 3)]) (by decide)
  rw [zix_p] at m1
  have m2 : M 91 975 = 0 := hm (91, 975, []) (by decide)
  have qxG2 := hI.2.2.2.2.2.2.2.2.2.2.2.2.2.2.2.2.1
  have qxG5 := hI.2.2.2.2.2.2.2.2.2.2.2.2.2.2.2.2.2.2.2.1
  have qxG6 := hI.2.2.2.2.2.2.2.2.2.2.2.2.2.2.2.2.2.2.2.2.1
  have hv : (0 : Int) ≤ M 103 (ρ 2).toNat ∧ M 103 (ρ 2).toNat ≤ 99 := hI.1 103 (ρ 2).toNat (0, 99) (xs_103 (by omega))
  refine ⟨ρ, fun _ _ => rfl, fun f h => ?_, ?_⟩
  · exact nomatch h
  · show sI (sU (sU M 103 (1 * ρ 1 + 0 : Int).toNat (1 * ρ 3 + 0)) 91 957 (1 * ρ 4 + (1 * ρ 0 + 0)))
    obtain ⟨W, hW⟩ : ∃ W, W = (sU (sU M 103 (1 * ρ 1 + 0).toNat (1 * ρ 3 + 0)) 91 957 (1 * ρ 4 + (1 * ρ 0 + 0))) := ⟨_, rfl⟩
    rw [← hW]
    have base : sI0 W := by
      rw [hW]
      exact (si_u0 (si_u0 hI.1 (fun r hr => by rw [xt_103 hr]; exact ⟨by show (0 : Int) ≤ _; omega, by show _ ≤ (99 : Int); omega⟩)) (fun r hr => by cases hr))
    have k2 : XI2 W := by
      rw [hW]
      exact (xi2_u rfl (xi2_u (sinc_ok rfl _) hI.2.1))
    have k3 : XI3 W := by
      rw [hW]
      exact (xi3_u rfl (xi3_u (sinc_ok rfl _) hI.2.2.1))
    have kXA : XA W := by
      rw [hW]
      exact (uXA rfl (uXA (sinc_ok rfl _) hI.2.2.2.1))
    have k_xN1 : xN1 W := by
      rw [hW]
      exact (uxN1 rfl (uxN1 (sinc_ok rfl _) hI.2.2.2.2.1))
    have k_xN2 : xN2 W := by
      rw [hW]
      exact (uxN2 rfl (uxN2 (sinc_ok rfl _) hI.2.2.2.2.2.1))
    have k_xN3 : xN3 W := by
      rw [hW]
      exact (uxN3 rfl (uxN3 (sinc_ok rfl _) hI.2.2.2.2.2.2.1))
    have k_xN4 : xN4 W := by
      rw [hW]
      exact (uxN4 rfl (uxN4 (sinc_ok rfl _) hI.2.2.2.2.2.2.2.1))
    have k_xN5 : xN5 W := by
      rw [hW]
      exact (uxN5 rfl (uxN5 (sinc_ok rfl _) hI.2.2.2.2.2.2.2.2.1))
    have k_xN6 : xN6 W := by
      rw [hW]
      exact (uxN6 rfl (uxN6 (sinc_ok rfl _) hI.2.2.2.2.2.2.2.2.2.1))
    have k_xH1 : xH1 W := by
      rw [hW]
      exact (uxH1 rfl (uxH1 (sinc_ok rfl _) hI.2.2.2.2.2.2.2.2.2.2.1))
    have k_xK1 : xK1 W := by
      rw [hW]
      exact (uxK1 rfl (uxK1 (sinc_ok rfl _) hI.2.2.2.2.2.2.2.2.2.2.2.1))
    have k_xC1 : xC1 W := by
      rw [hW]
      exact (uxC1 rfl (uxC1 (sinc_ok rfl _) hI.2.2.2.2.2.2.2.2.2.2.2.2.1))
    have k_xRW : xRW W := by
      rw [hW]
      exact (uxRW rfl (uxRW (sinc_ok rfl _) hI.2.2.2.2.2.2.2.2.2.2.2.2.2.1))
    have k_xWT : xWT W := by
      rw [hW]
      exact (uxWT rfl (uxWT (sinc_ok rfl _) hI.2.2.2.2.2.2.2.2.2.2.2.2.2.2.1))
    have k_xCU : xCU W := by
      rw [hW]
      exact (uxCU rfl (uxCU (sinc_ok rfl _) hI.2.2.2.2.2.2.2.2.2.2.2.2.2.2.2.1))
    have k_xG2 : xG2 W := by
      have c101 : ∀ k, W 101 k = M 101 k := fun k => by rw [hW, sU_ne (fun z => by omega), sU_ne (fun z => by omega)]
      have c103 : ∀ k : Nat, k ≠ (1 * ρ 1 + 0).toNat → W 103 k = M 103 k := fun k hk => by rw [hW, sU_ne (fun z => by omega), sU_ne (fun z => by omega)]
      have a103 : W 103 (1 * ρ 1 + 0).toNat = 1 * ρ 3 + 0 := by rw [hW, sU_ne (fun z => by omega), sU_at]
      intro g h1 h2
      rw [c101, c103 g (by omega)]
      exact qxG2 g h1 h2
    have k_xG3 : xG3 W := by
      rw [hW]
      exact (uxG3 rfl (uxG3 (sinc_ok rfl _) hI.2.2.2.2.2.2.2.2.2.2.2.2.2.2.2.2.2.1))
    have k_xG4 : xG4 W := by
      rw [hW]
      exact (uxG4 rfl (uxG4 (sinc_ok rfl _) hI.2.2.2.2.2.2.2.2.2.2.2.2.2.2.2.2.2.2.1))
    have k_xG5 : xG5 W := by
      have r91_957 : W 91 957 = 1 * ρ 4 + (1 * ρ 0 + 0) := by rw [hW, sU_at]
      have c103 : ∀ k : Nat, k ≠ (1 * ρ 1 + 0).toNat → W 103 k = M 103 k := fun k hk => by rw [hW, sU_ne (fun z => by omega), sU_ne (fun z => by omega)]
      have a103 : W 103 (1 * ρ 1 + 0).toNat = 1 * ρ 3 + 0 := by rw [hW, sU_ne (fun z => by omega), sU_at]
      intro j hj
      rw [r91_957] at hj
      by_cases hc : j = (1 * ρ 1 + 0).toNat
      · rw [hc, a103, c103 _ (by omega), show 6 + (1 * ρ 1 + 0).toNat = (ρ 2).toNat by omega, m1]
      · rw [c103 j hc, c103 (6 + j) (by omega)]
        exact qxG5 j (by omega)
    have k_xG6 : xG6 W := by
      have r91_975 : W 91 975 = M 91 975 := by rw [hW, sU_ne (fun z => by omega), sU_ne (fun z => by omega)]
      have c101 : ∀ k, W 101 k = M 101 k := fun k => by rw [hW, sU_ne (fun z => by omega), sU_ne (fun z => by omega)]
      have c103 : ∀ k : Nat, k ≠ (1 * ρ 1 + 0).toNat → W 103 k = M 103 k := fun k hk => by rw [hW, sU_ne (fun z => by omega), sU_ne (fun z => by omega)]
      have a103 : W 103 (1 * ρ 1 + 0).toNat = 1 * ρ 3 + 0 := by rw [hW, sU_ne (fun z => by omega), sU_at]
      intro h
      rw [r91_975] at h
      omega
    have k_XC : XC W := by
      rw [hW]
      exact (uXC rfl (uXC (sinc_ok rfl _) hI.2.2.2.2.2.2.2.2.2.2.2.2.2.2.2.2.2.2.2.2.2))
    have kXB : XB W := ⟨k_xN1, k_xN2, k_xN3, k_xN4, k_xN5, k_xN6, k_xH1, k_xK1, k_xC1, k_xRW, k_xWT, k_xCU, k_xG2, k_xG3, k_xG4, k_xG5, k_xG6, k_XC⟩
    exact ⟨base, k2, k3, kXA, kXB⟩
-- gSet
def xr_92 : qRu := (2, [], [], [], [(91, 949, [(1, 0)]), (91, 950, [(1, 1)]), (91, 951, []), (91, 952, [(1, 2)]), (91, 953, [(1, 3)]), (91, 954, []), (91, 955, [(1, 4)])], [[(1, 3)], [(1, 0), (-1, 3)]])
theorem xo_92 : qRok xr_92 := by
  intro ρ M h0 hf hm hI
  have qxN1 := hI.2.2.2.2.1
  have hb : 0 ≤ xop 1 (xop 0 (1 * ρ 1 + 0) 0) 1 ∧ xop 1 (xop 0 (1 * ρ 1 + 0) 0) 1 ≤ 1 := zn_and _ (by decide) (by decide)
  refine ⟨fun a => cond (Nat.blt a 2) (ρ a) (([xop 0 (1 * ρ 1 + 0) (0), xop 1 (xop 0 (1 * ρ 1 + 0) (0)) 1, xpS M (1 * ρ 1 + 0) (M 93 1).toNat] : List Int).getD (a - 2) 0), fun a ha => ?_, fun f h => ?_, ?_⟩
  · show cond (Nat.blt a 2) (ρ a) _ = ρ a
    rw [show Nat.blt a 2 = true from Nat.ble_eq_true_of_le ha]; rfl
  · have h : f ∈ ([[(1, 3)], [(1, 0), (-1, 3)]] : List qF) := h
    simp only [List.mem_cons, List.not_mem_nil, or_false] at h
    rcases h with rfl | rfl
    · show 0 ≤ 1 * (xop 1 (xop 0 (1 * ρ 1 + 0) (0)) 1) + 0
      (try rw [h0]); omega
    · show 0 ≤ 1 * ρ 0 + (-1 * (xop 1 (xop 0 (1 * ρ 1 + 0) (0)) 1) + 0)
      (try rw [h0]); omega
  · show sI (sU (sU (sU (sU (sU (sU (sU M 91 949 (1 * ρ 0 + 0)) 91 950 (1 * ρ 1 + 0)) 91 951 (0)) 91 952 (1 * (xop 0 (1 * ρ 1 + 0) (0)) + 0)) 91 953 (1 * (xop 1 (xop 0 (1 * ρ 1 + 0) (0)) 1) + 0)) 91 954 (0)) 91 955 (1 * (xpS M (1 * ρ 1 + 0) (M 93 1).toNat) + 0))
    obtain ⟨W, hW⟩ : ∃ W, W = (sU (sU (sU (sU (sU (sU (sU M 91 949 (1 * ρ 0 + 0)) 91 950 (1 * ρ 1 + 0)) 91 951 (0)) 91 952 (1 * (xop 0 (1 * ρ 1 + 0) (0)) + 0)) 91 953 (1 * (xop 1 (xop 0 (1 * ρ 1 + 0) (0)) 1) + 0)) 91 954 (0)) 91 955 (1 * (xpS M (1 * ρ 1 + 0) (M 93 1).toNat) + 0)) := ⟨_, rfl⟩
    rw [← hW]
    have base : sI0 W := by
      rw [hW]
      exact (si_u0 (si_u0 (si_u0 (si_u0 (si_u0 (si_u0 (si_u0 hI.1 (fun r hr => by cases hr)) (fun r hr => by cases hr)) (fun r hr => by cases hr)) (fun r hr => by cases hr)) (fun r hr => by cases hr)) (fun r hr => by cases hr)) (fun r hr => by cases hr))
    have k2 : XI2 W := by
      rw [hW]
      exact (xi2_u rfl (xi2_u rfl (xi2_u rfl (xi2_u rfl (xi2_u rfl (xi2_u rfl (xi2_u rfl hI.2.1)))))))
    have k3 : XI3 W := by
      rw [hW]
      exact (xi3_u rfl (xi3_u rfl (xi3_u rfl (xi3_u rfl (xi3_u rfl (xi3_u rfl (xi3_u rfl hI.2.2.1)))))))
    have kXA : XA W := by
      rw [hW]
      exact (uXA rfl (uXA rfl (uXA rfl (uXA rfl (uXA rfl (uXA rfl (uXA rfl hI.2.2.2.1)))))))
    have k_xN1 : xN1 W := by
      have r91_949 : W 91 949 = 1 * ρ 0 + 0 := by rw [hW, sU_ne (fun z => by omega), sU_ne (fun z => by omega), sU_ne (fun z => by omega), sU_ne (fun z => by omega), sU_ne (fun z => by omega), sU_ne (fun z => by omega), sU_at]
      have r91_950 : W 91 950 = 1 * ρ 1 + 0 := by rw [hW, sU_ne (fun z => by omega), sU_ne (fun z => by omega), sU_ne (fun z => by omega), sU_ne (fun z => by omega), sU_ne (fun z => by omega), sU_at]
      have r91_951 : W 91 951 = 0 := by rw [hW, sU_ne (fun z => by omega), sU_ne (fun z => by omega), sU_ne (fun z => by omega), sU_ne (fun z => by omega), sU_at]
      have r91_952 : W 91 952 = 1 * (xop 0 (1 * ρ 1 + 0) (0)) + 0 := by rw [hW, sU_ne (fun z => by omega), sU_ne (fun z => by omega), sU_ne (fun z => by omega), sU_at]
      have r91_953 : W 91 953 = 1 * (xop 1 (xop 0 (1 * ρ 1 + 0) (0)) 1) + 0 := by rw [hW, sU_ne (fun z => by omega), sU_ne (fun z => by omega), sU_at]
      have r91_954 : W 91 954 = 0 := by rw [hW, sU_ne (fun z => by omega), sU_at]
      have r91_955 : W 91 955 = 1 * (xpS M (1 * ρ 1 + 0) (M 93 1).toNat) + 0 := by rw [hW, sU_at]
      have r93_1 : W 93 1 = M 93 1 := by rw [hW, sU_ne (fun z => by omega), sU_ne (fun z => by omega), sU_ne (fun z => by omega), sU_ne (fun z => by omega), sU_ne (fun z => by omega), sU_ne (fun z => by omega), sU_ne (fun z => by omega)]
      have c101 : ∀ k, W 101 k = M 101 k := fun k => by rw [hW, sU_ne (fun z => by omega), sU_ne (fun z => by omega), sU_ne (fun z => by omega), sU_ne (fun z => by omega), sU_ne (fun z => by omega), sU_ne (fun z => by omega), sU_ne (fun z => by omega)]
      intro h
      rw [r91_950, r91_951, r91_952, r91_953, r91_954, r91_955, r93_1]

      repeat rw [x10]
      rw [xps_c c101, xps_c c101]
      exact ⟨by omega, rfl, rfl, rfl, rfl⟩
    have k_xN2 : xN2 W := by
      rw [hW]
      exact (uxN2 rfl (uxN2 rfl (uxN2 rfl (uxN2 rfl (uxN2 rfl (uxN2 rfl (uxN2 rfl hI.2.2.2.2.2.1)))))))
    have k_xN3 : xN3 W := by
      rw [hW]
      exact (uxN3 rfl (uxN3 rfl (uxN3 rfl (uxN3 rfl (uxN3 rfl (uxN3 rfl (uxN3 rfl hI.2.2.2.2.2.2.1)))))))
    have k_xN4 : xN4 W := by
      rw [hW]
      exact (uxN4 rfl (uxN4 rfl (uxN4 rfl (uxN4 rfl (uxN4 rfl (uxN4 rfl (uxN4 rfl hI.2.2.2.2.2.2.2.1)))))))
    have k_xN5 : xN5 W := by
      rw [hW]
      exact (uxN5 rfl (uxN5 rfl (uxN5 rfl (uxN5 rfl (uxN5 rfl (uxN5 rfl (uxN5 rfl hI.2.2.2.2.2.2.2.2.1)))))))
    have k_xN6 : xN6 W := by
      rw [hW]
      exact (uxN6 rfl (uxN6 rfl (uxN6 rfl (uxN6 rfl (uxN6 rfl (uxN6 rfl (uxN6 rfl hI.2.2.2.2.2.2.2.2.2.1)))))))
    have k_xH1 : xH1 W := by
      rw [hW]
      exact (uxH1 rfl (uxH1 rfl (uxH1 rfl (uxH1 rfl (uxH1 rfl (uxH1 rfl (uxH1 rfl hI.2.2.2.2.2.2.2.2.2.2.1)))))))
    have k_xK1 : xK1 W := by
      rw [hW]
      exact (uxK1 rfl (uxK1 rfl (uxK1 rfl (uxK1 rfl (uxK1 rfl (uxK1 rfl (uxK1 rfl hI.2.2.2.2.2.2.2.2.2.2.2.1)))))))
    have k_xC1 : xC1 W := by
      rw [hW]
      exact (uxC1 rfl (uxC1 rfl (uxC1 rfl (uxC1 rfl (uxC1 rfl (uxC1 rfl (uxC1 rfl hI.2.2.2.2.2.2.2.2.2.2.2.2.1)))))))
    have k_xRW : xRW W := by
      rw [hW]
      exact (uxRW rfl (uxRW rfl (uxRW rfl (uxRW rfl (uxRW rfl (uxRW rfl (uxRW rfl hI.2.2.2.2.2.2.2.2.2.2.2.2.2.1)))))))
    have k_xWT : xWT W := by
      rw [hW]
      exact (uxWT rfl (uxWT rfl (uxWT rfl (uxWT rfl (uxWT rfl (uxWT rfl (uxWT rfl hI.2.2.2.2.2.2.2.2.2.2.2.2.2.2.1)))))))
    have k_xCU : xCU W := by
      rw [hW]
      exact (uxCU rfl (uxCU rfl (uxCU rfl (uxCU rfl (uxCU rfl (uxCU rfl (uxCU rfl hI.2.2.2.2.2.2.2.2.2.2.2.2.2.2.2.1)))))))
    have k_xG2 : xG2 W := by
      rw [hW]
      exact (uxG2 rfl (uxG2 rfl (uxG2 rfl (uxG2 rfl (uxG2 rfl (uxG2 rfl (uxG2 rfl hI.2.2.2.2.2.2.2.2.2.2.2.2.2.2.2.2.1)))))))
    have k_xG3 : xG3 W := by
      rw [hW]
      exact (uxG3 rfl (uxG3 rfl (uxG3 rfl (uxG3 rfl (uxG3 rfl (uxG3 rfl (uxG3 rfl hI.2.2.2.2.2.2.2.2.2.2.2.2.2.2.2.2.2.1)))))))
    have k_xG4 : xG4 W := by
      rw [hW]
      exact (uxG4 rfl (uxG4 rfl (uxG4 rfl (uxG4 rfl (uxG4 rfl (uxG4 rfl (uxG4 rfl hI.2.2.2.2.2.2.2.2.2.2.2.2.2.2.2.2.2.2.1)))))))
    have k_xG5 : xG5 W := by
      rw [hW]
      exact (uxG5 rfl (uxG5 rfl (uxG5 rfl (uxG5 rfl (uxG5 rfl (uxG5 rfl (uxG5 rfl hI.2.2.2.2.2.2.2.2.2.2.2.2.2.2.2.2.2.2.2.1)))))))
    have k_xG6 : xG6 W := by
      rw [hW]
      exact (uxG6 rfl (uxG6 rfl (uxG6 rfl (uxG6 rfl (uxG6 rfl (uxG6 rfl (uxG6 rfl hI.2.2.2.2.2.2.2.2.2.2.2.2.2.2.2.2.2.2.2.2.1)))))))
    have k_XC : XC W := by
      rw [hW]
      exact (uXC rfl (uXC rfl (uXC rfl (uXC rfl (uXC rfl (uXC rfl (uXC rfl hI.2.2.2.2.2.2.2.2.2.2.2.2.2.2.2.2.2.2.2.2.2)))))))
    have kXB : XB W := ⟨k_xN1, k_xN2, k_xN3, k_xN4, k_xN5, k_xN6, k_xH1, k_xK1, k_xC1, k_xRW, k_xWT, k_xCU, k_xG2, k_xG3, k_xG4, k_xG5, k_xG6, k_XC⟩
    exact ⟨base, k2, k3, kXA, kXB⟩
-- gReset
def xr_93 : qRu := (2, [], [(91, 949, [(1, 0)]), (91, 950, [(1, 1)])], [], [(91, 951, []), (91, 952, [(1, 2)]), (91, 953, [(1, 3)]), (91, 954, [])], [[(1, 3)], [(1, 0), (-1, 3)]])
theorem xo_93 : qRok xr_93 := by
  intro ρ M h0 hf hm hI
  have m0 : M 91 949 = 1 * ρ 0 + 0 := hm (91, 949, [(1, 0)]) (by decide)
  have m1 : M 91 950 = 1 * ρ 1 + 0 := hm (91, 950, [(1, 1)]) (by decide)
  simp only [h0] at m0
  have qxN1 := hI.2.2.2.2.1
  have hb : 0 ≤ xop 1 (xop 0 (ρ 1) 0) 1 ∧ xop 1 (xop 0 (ρ 1) 0) 1 ≤ 1 := zn_and _ (by decide) (by decide)
  refine ⟨fun a => cond (Nat.blt a 2) (ρ a) (([xop 0 (ρ 1) (0), xop 1 (xop 0 (ρ 1) (0)) 1] : List Int).getD (a - 2) 0), fun a ha => ?_, fun f h => ?_, ?_⟩
  · show cond (Nat.blt a 2) (ρ a) _ = ρ a
    rw [show Nat.blt a 2 = true from Nat.ble_eq_true_of_le ha]; rfl
  · have h : f ∈ ([[(1, 3)], [(1, 0), (-1, 3)]] : List qF) := h
    simp only [List.mem_cons, List.not_mem_nil, or_false] at h
    rcases h with rfl | rfl
    · show 0 ≤ 1 * (xop 1 (xop 0 (ρ 1) (0)) 1) + 0
      (try rw [h0]); omega
    · show 0 ≤ 1 * ρ 0 + (-1 * (xop 1 (xop 0 (ρ 1) (0)) 1) + 0)
      (try rw [h0]); omega
  · show sI (sU (sU (sU (sU M 91 951 (0)) 91 952 (1 * (xop 0 (ρ 1) (0)) + 0)) 91 953 (1 * (xop 1 (xop 0 (ρ 1) (0)) 1) + 0)) 91 954 (0))
    obtain ⟨W, hW⟩ : ∃ W, W = (sU (sU (sU (sU M 91 951 (0)) 91 952 (1 * (xop 0 (ρ 1) (0)) + 0)) 91 953 (1 * (xop 1 (xop 0 (ρ 1) (0)) 1) + 0)) 91 954 (0)) := ⟨_, rfl⟩
    rw [← hW]
    have base : sI0 W := by
      rw [hW]
      exact (si_u0 (si_u0 (si_u0 (si_u0 hI.1 (fun r hr => by cases hr)) (fun r hr => by cases hr)) (fun r hr => by cases hr)) (fun r hr => by cases hr))
    have k2 : XI2 W := by
      rw [hW]
      exact (xi2_u rfl (xi2_u rfl (xi2_u rfl (xi2_u rfl hI.2.1))))
    have k3 : XI3 W := by
      rw [hW]
      exact (xi3_u rfl (xi3_u rfl (xi3_u rfl (xi3_u rfl hI.2.2.1))))
    have kXA : XA W := by
      rw [hW]
      exact (uXA rfl (uXA rfl (uXA rfl (uXA rfl hI.2.2.2.1))))
    have k_xN1 : xN1 W := by
      have r91_949 : W 91 949 = M 91 949 := by rw [hW, sU_ne (fun z => by omega), sU_ne (fun z => by omega), sU_ne (fun z => by omega), sU_ne (fun z => by omega)]
      have r91_950 : W 91 950 = M 91 950 := by rw [hW, sU_ne (fun z => by omega), sU_ne (fun z => by omega), sU_ne (fun z => by omega), sU_ne (fun z => by omega)]
      have r91_951 : W 91 951 = 0 := by rw [hW, sU_ne (fun z => by omega), sU_ne (fun z => by omega), sU_ne (fun z => by omega), sU_at]
      have r91_952 : W 91 952 = 1 * (xop 0 (ρ 1) (0)) + 0 := by rw [hW, sU_ne (fun z => by omega), sU_ne (fun z => by omega), sU_at]
      have r91_953 : W 91 953 = 1 * (xop 1 (xop 0 (ρ 1) (0)) 1) + 0 := by rw [hW, sU_ne (fun z => by omega), sU_at]
      have r91_954 : W 91 954 = 0 := by rw [hW, sU_at]
      have r91_955 : W 91 955 = M 91 955 := by rw [hW, sU_ne (fun z => by omega), sU_ne (fun z => by omega), sU_ne (fun z => by omega), sU_ne (fun z => by omega)]
      have r93_1 : W 93 1 = M 93 1 := by rw [hW, sU_ne (fun z => by omega), sU_ne (fun z => by omega), sU_ne (fun z => by omega), sU_ne (fun z => by omega)]
      have c101 : ∀ k, W 101 k = M 101 k := fun k => by rw [hW, sU_ne (fun z => by omega), sU_ne (fun z => by omega), sU_ne (fun z => by omega), sU_ne (fun z => by omega)]
      intro h
      rw [r91_950, r91_951, r91_952, r91_953, r91_954, r91_955, r93_1]

      have h9 := qxN1 (by omega)
      repeat rw [x10]
      rw [xps_c c101, xps_c c101, show M 91 950 = ρ 1 by omega]
      rw [show M 91 950 = ρ 1 by omega] at h9
      exact ⟨by omega, rfl, rfl, rfl, h9.2.2.2.2⟩
    have k_xN2 : xN2 W := by
      rw [hW]
      exact (uxN2 rfl (uxN2 rfl (uxN2 rfl (uxN2 rfl hI.2.2.2.2.2.1))))
    have k_xN3 : xN3 W := by
      rw [hW]
      exact (uxN3 rfl (uxN3 rfl (uxN3 rfl (uxN3 rfl hI.2.2.2.2.2.2.1))))
    have k_xN4 : xN4 W := by
      rw [hW]
      exact (uxN4 rfl (uxN4 rfl (uxN4 rfl (uxN4 rfl hI.2.2.2.2.2.2.2.1))))
    have k_xN5 : xN5 W := by
      rw [hW]
      exact (uxN5 rfl (uxN5 rfl (uxN5 rfl (uxN5 rfl hI.2.2.2.2.2.2.2.2.1))))
    have k_xN6 : xN6 W := by
      rw [hW]
      exact (uxN6 rfl (uxN6 rfl (uxN6 rfl (uxN6 rfl hI.2.2.2.2.2.2.2.2.2.1))))
    have k_xH1 : xH1 W := by
      rw [hW]
      exact (uxH1 rfl (uxH1 rfl (uxH1 rfl (uxH1 rfl hI.2.2.2.2.2.2.2.2.2.2.1))))
    have k_xK1 : xK1 W := by
      rw [hW]
      exact (uxK1 rfl (uxK1 rfl (uxK1 rfl (uxK1 rfl hI.2.2.2.2.2.2.2.2.2.2.2.1))))
    have k_xC1 : xC1 W := by
      rw [hW]
      exact (uxC1 rfl (uxC1 rfl (uxC1 rfl (uxC1 rfl hI.2.2.2.2.2.2.2.2.2.2.2.2.1))))
    have k_xRW : xRW W := by
      rw [hW]
      exact (uxRW rfl (uxRW rfl (uxRW rfl (uxRW rfl hI.2.2.2.2.2.2.2.2.2.2.2.2.2.1))))
    have k_xWT : xWT W := by
      rw [hW]
      exact (uxWT rfl (uxWT rfl (uxWT rfl (uxWT rfl hI.2.2.2.2.2.2.2.2.2.2.2.2.2.2.1))))
    have k_xCU : xCU W := by
      rw [hW]
      exact (uxCU rfl (uxCU rfl (uxCU rfl (uxCU rfl hI.2.2.2.2.2.2.2.2.2.2.2.2.2.2.2.1))))
    have k_xG2 : xG2 W := by
      rw [hW]
      exact (uxG2 rfl (uxG2 rfl (uxG2 rfl (uxG2 rfl hI.2.2.2.2.2.2.2.2.2.2.2.2.2.2.2.2.1))))
    have k_xG3 : xG3 W := by
      rw [hW]
      exact (uxG3 rfl (uxG3 rfl (uxG3 rfl (uxG3 rfl hI.2.2.2.2.2.2.2.2.2.2.2.2.2.2.2.2.2.1))))
    have k_xG4 : xG4 W := by
      rw [hW]
      exact (uxG4 rfl (uxG4 rfl (uxG4 rfl (uxG4 rfl hI.2.2.2.2.2.2.2.2.2.2.2.2.2.2.2.2.2.2.1))))
    have k_xG5 : xG5 W := by
      rw [hW]
      exact (uxG5 rfl (uxG5 rfl (uxG5 rfl (uxG5 rfl hI.2.2.2.2.2.2.2.2.2.2.2.2.2.2.2.2.2.2.2.1))))
    have k_xG6 : xG6 W := by
      rw [hW]
      exact (uxG6 rfl (uxG6 rfl (uxG6 rfl (uxG6 rfl hI.2.2.2.2.2.2.2.2.2.2.2.2.2.2.2.2.2.2.2.2.1))))
    have k_XC : XC W := by
      rw [hW]
      exact (uXC rfl (uXC rfl (uXC rfl (uXC rfl hI.2.2.2.2.2.2.2.2.2.2.2.2.2.2.2.2.2.2.2.2.2))))
    have kXB : XB W := ⟨k_xN1, k_xN2, k_xN3, k_xN4, k_xN5, k_xN6, k_xH1, k_xK1, k_xC1, k_xRW, k_xWT, k_xCU, k_xG2, k_xG3, k_xG4, k_xG5, k_xG6, k_XC⟩
    exact ⟨base, k2, k3, kXA, kXB⟩
-- fOn
def xr_94 : qRu := (1, [], [], [], [(91, 926, [(1, 0)])], [])
theorem xo_94 : qRok xr_94 := by
  intro ρ M h0 hf hm hI
  refine ⟨ρ, fun _ _ => rfl, fun f h => ?_, ?_⟩
  · exact nomatch h
  · show sI (sU M 91 926 (1 * ρ 0 + 0))
    obtain ⟨W, hW⟩ : ∃ W, W = (sU M 91 926 (1 * ρ 0 + 0)) := ⟨_, rfl⟩
    rw [← hW]
    have base : sI0 W := by
      rw [hW]
      exact (si_u0 hI.1 (fun r hr => by cases hr))
    have k2 : XI2 W := by
      rw [hW]
      exact (xi2_u rfl hI.2.1)
    have k3 : XI3 W := by
      rw [hW]
      exact (xi3_u rfl hI.2.2.1)
    have kXA : XA W := by
      rw [hW]
      exact (uXA rfl hI.2.2.2.1)
    have kXB : XB W := by
      rw [hW]
      exact (uXB rfl hI.2.2.2.2)
    exact ⟨base, k2, k3, kXA, kXB⟩
-- gStep0
def xr_95 : qRu := (5, [[(-1, 3)]], [(91, 949, [(1, 0)]), (91, 950, [(1, 1)]), (91, 951, [(1, 2)]), (91, 953, [(1, 3)]), (91, 954, [(1, 4)])], [], [(91, 951, [(1, 2), (1, 0)]), (91, 952, [(1, 5)]), (91, 953, [(1, 6)]), (91, 954, [(1, 4)])], [[(1, 6)], [(1, 0), (-1, 6)]])
theorem xo_95 : qRok xr_95 := by
  intro ρ M h0 hf hm hI
  have f0 := hf [(-1, 3)] (by decide)
  simp only [qD, h0] at f0
  have m0 : M 91 949 = 1 * ρ 0 + 0 := hm (91, 949, [(1, 0)]) (by decide)
  have m1 : M 91 950 = 1 * ρ 1 + 0 := hm (91, 950, [(1, 1)]) (by decide)
  have m2 : M 91 951 = 1 * ρ 2 + 0 := hm (91, 951, [(1, 2)]) (by decide)
  have m3 : M 91 953 = 1 * ρ 3 + 0 := hm (91, 953, [(1, 3)]) (by decide)
  have m4 : M 91 954 = 1 * ρ 4 + 0 := hm (91, 954, [(1, 4)]) (by decide)
  simp only [h0] at m0
  have qxN1 := hI.2.2.2.2.1
  have hb : 0 ≤ xop 1 (xop 0 (ρ 1) (1 * ρ 2 + (1 * 1 + 0))) 1 ∧ xop 1 (xop 0 (ρ 1) (1 * ρ 2 + (1 * 1 + 0))) 1 ≤ 1 := zn_and _ (by decide) (by decide)
  refine ⟨fun a => cond (Nat.blt a 5) (ρ a) (([xop 0 (ρ 1) (1 * ρ 2 + (1 * 1 + 0)), xop 1 (xop 0 (ρ 1) (1 * ρ 2 + (1 * 1 + 0))) 1] : List Int).getD (a - 5) 0), fun a ha => ?_, fun f h => ?_, ?_⟩
  · show cond (Nat.blt a 5) (ρ a) _ = ρ a
    rw [show Nat.blt a 5 = true from Nat.ble_eq_true_of_le ha]; rfl
  · have h : f ∈ ([[(1, 6)], [(1, 0), (-1, 6)]] : List qF) := h
    simp only [List.mem_cons, List.not_mem_nil, or_false] at h
    rcases h with rfl | rfl
    · show 0 ≤ 1 * (xop 1 (xop 0 (ρ 1) (1 * ρ 2 + (1 * 1 + 0))) 1) + 0
      (try rw [h0]); omega
    · show 0 ≤ 1 * ρ 0 + (-1 * (xop 1 (xop 0 (ρ 1) (1 * ρ 2 + (1 * 1 + 0))) 1) + 0)
      (try rw [h0]); omega
  · show sI (sU (sU (sU (sU M 91 951 (1 * ρ 2 + (1 * ρ 0 + 0))) 91 952 (1 * (xop 0 (ρ 1) (1 * ρ 2 + (1 * 1 + 0))) + 0)) 91 953 (1 * (xop 1 (xop 0 (ρ 1) (1 * ρ 2 + (1 * 1 + 0))) 1) + 0)) 91 954 (1 * ρ 4 + 0))
    obtain ⟨W, hW⟩ : ∃ W, W = (sU (sU (sU (sU M 91 951 (1 * ρ 2 + (1 * ρ 0 + 0))) 91 952 (1 * (xop 0 (ρ 1) (1 * ρ 2 + (1 * 1 + 0))) + 0)) 91 953 (1 * (xop 1 (xop 0 (ρ 1) (1 * ρ 2 + (1 * 1 + 0))) 1) + 0)) 91 954 (1 * ρ 4 + 0)) := ⟨_, rfl⟩
    rw [← hW]
    have base : sI0 W := by
      rw [hW]
      exact (si_u0 (si_u0 (si_u0 (si_u0 hI.1 (fun r hr => by cases hr)) (fun r hr => by cases hr)) (fun r hr => by cases hr)) (fun r hr => by cases hr))
    have k2 : XI2 W := by
      rw [hW]
      exact (xi2_u rfl (xi2_u rfl (xi2_u rfl (xi2_u rfl hI.2.1))))
    have k3 : XI3 W := by
      rw [hW]
      exact (xi3_u rfl (xi3_u rfl (xi3_u rfl (xi3_u rfl hI.2.2.1))))
    have kXA : XA W := by
      rw [hW]
      exact (uXA rfl (uXA rfl (uXA rfl (uXA rfl hI.2.2.2.1))))
    have k_xN1 : xN1 W := by
      have r91_949 : W 91 949 = M 91 949 := by rw [hW, sU_ne (fun z => by omega), sU_ne (fun z => by omega), sU_ne (fun z => by omega), sU_ne (fun z => by omega)]
      have r91_950 : W 91 950 = M 91 950 := by rw [hW, sU_ne (fun z => by omega), sU_ne (fun z => by omega), sU_ne (fun z => by omega), sU_ne (fun z => by omega)]
      have r91_951 : W 91 951 = 1 * ρ 2 + (1 * ρ 0 + 0) := by rw [hW, sU_ne (fun z => by omega), sU_ne (fun z => by omega), sU_ne (fun z => by omega), sU_at]
      have r91_952 : W 91 952 = 1 * (xop 0 (ρ 1) (1 * ρ 2 + (1 * 1 + 0))) + 0 := by rw [hW, sU_ne (fun z => by omega), sU_ne (fun z => by omega), sU_at]
      have r91_953 : W 91 953 = 1 * (xop 1 (xop 0 (ρ 1) (1 * ρ 2 + (1 * 1 + 0))) 1) + 0 := by rw [hW, sU_ne (fun z => by omega), sU_at]
      have r91_954 : W 91 954 = 1 * ρ 4 + 0 := by rw [hW, sU_at]
      have r91_955 : W 91 955 = M 91 955 := by rw [hW, sU_ne (fun z => by omega), sU_ne (fun z => by omega), sU_ne (fun z => by omega), sU_ne (fun z => by omega)]
      have r93_1 : W 93 1 = M 93 1 := by rw [hW, sU_ne (fun z => by omega), sU_ne (fun z => by omega), sU_ne (fun z => by omega), sU_ne (fun z => by omega)]
      have c101 : ∀ k, W 101 k = M 101 k := fun k => by rw [hW, sU_ne (fun z => by omega), sU_ne (fun z => by omega), sU_ne (fun z => by omega), sU_ne (fun z => by omega)]
      intro h
      rw [r91_950, r91_951, r91_952, r91_953, r91_954, r91_955, r93_1]

      have h9 := qxN1 (by omega)
      rw [h0]
      repeat rw [x10]
      rw [xps_c c101, xps_c c101, show M 91 950 = ρ 1 by omega, show (1 * ρ 2 + 1).toNat = (M 91 951).toNat + 1 by omega]
      rw [show M 91 950 = ρ 1 by omega] at h9
      refine ⟨by omega, rfl, rfl, ?_, h9.2.2.2.2⟩
      show _ = xpS M (ρ 1) (M 91 951).toNat + (if xop 1 (xop 0 (ρ 1) ((M 91 951).toNat : Int)) 1 = 1 then M 101 (M 91 951).toNat else 0)
      rw [← h9.2.2.2.1, show (((M 91 951).toNat : Nat) : Int) = M 91 951 by omega, ← h9.2.1, ← h9.2.2.1]
      rw [if_neg (by omega)]
      omega
    have k_xN2 : xN2 W := by
      rw [hW]
      exact (uxN2 rfl (uxN2 rfl (uxN2 rfl (uxN2 rfl hI.2.2.2.2.2.1))))
    have k_xN3 : xN3 W := by
      rw [hW]
      exact (uxN3 rfl (uxN3 rfl (uxN3 rfl (uxN3 rfl hI.2.2.2.2.2.2.1))))
    have k_xN4 : xN4 W := by
      rw [hW]
      exact (uxN4 rfl (uxN4 rfl (uxN4 rfl (uxN4 rfl hI.2.2.2.2.2.2.2.1))))
    have k_xN5 : xN5 W := by
      rw [hW]
      exact (uxN5 rfl (uxN5 rfl (uxN5 rfl (uxN5 rfl hI.2.2.2.2.2.2.2.2.1))))
    have k_xN6 : xN6 W := by
      rw [hW]
      exact (uxN6 rfl (uxN6 rfl (uxN6 rfl (uxN6 rfl hI.2.2.2.2.2.2.2.2.2.1))))
    have k_xH1 : xH1 W := by
      rw [hW]
      exact (uxH1 rfl (uxH1 rfl (uxH1 rfl (uxH1 rfl hI.2.2.2.2.2.2.2.2.2.2.1))))
    have k_xK1 : xK1 W := by
      rw [hW]
      exact (uxK1 rfl (uxK1 rfl (uxK1 rfl (uxK1 rfl hI.2.2.2.2.2.2.2.2.2.2.2.1))))
    have k_xC1 : xC1 W := by
      rw [hW]
      exact (uxC1 rfl (uxC1 rfl (uxC1 rfl (uxC1 rfl hI.2.2.2.2.2.2.2.2.2.2.2.2.1))))
    have k_xRW : xRW W := by
      rw [hW]
      exact (uxRW rfl (uxRW rfl (uxRW rfl (uxRW rfl hI.2.2.2.2.2.2.2.2.2.2.2.2.2.1))))
    have k_xWT : xWT W := by
      rw [hW]
      exact (uxWT rfl (uxWT rfl (uxWT rfl (uxWT rfl hI.2.2.2.2.2.2.2.2.2.2.2.2.2.2.1))))
    have k_xCU : xCU W := by
      rw [hW]
      exact (uxCU rfl (uxCU rfl (uxCU rfl (uxCU rfl hI.2.2.2.2.2.2.2.2.2.2.2.2.2.2.2.1))))
    have k_xG2 : xG2 W := by
      rw [hW]
      exact (uxG2 rfl (uxG2 rfl (uxG2 rfl (uxG2 rfl hI.2.2.2.2.2.2.2.2.2.2.2.2.2.2.2.2.1))))
    have k_xG3 : xG3 W := by
      rw [hW]
      exact (uxG3 rfl (uxG3 rfl (uxG3 rfl (uxG3 rfl hI.2.2.2.2.2.2.2.2.2.2.2.2.2.2.2.2.2.1))))
    have k_xG4 : xG4 W := by
      rw [hW]
      exact (uxG4 rfl (uxG4 rfl (uxG4 rfl (uxG4 rfl hI.2.2.2.2.2.2.2.2.2.2.2.2.2.2.2.2.2.2.1))))
    have k_xG5 : xG5 W := by
      rw [hW]
      exact (uxG5 rfl (uxG5 rfl (uxG5 rfl (uxG5 rfl hI.2.2.2.2.2.2.2.2.2.2.2.2.2.2.2.2.2.2.2.1))))
    have k_xG6 : xG6 W := by
      rw [hW]
      exact (uxG6 rfl (uxG6 rfl (uxG6 rfl (uxG6 rfl hI.2.2.2.2.2.2.2.2.2.2.2.2.2.2.2.2.2.2.2.2.1))))
    have k_XC : XC W := by
      rw [hW]
      exact (uXC rfl (uXC rfl (uXC rfl (uXC rfl hI.2.2.2.2.2.2.2.2.2.2.2.2.2.2.2.2.2.2.2.2.2))))
    have kXB : XB W := ⟨k_xN1, k_xN2, k_xN3, k_xN4, k_xN5, k_xN6, k_xH1, k_xK1, k_xC1, k_xRW, k_xWT, k_xCU, k_xG2, k_xG3, k_xG4, k_xG5, k_xG6, k_XC⟩
    exact ⟨base, k2, k3, kXA, kXB⟩
-- gStepW
def xr_96 : qRu := (7, [[(-1, 0), (1, 3)], [(1, 0), (-1, 3)], [(-1, 2), (1, 6)], [(1, 2), (-1, 6)]], [(91, 949, [(1, 0)]), (91, 950, [(1, 1)]), (91, 951, [(1, 2)]), (91, 953, [(1, 3)]), (91, 954, [(1, 4)]), (101, 1006, [(1, 5)])], [], [(91, 951, [(1, 2), (1, 0)]), (91, 952, [(1, 7)]), (91, 953, [(1, 8)]), (91, 954, [(1, 4), (1, 5)])], [[(1, 8)], [(1, 0), (-1, 8)]])
theorem xo_96 : qRok xr_96 := by
  intro ρ M h0 hf hm hI
  have f0 := hf [(-1, 0), (1, 3)] (by decide)
  have f1 := hf [(1, 0), (-1, 3)] (by decide)
  have f2 := hf [(-1, 2), (1, 6)] (by decide)
  have f3 := hf [(1, 2), (-1, 6)] (by decide)
  simp only [qD, h0] at f0 f1 f2 f3
  have m0 : M 91 949 = 1 * ρ 0 + 0 := hm (91, 949, [(1, 0)]) (by decide)
  have m1 : M 91 950 = 1 * ρ 1 + 0 := hm (91, 950, [(1, 1)]) (by decide)
  have m2 : M 91 951 = 1 * ρ 2 + 0 := hm (91, 951, [(1, 2)]) (by decide)
  have m3 : M 91 953 = 1 * ρ 3 + 0 := hm (91, 953, [(1, 3)]) (by decide)
  have m4 : M 91 954 = 1 * ρ 4 + 0 := hm (91, 954, [(1, 4)]) (by decide)
  have m5 : M 101 (zIx ρ (1000 + 6)) = 1 * ρ 5 + 0 := hm (101, 1006, [(1, 5)]) (by decide)
  rw [zix_p] at m5
  simp only [h0] at m0
  have qxN1 := hI.2.2.2.2.1
  have hb : 0 ≤ xop 1 (xop 0 (ρ 1) (1 * ρ 2 + (1 * 1 + 0))) 1 ∧ xop 1 (xop 0 (ρ 1) (1 * ρ 2 + (1 * 1 + 0))) 1 ≤ 1 := zn_and _ (by decide) (by decide)
  refine ⟨fun a => cond (Nat.blt a 7) (ρ a) (([xop 0 (ρ 1) (1 * ρ 2 + (1 * 1 + 0)), xop 1 (xop 0 (ρ 1) (1 * ρ 2 + (1 * 1 + 0))) 1] : List Int).getD (a - 7) 0), fun a ha => ?_, fun f h => ?_, ?_⟩
  · show cond (Nat.blt a 7) (ρ a) _ = ρ a
    rw [show Nat.blt a 7 = true from Nat.ble_eq_true_of_le ha]; rfl
  · have h : f ∈ ([[(1, 8)], [(1, 0), (-1, 8)]] : List qF) := h
    simp only [List.mem_cons, List.not_mem_nil, or_false] at h
    rcases h with rfl | rfl
    · show 0 ≤ 1 * (xop 1 (xop 0 (ρ 1) (1 * ρ 2 + (1 * 1 + 0))) 1) + 0
      (try rw [h0]); omega
    · show 0 ≤ 1 * ρ 0 + (-1 * (xop 1 (xop 0 (ρ 1) (1 * ρ 2 + (1 * 1 + 0))) 1) + 0)
      (try rw [h0]); omega
  · show sI (sU (sU (sU (sU M 91 951 (1 * ρ 2 + (1 * ρ 0 + 0))) 91 952 (1 * (xop 0 (ρ 1) (1 * ρ 2 + (1 * 1 + 0))) + 0)) 91 953 (1 * (xop 1 (xop 0 (ρ 1) (1 * ρ 2 + (1 * 1 + 0))) 1) + 0)) 91 954 (1 * ρ 4 + (1 * ρ 5 + 0)))
    obtain ⟨W, hW⟩ : ∃ W, W = (sU (sU (sU (sU M 91 951 (1 * ρ 2 + (1 * ρ 0 + 0))) 91 952 (1 * (xop 0 (ρ 1) (1 * ρ 2 + (1 * 1 + 0))) + 0)) 91 953 (1 * (xop 1 (xop 0 (ρ 1) (1 * ρ 2 + (1 * 1 + 0))) 1) + 0)) 91 954 (1 * ρ 4 + (1 * ρ 5 + 0))) := ⟨_, rfl⟩
    rw [← hW]
    have base : sI0 W := by
      rw [hW]
      exact (si_u0 (si_u0 (si_u0 (si_u0 hI.1 (fun r hr => by cases hr)) (fun r hr => by cases hr)) (fun r hr => by cases hr)) (fun r hr => by cases hr))
    have k2 : XI2 W := by
      rw [hW]
      exact (xi2_u rfl (xi2_u rfl (xi2_u rfl (xi2_u rfl hI.2.1))))
    have k3 : XI3 W := by
      rw [hW]
      exact (xi3_u rfl (xi3_u rfl (xi3_u rfl (xi3_u rfl hI.2.2.1))))
    have kXA : XA W := by
      rw [hW]
      exact (uXA rfl (uXA rfl (uXA rfl (uXA rfl hI.2.2.2.1))))
    have k_xN1 : xN1 W := by
      have r91_949 : W 91 949 = M 91 949 := by rw [hW, sU_ne (fun z => by omega), sU_ne (fun z => by omega), sU_ne (fun z => by omega), sU_ne (fun z => by omega)]
      have r91_950 : W 91 950 = M 91 950 := by rw [hW, sU_ne (fun z => by omega), sU_ne (fun z => by omega), sU_ne (fun z => by omega), sU_ne (fun z => by omega)]
      have r91_951 : W 91 951 = 1 * ρ 2 + (1 * ρ 0 + 0) := by rw [hW, sU_ne (fun z => by omega), sU_ne (fun z => by omega), sU_ne (fun z => by omega), sU_at]
      have r91_952 : W 91 952 = 1 * (xop 0 (ρ 1) (1 * ρ 2 + (1 * 1 + 0))) + 0 := by rw [hW, sU_ne (fun z => by omega), sU_ne (fun z => by omega), sU_at]
      have r91_953 : W 91 953 = 1 * (xop 1 (xop 0 (ρ 1) (1 * ρ 2 + (1 * 1 + 0))) 1) + 0 := by rw [hW, sU_ne (fun z => by omega), sU_at]
      have r91_954 : W 91 954 = 1 * ρ 4 + (1 * ρ 5 + 0) := by rw [hW, sU_at]
      have r91_955 : W 91 955 = M 91 955 := by rw [hW, sU_ne (fun z => by omega), sU_ne (fun z => by omega), sU_ne (fun z => by omega), sU_ne (fun z => by omega)]
      have r93_1 : W 93 1 = M 93 1 := by rw [hW, sU_ne (fun z => by omega), sU_ne (fun z => by omega), sU_ne (fun z => by omega), sU_ne (fun z => by omega)]
      have c101 : ∀ k, W 101 k = M 101 k := fun k => by rw [hW, sU_ne (fun z => by omega), sU_ne (fun z => by omega), sU_ne (fun z => by omega), sU_ne (fun z => by omega)]
      intro h
      rw [r91_950, r91_951, r91_952, r91_953, r91_954, r91_955, r93_1]

      have h9 := qxN1 (by omega)
      rw [h0]
      repeat rw [x10]
      rw [xps_c c101, xps_c c101, show M 91 950 = ρ 1 by omega, show (1 * ρ 2 + 1).toNat = (M 91 951).toNat + 1 by omega]
      rw [show M 91 950 = ρ 1 by omega] at h9
      refine ⟨by omega, rfl, rfl, ?_, h9.2.2.2.2⟩
      show _ = xpS M (ρ 1) (M 91 951).toNat + (if xop 1 (xop 0 (ρ 1) ((M 91 951).toNat : Int)) 1 = 1 then M 101 (M 91 951).toNat else 0)
      rw [← h9.2.2.2.1, show (((M 91 951).toNat : Nat) : Int) = M 91 951 by omega, ← h9.2.1, ← h9.2.2.1]
      rw [if_pos (by omega), show (M 91 951).toNat = (ρ 6).toNat by omega]
      omega
    have k_xN2 : xN2 W := by
      rw [hW]
      exact (uxN2 rfl (uxN2 rfl (uxN2 rfl (uxN2 rfl hI.2.2.2.2.2.1))))
    have k_xN3 : xN3 W := by
      rw [hW]
      exact (uxN3 rfl (uxN3 rfl (uxN3 rfl (uxN3 rfl hI.2.2.2.2.2.2.1))))
    have k_xN4 : xN4 W := by
      rw [hW]
      exact (uxN4 rfl (uxN4 rfl (uxN4 rfl (uxN4 rfl hI.2.2.2.2.2.2.2.1))))
    have k_xN5 : xN5 W := by
      rw [hW]
      exact (uxN5 rfl (uxN5 rfl (uxN5 rfl (uxN5 rfl hI.2.2.2.2.2.2.2.2.1))))
    have k_xN6 : xN6 W := by
      rw [hW]
      exact (uxN6 rfl (uxN6 rfl (uxN6 rfl (uxN6 rfl hI.2.2.2.2.2.2.2.2.2.1))))
    have k_xH1 : xH1 W := by
      rw [hW]
      exact (uxH1 rfl (uxH1 rfl (uxH1 rfl (uxH1 rfl hI.2.2.2.2.2.2.2.2.2.2.1))))
    have k_xK1 : xK1 W := by
      rw [hW]
      exact (uxK1 rfl (uxK1 rfl (uxK1 rfl (uxK1 rfl hI.2.2.2.2.2.2.2.2.2.2.2.1))))
    have k_xC1 : xC1 W := by
      rw [hW]
      exact (uxC1 rfl (uxC1 rfl (uxC1 rfl (uxC1 rfl hI.2.2.2.2.2.2.2.2.2.2.2.2.1))))
    have k_xRW : xRW W := by
      rw [hW]
      exact (uxRW rfl (uxRW rfl (uxRW rfl (uxRW rfl hI.2.2.2.2.2.2.2.2.2.2.2.2.2.1))))
    have k_xWT : xWT W := by
      rw [hW]
      exact (uxWT rfl (uxWT rfl (uxWT rfl (uxWT rfl hI.2.2.2.2.2.2.2.2.2.2.2.2.2.2.1))))
    have k_xCU : xCU W := by
      rw [hW]
      exact (uxCU rfl (uxCU rfl (uxCU rfl (uxCU rfl hI.2.2.2.2.2.2.2.2.2.2.2.2.2.2.2.1))))
    have k_xG2 : xG2 W := by
      rw [hW]
      exact (uxG2 rfl (uxG2 rfl (uxG2 rfl (uxG2 rfl hI.2.2.2.2.2.2.2.2.2.2.2.2.2.2.2.2.1))))
    have k_xG3 : xG3 W := by
      rw [hW]
      exact (uxG3 rfl (uxG3 rfl (uxG3 rfl (uxG3 rfl hI.2.2.2.2.2.2.2.2.2.2.2.2.2.2.2.2.2.1))))
    have k_xG4 : xG4 W := by
      rw [hW]
      exact (uxG4 rfl (uxG4 rfl (uxG4 rfl (uxG4 rfl hI.2.2.2.2.2.2.2.2.2.2.2.2.2.2.2.2.2.2.1))))
    have k_xG5 : xG5 W := by
      rw [hW]
      exact (uxG5 rfl (uxG5 rfl (uxG5 rfl (uxG5 rfl hI.2.2.2.2.2.2.2.2.2.2.2.2.2.2.2.2.2.2.2.1))))
    have k_xG6 : xG6 W := by
      rw [hW]
      exact (uxG6 rfl (uxG6 rfl (uxG6 rfl (uxG6 rfl hI.2.2.2.2.2.2.2.2.2.2.2.2.2.2.2.2.2.2.2.2.1))))
    have k_XC : XC W := by
      rw [hW]
      exact (uXC rfl (uXC rfl (uXC rfl (uXC rfl hI.2.2.2.2.2.2.2.2.2.2.2.2.2.2.2.2.2.2.2.2.2))))
    have kXB : XB W := ⟨k_xN1, k_xN2, k_xN3, k_xN4, k_xN5, k_xN6, k_xH1, k_xK1, k_xC1, k_xRW, k_xWT, k_xCU, k_xG2, k_xG3, k_xG4, k_xG5, k_xG6, k_XC⟩
    exact ⟨base, k2, k3, kXA, kXB⟩
-- gStepA
def xr_97 : qRu := (7, [[(-1, 0), (1, 3)], [(1, 0), (-1, 3)], [(-1, 2), (1, 6)], [(1, 2), (-1, 6)], [(1, 6)], [(5, 0), (-1, 6)]], [(91, 949, [(1, 0)]), (91, 950, [(1, 1)]), (91, 951, [(1, 2)]), (91, 953, [(1, 3)]), (91, 954, [(1, 4)]), (103, 1006, [(1, 5)]), (91, 975, [(1, 0)])], [], [(91, 951, [(1, 2), (1, 0)]), (91, 952, [(1, 7)]), (91, 953, [(1, 8)]), (91, 954, [(1, 4), (1, 9)])], [[(1, 8)], [(1, 0), (-1, 8)], [(1, 9)], [(-1, 5), (99, 9)]])
theorem xo_97 : qRok xr_97 := by
  intro ρ M h0 hf hm hI
  have f0 := hf [(-1, 0), (1, 3)] (by decide)
  have f1 := hf [(1, 0), (-1, 3)] (by decide)
  have f2 := hf [(-1, 2), (1, 6)] (by decide)
  have f3 := hf [(1, 2), (-1, 6)] (by decide)
  have f4 := hf [(1, 6)] (by decide)
  have f5 := hf [(5, 0), (-1, 6)] (by decide)
  simp only [qD, h0] at f0 f1 f2 f3 f4 f5
  have m0 : M 91 949 = 1 * ρ 0 + 0 := hm (91, 949, [(1, 0)]) (by decide)
  have m1 : M 91 950 = 1 * ρ 1 + 0 := hm (91, 950, [(1, 1)]) (by decide)
  have m2 : M 91 951 = 1 * ρ 2 + 0 := hm (91, 951, [(1, 2)]) (by decide)
  have m3 : M 91 953 = 1 * ρ 3 + 0 := hm (91, 953, [(1, 3)]) (by decide)
  have m4 : M 91 954 = 1 * ρ 4 + 0 := hm (91, 954, [(1, 4)]) (by decide)
  have m5 : M 103 (zIx ρ (1000 + 6)) = 1 * ρ 5 + 0 := hm (103, 1006, [(1, 5)]) (by decide)
  rw [zix_p] at m5
  have m6 : M 91 975 = 1 * ρ 0 + 0 := hm (91, 975, [(1, 0)]) (by decide)
  simp only [h0] at m0 m6
  have qxN1 := hI.2.2.2.2.1
  have qxG6 := hI.2.2.2.2.2.2.2.2.2.2.2.2.2.2.2.2.2.2.2.2.1
  have hb : 0 ≤ xop 1 (xop 0 (ρ 1) (1 * ρ 2 + (1 * 1 + 0))) 1 ∧ xop 1 (xop 0 (ρ 1) (1 * ρ 2 + (1 * 1 + 0))) 1 ≤ 1 := zn_and _ (by decide) (by decide)
  have hw := qxG6 (by omega) (ρ 6).toNat (by omega)
  have hw2 : (0 : Int) ≤ M 101 (ρ 6).toNat ∧ M 101 (ρ 6).toNat ≤ 60 := hI.1 101 (ρ 6).toNat (0, 60) (xs_101 (by omega))
  refine ⟨fun a => cond (Nat.blt a 7) (ρ a) (([xop 0 (ρ 1) (1 * ρ 2 + (1 * 1 + 0)), xop 1 (xop 0 (ρ 1) (1 * ρ 2 + (1 * 1 + 0))) 1, M 101 (ρ 6).toNat] : List Int).getD (a - 7) 0), fun a ha => ?_, fun f h => ?_, ?_⟩
  · show cond (Nat.blt a 7) (ρ a) _ = ρ a
    rw [show Nat.blt a 7 = true from Nat.ble_eq_true_of_le ha]; rfl
  · have h : f ∈ ([[(1, 8)], [(1, 0), (-1, 8)], [(1, 9)], [(-1, 5), (99, 9)]] : List qF) := h
    simp only [List.mem_cons, List.not_mem_nil, or_false] at h
    rcases h with rfl | rfl | rfl | rfl
    · show 0 ≤ 1 * (xop 1 (xop 0 (ρ 1) (1 * ρ 2 + (1 * 1 + 0))) 1) + 0
      (try rw [h0]); omega
    · show 0 ≤ 1 * ρ 0 + (-1 * (xop 1 (xop 0 (ρ 1) (1 * ρ 2 + (1 * 1 + 0))) 1) + 0)
      (try rw [h0]); omega
    · show 0 ≤ 1 * (M 101 (ρ 6).toNat) + 0
      (try rw [h0]); omega
    · show 0 ≤ -1 * ρ 5 + (99 * (M 101 (ρ 6).toNat) + 0)
      (try rw [h0]); omega
  · show sI (sU (sU (sU (sU M 91 951 (1 * ρ 2 + (1 * ρ 0 + 0))) 91 952 (1 * (xop 0 (ρ 1) (1 * ρ 2 + (1 * 1 + 0))) + 0)) 91 953 (1 * (xop 1 (xop 0 (ρ 1) (1 * ρ 2 + (1 * 1 + 0))) 1) + 0)) 91 954 (1 * ρ 4 + (1 * (M 101 (ρ 6).toNat) + 0)))
    obtain ⟨W, hW⟩ : ∃ W, W = (sU (sU (sU (sU M 91 951 (1 * ρ 2 + (1 * ρ 0 + 0))) 91 952 (1 * (xop 0 (ρ 1) (1 * ρ 2 + (1 * 1 + 0))) + 0)) 91 953 (1 * (xop 1 (xop 0 (ρ 1) (1 * ρ 2 + (1 * 1 + 0))) 1) + 0)) 91 954 (1 * ρ 4 + (1 * (M 101 (ρ 6).toNat) + 0))) := ⟨_, rfl⟩
    rw [← hW]
    have base : sI0 W := by
      rw [hW]
      exact (si_u0 (si_u0 (si_u0 (si_u0 hI.1 (fun r hr => by cases hr)) (fun r hr => by cases hr)) (fun r hr => by cases hr)) (fun r hr => by cases hr))
    have k2 : XI2 W := by
      rw [hW]
      exact (xi2_u rfl (xi2_u rfl (xi2_u rfl (xi2_u rfl hI.2.1))))
    have k3 : XI3 W := by
      rw [hW]
      exact (xi3_u rfl (xi3_u rfl (xi3_u rfl (xi3_u rfl hI.2.2.1))))
    have kXA : XA W := by
      rw [hW]
      exact (uXA rfl (uXA rfl (uXA rfl (uXA rfl hI.2.2.2.1))))
    have k_xN1 : xN1 W := by
      have r91_949 : W 91 949 = M 91 949 := by rw [hW, sU_ne (fun z => by omega), sU_ne (fun z => by omega), sU_ne (fun z => by omega), sU_ne (fun z => by omega)]
      have r91_950 : W 91 950 = M 91 950 := by rw [hW, sU_ne (fun z => by omega), sU_ne (fun z => by omega), sU_ne (fun z => by omega), sU_ne (fun z => by omega)]
      have r91_951 : W 91 951 = 1 * ρ 2 + (1 * ρ 0 + 0) := by rw [hW, sU_ne (fun z => by omega), sU_ne (fun z => by omega), sU_ne (fun z => by omega), sU_at]
      have r91_952 : W 91 952 = 1 * (xop 0 (ρ 1) (1 * ρ 2 + (1 * 1 + 0))) + 0 := by rw [hW, sU_ne (fun z => by omega), sU_ne (fun z => by omega), sU_at]
      have r91_953 : W 91 953 = 1 * (xop 1 (xop 0 (ρ 1) (1 * ρ 2 + (1 * 1 + 0))) 1) + 0 := by rw [hW, sU_ne (fun z => by omega), sU_at]
      have r91_954 : W 91 954 = 1 * ρ 4 + (1 * (M 101 (ρ 6).toNat) + 0) := by rw [hW, sU_at]
      have r91_955 : W 91 955 = M 91 955 := by rw [hW, sU_ne (fun z => by omega), sU_ne (fun z => by omega), sU_ne (fun z => by omega), sU_ne (fun z => by omega)]
      have r93_1 : W 93 1 = M 93 1 := by rw [hW, sU_ne (fun z => by omega), sU_ne (fun z => by omega), sU_ne (fun z => by omega), sU_ne (fun z => by omega)]
      have c101 : ∀ k, W 101 k = M 101 k := fun k => by rw [hW, sU_ne (fun z => by omega), sU_ne (fun z => by omega), sU_ne (fun z => by omega), sU_ne (fun z => by omega)]
      intro h
      rw [r91_950, r91_951, r91_952, r91_953, r91_954, r91_955, r93_1]

      have h9 := qxN1 (by omega)
      rw [h0]
      repeat rw [x10]
      rw [xps_c c101, xps_c c101, show M 91 950 = ρ 1 by omega, show (1 * ρ 2 + 1).toNat = (M 91 951).toNat + 1 by omega]
      rw [show M 91 950 = ρ 1 by omega] at h9
      refine ⟨by omega, rfl, rfl, ?_, h9.2.2.2.2⟩
      show _ = xpS M (ρ 1) (M 91 951).toNat + (if xop 1 (xop 0 (ρ 1) ((M 91 951).toNat : Int)) 1 = 1 then M 101 (M 91 951).toNat else 0)
      rw [← h9.2.2.2.1, show (((M 91 951).toNat : Nat) : Int) = M 91 951 by omega, ← h9.2.1, ← h9.2.2.1]
      rw [if_pos (by omega), show (M 91 951).toNat = (ρ 6).toNat by omega]
      omega
    have k_xN2 : xN2 W := by
      rw [hW]
      exact (uxN2 rfl (uxN2 rfl (uxN2 rfl (uxN2 rfl hI.2.2.2.2.2.1))))
    have k_xN3 : xN3 W := by
      rw [hW]
      exact (uxN3 rfl (uxN3 rfl (uxN3 rfl (uxN3 rfl hI.2.2.2.2.2.2.1))))
    have k_xN4 : xN4 W := by
      rw [hW]
      exact (uxN4 rfl (uxN4 rfl (uxN4 rfl (uxN4 rfl hI.2.2.2.2.2.2.2.1))))
    have k_xN5 : xN5 W := by
      rw [hW]
      exact (uxN5 rfl (uxN5 rfl (uxN5 rfl (uxN5 rfl hI.2.2.2.2.2.2.2.2.1))))
    have k_xN6 : xN6 W := by
      rw [hW]
      exact (uxN6 rfl (uxN6 rfl (uxN6 rfl (uxN6 rfl hI.2.2.2.2.2.2.2.2.2.1))))
    have k_xH1 : xH1 W := by
      rw [hW]
      exact (uxH1 rfl (uxH1 rfl (uxH1 rfl (uxH1 rfl hI.2.2.2.2.2.2.2.2.2.2.1))))
    have k_xK1 : xK1 W := by
      rw [hW]
      exact (uxK1 rfl (uxK1 rfl (uxK1 rfl (uxK1 rfl hI.2.2.2.2.2.2.2.2.2.2.2.1))))
    have k_xC1 : xC1 W := by
      rw [hW]
      exact (uxC1 rfl (uxC1 rfl (uxC1 rfl (uxC1 rfl hI.2.2.2.2.2.2.2.2.2.2.2.2.1))))
    have k_xRW : xRW W := by
      rw [hW]
      exact (uxRW rfl (uxRW rfl (uxRW rfl (uxRW rfl hI.2.2.2.2.2.2.2.2.2.2.2.2.2.1))))
    have k_xWT : xWT W := by
      rw [hW]
      exact (uxWT rfl (uxWT rfl (uxWT rfl (uxWT rfl hI.2.2.2.2.2.2.2.2.2.2.2.2.2.2.1))))
    have k_xCU : xCU W := by
      rw [hW]
      exact (uxCU rfl (uxCU rfl (uxCU rfl (uxCU rfl hI.2.2.2.2.2.2.2.2.2.2.2.2.2.2.2.1))))
    have k_xG2 : xG2 W := by
      rw [hW]
      exact (uxG2 rfl (uxG2 rfl (uxG2 rfl (uxG2 rfl hI.2.2.2.2.2.2.2.2.2.2.2.2.2.2.2.2.1))))
    have k_xG3 : xG3 W := by
      rw [hW]
      exact (uxG3 rfl (uxG3 rfl (uxG3 rfl (uxG3 rfl hI.2.2.2.2.2.2.2.2.2.2.2.2.2.2.2.2.2.1))))
    have k_xG4 : xG4 W := by
      rw [hW]
      exact (uxG4 rfl (uxG4 rfl (uxG4 rfl (uxG4 rfl hI.2.2.2.2.2.2.2.2.2.2.2.2.2.2.2.2.2.2.1))))
    have k_xG5 : xG5 W := by
      rw [hW]
      exact (uxG5 rfl (uxG5 rfl (uxG5 rfl (uxG5 rfl hI.2.2.2.2.2.2.2.2.2.2.2.2.2.2.2.2.2.2.2.1))))
    have k_xG6 : xG6 W := by
      rw [hW]
      exact (uxG6 rfl (uxG6 rfl (uxG6 rfl (uxG6 rfl hI.2.2.2.2.2.2.2.2.2.2.2.2.2.2.2.2.2.2.2.2.1))))
    have k_XC : XC W := by
      rw [hW]
      exact (uXC rfl (uXC rfl (uXC rfl (uXC rfl hI.2.2.2.2.2.2.2.2.2.2.2.2.2.2.2.2.2.2.2.2.2))))
    have kXB : XB W := ⟨k_xN1, k_xN2, k_xN3, k_xN4, k_xN5, k_xN6, k_xH1, k_xK1, k_xC1, k_xRW, k_xWT, k_xCU, k_xG2, k_xG3, k_xG4, k_xG5, k_xG6, k_XC⟩
    exact ⟨base, k2, k3, kXA, kXB⟩
-- gEnd
def xr_98 : qRu := (5, [[(1, 1), (-1, 2)], [(-1, 1), (1, 2)]], [(91, 949, [(1, 0)]), (91, 951, [(1, 1)]), (93, 1, [(1, 2)]), (91, 954, [(1, 3)]), (91, 955, [(1, 4)])], [], [], [[(1, 3), (-1, 4)], [(-1, 3), (1, 4)]])
theorem xo_98 : qRok xr_98 := by
  intro ρ M h0 hf hm hI
  have f0 := hf [(1, 1), (-1, 2)] (by decide)
  have f1 := hf [(-1, 1), (1, 2)] (by decide)
  simp only [qD, h0] at f0 f1
  have m0 : M 91 949 = 1 * ρ 0 + 0 := hm (91, 949, [(1, 0)]) (by decide)
  have m1 : M 91 951 = 1 * ρ 1 + 0 := hm (91, 951, [(1, 1)]) (by decide)
  have m2 : M 93 1 = 1 * ρ 2 + 0 := hm (93, 1, [(1, 2)]) (by decide)
  have m3 : M 91 954 = 1 * ρ 3 + 0 := hm (91, 954, [(1, 3)]) (by decide)
  have m4 : M 91 955 = 1 * ρ 4 + 0 := hm (91, 955, [(1, 4)]) (by decide)
  simp only [h0] at m0
  have qxN1 := hI.2.2.2.2.1
  have h9 := qxN1 (by omega)
  have h8 := h9.2.2.2.1
  rw [show (M 91 951).toNat = (M 93 1).toNat by omega, ← h9.2.2.2.2] at h8
  refine ⟨ρ, fun _ _ => rfl, fun f h => ?_, ?_⟩
  · have h : f ∈ ([[(1, 3), (-1, 4)], [(-1, 3), (1, 4)]] : List qF) := h
    simp only [List.mem_cons, List.not_mem_nil, or_false] at h
    rcases h with rfl | rfl
    · show 0 ≤ 1 * ρ 3 + (-1 * ρ 4 + 0)
      (try rw [h0]); omega
    · show 0 ≤ -1 * ρ 3 + (1 * ρ 4 + 0)
      (try rw [h0]); omega
  · show sI M
    exact hI
-- round99
def xr_99 : qRu := (2, [[(-1, 0), (99, 1)]], [], [], [], [[(-1, 0), (1, 1)]])
theorem xo_99 : qRok xr_99 := by
  intro ρ M h0 hf hm hI
  have f0 := hf [(-1, 0), (99, 1)] (by decide)
  simp only [qD, h0] at f0
  refine ⟨ρ, fun _ _ => rfl, fun f h => ?_, ?_⟩
  · have h : f ∈ ([[(-1, 0), (1, 1)]] : List qF) := h
    simp only [List.mem_cons, List.not_mem_nil, or_false] at h
    rcases h with rfl
    · show 0 ≤ -1 * ρ 0 + (1 * ρ 1 + 0)
      (try rw [h0]); omega
  · show sI M
    exact hI
-- bSet
def xr_100 : qRu := (4, [], [], [], [(91, 930, [(1, 0)]), (91, 931, [(1, 1)]), (91, 932, [(1, 2)]), (91, 933, [(1, 3)]), (91, 934, []), (91, 935, [(1, 4)]), (91, 936, [(1, 5)]), (91, 925, [(1, 6)]), (91, 937, [(1, 7)]), (91, 938, []), (91, 939, [(1, 8)])], [])
theorem xo_100 : qRok xr_100 := by
  intro ρ M h0 hf hm hI
  have qxN2 := hI.2.2.2.2.2.1
  refine ⟨fun a => cond (Nat.blt a 4) (ρ a) (([xop 0 (1 * ρ 1 + 0) (2 * (0)), xop 1 (xop 0 (1 * ρ 1 + 0) (2 * (0))) 3, M 122 (72 * (1 * ρ 2 + 0) + 24 * (0) + (1 * ρ 3 + 0)).toNat, xop 2 (xop 1 (xop 0 (1 * ρ 1 + 0) (2 * (0))) 3) (M 122 (72 * (1 * ρ 2 + 0) + 24 * (0) + (1 * ρ 3 + 0)).toNat), xbB M (1 * ρ 1 + 0) (1 * ρ 2 + 0) (1 * ρ 3 + 0) (M 93 2).toNat] : List Int).getD (a - 4) 0), fun a ha => ?_, fun f h => ?_, ?_⟩
  · show cond (Nat.blt a 4) (ρ a) _ = ρ a
    rw [show Nat.blt a 4 = true from Nat.ble_eq_true_of_le ha]; rfl
  · exact nomatch h
  · show sI (sU (sU (sU (sU (sU (sU (sU (sU (sU (sU (sU M 91 930 (1 * ρ 0 + 0)) 91 931 (1 * ρ 1 + 0)) 91 932 (1 * ρ 2 + 0)) 91 933 (1 * ρ 3 + 0)) 91 934 (0)) 91 935 (1 * (xop 0 (1 * ρ 1 + 0) (2 * (0))) + 0)) 91 936 (1 * (xop 1 (xop 0 (1 * ρ 1 + 0) (2 * (0))) 3) + 0)) 91 925 (1 * (M 122 (72 * (1 * ρ 2 + 0) + 24 * (0) + (1 * ρ 3 + 0)).toNat) + 0)) 91 937 (1 * (xop 2 (xop 1 (xop 0 (1 * ρ 1 + 0) (2 * (0))) 3) (M 122 (72 * (1 * ρ 2 + 0) + 24 * (0) + (1 * ρ 3 + 0)).toNat)) + 0)) 91 938 (0)) 91 939 (1 * (xbB M (1 * ρ 1 + 0) (1 * ρ 2 + 0) (1 * ρ 3 + 0) (M 93 2).toNat) + 0))
    obtain ⟨W, hW⟩ : ∃ W, W = (sU (sU (sU (sU (sU (sU (sU (sU (sU (sU (sU M 91 930 (1 * ρ 0 + 0)) 91 931 (1 * ρ 1 + 0)) 91 932 (1 * ρ 2 + 0)) 91 933 (1 * ρ 3 + 0)) 91 934 (0)) 91 935 (1 * (xop 0 (1 * ρ 1 + 0) (2 * (0))) + 0)) 91 936 (1 * (xop 1 (xop 0 (1 * ρ 1 + 0) (2 * (0))) 3) + 0)) 91 925 (1 * (M 122 (72 * (1 * ρ 2 + 0) + 24 * (0) + (1 * ρ 3 + 0)).toNat) + 0)) 91 937 (1 * (xop 2 (xop 1 (xop 0 (1 * ρ 1 + 0) (2 * (0))) 3) (M 122 (72 * (1 * ρ 2 + 0) + 24 * (0) + (1 * ρ 3 + 0)).toNat)) + 0)) 91 938 (0)) 91 939 (1 * (xbB M (1 * ρ 1 + 0) (1 * ρ 2 + 0) (1 * ρ 3 + 0) (M 93 2).toNat) + 0)) := ⟨_, rfl⟩
    rw [← hW]
    have base : sI0 W := by
      rw [hW]
      exact (si_u0 (si_u0 (si_u0 (si_u0 (si_u0 (si_u0 (si_u0 (si_u0 (si_u0 (si_u0 (si_u0 hI.1 (fun r hr => by cases hr)) (fun r hr => by cases hr)) (fun r hr => by cases hr)) (fun r hr => by cases hr)) (fun r hr => by cases hr)) (fun r hr => by cases hr)) (fun r hr => by cases hr)) (fun r hr => by cases hr)) (fun r hr => by cases hr)) (fun r hr => by cases hr)) (fun r hr => by cases hr))
    have k2 : XI2 W := by
      rw [hW]
      exact (xi2_u rfl (xi2_u rfl (xi2_u rfl (xi2_u rfl (xi2_u rfl (xi2_u rfl (xi2_u rfl (xi2_u rfl (xi2_u rfl (xi2_u rfl (xi2_u rfl hI.2.1)))))))))))
    have k3 : XI3 W := by
      rw [hW]
      exact (xi3_u rfl (xi3_u rfl (xi3_u rfl (xi3_u rfl (xi3_u rfl (xi3_u rfl (xi3_u rfl (xi3_u rfl (xi3_u rfl (xi3_u rfl (xi3_u rfl hI.2.2.1)))))))))))
    have kXA : XA W := by
      rw [hW]
      exact (uXA rfl (uXA rfl (uXA rfl (uXA rfl (uXA rfl (uXA rfl (uXA rfl (uXA rfl (uXA rfl (uXA rfl (uXA rfl hI.2.2.2.1)))))))))))
    have k_xN1 : xN1 W := by
      rw [hW]
      exact (uxN1 rfl (uxN1 rfl (uxN1 rfl (uxN1 rfl (uxN1 rfl (uxN1 rfl (uxN1 rfl (uxN1 rfl (uxN1 rfl (uxN1 rfl (uxN1 rfl hI.2.2.2.2.1)))))))))))
    have k_xN2 : xN2 W := by
      have r91_930 : W 91 930 = 1 * ρ 0 + 0 := by rw [hW, sU_ne (fun z => by omega), sU_ne (fun z => by omega), sU_ne (fun z => by omega), sU_ne (fun z => by omega), sU_ne (fun z => by omega), sU_ne (fun z => by omega), sU_ne (fun z => by omega), sU_ne (fun z => by omega), sU_ne (fun z => by omega), sU_ne (fun z => by omega), sU_at]
      have r91_931 : W 91 931 = 1 * ρ 1 + 0 := by rw [hW, sU_ne (fun z => by omega), sU_ne (fun z => by omega), sU_ne (fun z => by omega), sU_ne (fun z => by omega), sU_ne (fun z => by omega), sU_ne (fun z => by omega), sU_ne (fun z => by omega), sU_ne (fun z => by omega), sU_ne (fun z => by omega), sU_at]
      have r91_932 : W 91 932 = 1 * ρ 2 + 0 := by rw [hW, sU_ne (fun z => by omega), sU_ne (fun z => by omega), sU_ne (fun z => by omega), sU_ne (fun z => by omega), sU_ne (fun z => by omega), sU_ne (fun z => by omega), sU_ne (fun z => by omega), sU_ne (fun z => by omega), sU_at]
      have r91_933 : W 91 933 = 1 * ρ 3 + 0 := by rw [hW, sU_ne (fun z => by omega), sU_ne (fun z => by omega), sU_ne (fun z => by omega), sU_ne (fun z => by omega), sU_ne (fun z => by omega), sU_ne (fun z => by omega), sU_ne (fun z => by omega), sU_at]
      have r91_934 : W 91 934 = 0 := by rw [hW, sU_ne (fun z => by omega), sU_ne (fun z => by omega), sU_ne (fun z => by omega), sU_ne (fun z => by omega), sU_ne (fun z => by omega), sU_ne (fun z => by omega), sU_at]
      have r91_935 : W 91 935 = 1 * (xop 0 (1 * ρ 1 + 0) (2 * (0))) + 0 := by rw [hW, sU_ne (fun z => by omega), sU_ne (fun z => by omega), sU_ne (fun z => by omega), sU_ne (fun z => by omega), sU_ne (fun z => by omega), sU_at]
      have r91_936 : W 91 936 = 1 * (xop 1 (xop 0 (1 * ρ 1 + 0) (2 * (0))) 3) + 0 := by rw [hW, sU_ne (fun z => by omega), sU_ne (fun z => by omega), sU_ne (fun z => by omega), sU_ne (fun z => by omega), sU_at]
      have r91_925 : W 91 925 = 1 * (M 122 (72 * (1 * ρ 2 + 0) + 24 * (0) + (1 * ρ 3 + 0)).toNat) + 0 := by rw [hW, sU_ne (fun z => by omega), sU_ne (fun z => by omega), sU_ne (fun z => by omega), sU_at]
      have r91_937 : W 91 937 = 1 * (xop 2 (xop 1 (xop 0 (1 * ρ 1 + 0) (2 * (0))) 3) (M 122 (72 * (1 * ρ 2 + 0) + 24 * (0) + (1 * ρ 3 + 0)).toNat)) + 0 := by rw [hW, sU_ne (fun z => by omega), sU_ne (fun z => by omega), sU_at]
      have r91_938 : W 91 938 = 0 := by rw [hW, sU_ne (fun z => by omega), sU_at]
      have r91_939 : W 91 939 = 1 * (xbB M (1 * ρ 1 + 0) (1 * ρ 2 + 0) (1 * ρ 3 + 0) (M 93 2).toNat) + 0 := by rw [hW, sU_at]
      have r93_2 : W 93 2 = M 93 2 := by rw [hW, sU_ne (fun z => by omega), sU_ne (fun z => by omega), sU_ne (fun z => by omega), sU_ne (fun z => by omega), sU_ne (fun z => by omega), sU_ne (fun z => by omega), sU_ne (fun z => by omega), sU_ne (fun z => by omega), sU_ne (fun z => by omega), sU_ne (fun z => by omega), sU_ne (fun z => by omega)]
      have c122 : ∀ k, W 122 k = M 122 k := fun k => by rw [hW, sU_ne (fun z => by omega), sU_ne (fun z => by omega), sU_ne (fun z => by omega), sU_ne (fun z => by omega), sU_ne (fun z => by omega), sU_ne (fun z => by omega), sU_ne (fun z => by omega), sU_ne (fun z => by omega), sU_ne (fun z => by omega), sU_ne (fun z => by omega), sU_ne (fun z => by omega)]
      intro h
      rw [r91_931, r91_932, r91_933, r91_934, r91_935, r91_936, r91_925, r91_937, r91_938, r91_939, r93_2]

      repeat rw [x10]
      rw [xbb_c c122, xbb_c c122, c122]
      exact ⟨by omega, rfl, rfl, rfl, rfl, rfl, rfl⟩
    have k_xN3 : xN3 W := by
      rw [hW]
      exact (uxN3 rfl (uxN3 rfl (uxN3 rfl (uxN3 rfl (uxN3 rfl (uxN3 rfl (uxN3 rfl (uxN3 rfl (uxN3 rfl (uxN3 rfl (uxN3 rfl hI.2.2.2.2.2.2.1)))))))))))
    have k_xN4 : xN4 W := by
      rw [hW]
      exact (uxN4 rfl (uxN4 rfl (uxN4 rfl (uxN4 rfl (uxN4 rfl (uxN4 rfl (uxN4 rfl (uxN4 rfl (uxN4 rfl (uxN4 rfl (uxN4 rfl hI.2.2.2.2.2.2.2.1)))))))))))
    have k_xN5 : xN5 W := by
      rw [hW]
      exact (uxN5 rfl (uxN5 rfl (uxN5 rfl (uxN5 rfl (uxN5 rfl (uxN5 rfl (uxN5 rfl (uxN5 rfl (uxN5 rfl (uxN5 rfl (uxN5 rfl hI.2.2.2.2.2.2.2.2.1)))))))))))
    have k_xN6 : xN6 W := by
      rw [hW]
      exact (uxN6 rfl (uxN6 rfl (uxN6 rfl (uxN6 rfl (uxN6 rfl (uxN6 rfl (uxN6 rfl (uxN6 rfl (uxN6 rfl (uxN6 rfl (uxN6 rfl hI.2.2.2.2.2.2.2.2.2.1)))))))))))
    have k_xH1 : xH1 W := by
      rw [hW]
      exact (uxH1 rfl (uxH1 rfl (uxH1 rfl (uxH1 rfl (uxH1 rfl (uxH1 rfl (uxH1 rfl (uxH1 rfl (uxH1 rfl (uxH1 rfl (uxH1 rfl hI.2.2.2.2.2.2.2.2.2.2.1)))))))))))
    have k_xK1 : xK1 W := by
      rw [hW]
      exact (uxK1 rfl (uxK1 rfl (uxK1 rfl (uxK1 rfl (uxK1 rfl (uxK1 rfl (uxK1 rfl (uxK1 rfl (uxK1 rfl (uxK1 rfl (uxK1 rfl hI.2.2.2.2.2.2.2.2.2.2.2.1)))))))))))
    have k_xC1 : xC1 W := by
      rw [hW]
      exact (uxC1 rfl (uxC1 rfl (uxC1 rfl (uxC1 rfl (uxC1 rfl (uxC1 rfl (uxC1 rfl (uxC1 rfl (uxC1 rfl (uxC1 rfl (uxC1 rfl hI.2.2.2.2.2.2.2.2.2.2.2.2.1)))))))))))
    have k_xRW : xRW W := by
      rw [hW]
      exact (uxRW rfl (uxRW rfl (uxRW rfl (uxRW rfl (uxRW rfl (uxRW rfl (uxRW rfl (uxRW rfl (uxRW rfl (uxRW rfl (uxRW rfl hI.2.2.2.2.2.2.2.2.2.2.2.2.2.1)))))))))))
    have k_xWT : xWT W := by
      rw [hW]
      exact (uxWT rfl (uxWT rfl (uxWT rfl (uxWT rfl (uxWT rfl (uxWT rfl (uxWT rfl (uxWT rfl (uxWT rfl (uxWT rfl (uxWT rfl hI.2.2.2.2.2.2.2.2.2.2.2.2.2.2.1)))))))))))
    have k_xCU : xCU W := by
      rw [hW]
      exact (uxCU rfl (uxCU rfl (uxCU rfl (uxCU rfl (uxCU rfl (uxCU rfl (uxCU rfl (uxCU rfl (uxCU rfl (uxCU rfl (uxCU rfl hI.2.2.2.2.2.2.2.2.2.2.2.2.2.2.2.1)))))))))))
    have k_xG2 : xG2 W := by
      rw [hW]
      exact (uxG2 rfl (uxG2 rfl (uxG2 rfl (uxG2 rfl (uxG2 rfl (uxG2 rfl (uxG2 rfl (uxG2 rfl (uxG2 rfl (uxG2 rfl (uxG2 rfl hI.2.2.2.2.2.2.2.2.2.2.2.2.2.2.2.2.1)))))))))))
    have k_xG3 : xG3 W := by
      rw [hW]
      exact (uxG3 rfl (uxG3 rfl (uxG3 rfl (uxG3 rfl (uxG3 rfl (uxG3 rfl (uxG3 rfl (uxG3 rfl (uxG3 rfl (uxG3 rfl (uxG3 rfl hI.2.2.2.2.2.2.2.2.2.2.2.2.2.2.2.2.2.1)))))))))))
    have k_xG4 : xG4 W := by
      rw [hW]
      exact (uxG4 rfl (uxG4 rfl (uxG4 rfl (uxG4 rfl (uxG4 rfl (uxG4 rfl (uxG4 rfl (uxG4 rfl (uxG4 rfl (uxG4 rfl (uxG4 rfl hI.2.2.2.2.2.2.2.2.2.2.2.2.2.2.2.2.2.2.1)))))))))))
    have k_xG5 : xG5 W := by
      rw [hW]
      exact (uxG5 rfl (uxG5 rfl (uxG5 rfl (uxG5 rfl (uxG5 rfl (uxG5 rfl (uxG5 rfl (uxG5 rfl (uxG5 rfl (uxG5 rfl (uxG5 rfl hI.2.2.2.2.2.2.2.2.2.2.2.2.2.2.2.2.2.2.2.1)))))))))))
    have k_xG6 : xG6 W := by
      rw [hW]
      exact (uxG6 rfl (uxG6 rfl (uxG6 rfl (uxG6 rfl (uxG6 rfl (uxG6 rfl (uxG6 rfl (uxG6 rfl (uxG6 rfl (uxG6 rfl (uxG6 rfl hI.2.2.2.2.2.2.2.2.2.2.2.2.2.2.2.2.2.2.2.2.1)))))))))))
    have k_XC : XC W := by
      rw [hW]
      exact (uXC rfl (uXC rfl (uXC rfl (uXC rfl (uXC rfl (uXC rfl (uXC rfl (uXC rfl (uXC rfl (uXC rfl (uXC rfl hI.2.2.2.2.2.2.2.2.2.2.2.2.2.2.2.2.2.2.2.2.2)))))))))))
    have kXB : XB W := ⟨k_xN1, k_xN2, k_xN3, k_xN4, k_xN5, k_xN6, k_xH1, k_xK1, k_xC1, k_xRW, k_xWT, k_xCU, k_xG2, k_xG3, k_xG4, k_xG5, k_xG6, k_XC⟩
    exact ⟨base, k2, k3, kXA, kXB⟩
-- bLift
def xr_101 : qRu := (7, [[(-72, 2), (-1, 3), (-24, 4), (1, 5)], [(72, 2), (1, 3), (24, 4), (-1, 5)]], [(91, 930, [(1, 0)]), (91, 932, [(1, 2)]), (91, 933, [(1, 3)]), (91, 934, [(1, 4)]), (91, 925, [(1, 1)]), (122, 1005, [(1, 6)])], [], [], [[(1, 1), (-1, 6)], [(-1, 1), (1, 6)]])
theorem xo_101 : qRok xr_101 := by
  intro ρ M h0 hf hm hI
  have f0 := hf [(-72, 2), (-1, 3), (-24, 4), (1, 5)] (by decide)
  have f1 := hf [(72, 2), (1, 3), (24, 4), (-1, 5)] (by decide)
  simp only [qD, h0] at f0 f1
  have m0 : M 91 930 = 1 * ρ 0 + 0 := hm (91, 930, [(1, 0)]) (by decide)
  have m1 : M 91 932 = 1 * ρ 2 + 0 := hm (91, 932, [(1, 2)]) (by decide)
  have m2 : M 91 933 = 1 * ρ 3 + 0 := hm (91, 933, [(1, 3)]) (by decide)
  have m3 : M 91 934 = 1 * ρ 4 + 0 := hm (91, 934, [(1, 4)]) (by decide)
  have m4 : M 91 925 = 1 * ρ 1 + 0 := hm (91, 925, [(1, 1)]) (by decide)
  have m5 : M 122 (zIx ρ (1000 + 5)) = 1 * ρ 6 + 0 := hm (122, 1005, [(1, 6)]) (by decide)
  rw [zix_p] at m5
  simp only [h0] at m0
  have qxN2 := hI.2.2.2.2.2.1
  have h9 := (qxN2 (by omega)).2.2.2.1
  rw [show (72 * M 91 932 + 24 * M 91 934 + M 91 933).toNat = (ρ 5).toNat by omega, m5] at h9
  refine ⟨ρ, fun _ _ => rfl, fun f h => ?_, ?_⟩
  · have h : f ∈ ([[(1, 1), (-1, 6)], [(-1, 1), (1, 6)]] : List qF) := h
    simp only [List.mem_cons, List.not_mem_nil, or_false] at h
    rcases h with rfl | rfl
    · show 0 ≤ 1 * ρ 1 + (-1 * ρ 6 + 0)
      (try rw [h0]); omega
    · show 0 ≤ -1 * ρ 1 + (1 * ρ 6 + 0)
      (try rw [h0]); omega
  · show sI M
    exact hI
-- bStep
def xr_102 : qRu := (7, [], [(91, 930, [(1, 0)]), (91, 931, [(1, 1)]), (91, 932, [(1, 2)]), (91, 933, [(1, 3)]), (91, 934, [(1, 4)]), (91, 937, [(1, 5)]), (91, 938, [(1, 6)])], [], [(91, 934, [(1, 4), (1, 0)]), (91, 935, [(1, 7)]), (91, 936, [(1, 8)]), (91, 925, [(1, 9)]), (91, 937, [(1, 10)]), (91, 938, [(1, 6), (1, 5)])], [])
theorem xo_102 : qRok xr_102 := by
  intro ρ M h0 hf hm hI
  have m0 : M 91 930 = 1 * ρ 0 + 0 := hm (91, 930, [(1, 0)]) (by decide)
  have m1 : M 91 931 = 1 * ρ 1 + 0 := hm (91, 931, [(1, 1)]) (by decide)
  have m2 : M 91 932 = 1 * ρ 2 + 0 := hm (91, 932, [(1, 2)]) (by decide)
  have m3 : M 91 933 = 1 * ρ 3 + 0 := hm (91, 933, [(1, 3)]) (by decide)
  have m4 : M 91 934 = 1 * ρ 4 + 0 := hm (91, 934, [(1, 4)]) (by decide)
  have m5 : M 91 937 = 1 * ρ 5 + 0 := hm (91, 937, [(1, 5)]) (by decide)
  have m6 : M 91 938 = 1 * ρ 6 + 0 := hm (91, 938, [(1, 6)]) (by decide)
  simp only [h0] at m0
  have qxN2 := hI.2.2.2.2.2.1
  refine ⟨fun a => cond (Nat.blt a 7) (ρ a) (([xop 0 (ρ 1) (2 * (1 * ρ 4 + (1 * 1 + 0))), xop 1 (xop 0 (ρ 1) (2 * (1 * ρ 4 + (1 * 1 + 0)))) 3, M 122 (72 * (ρ 2) + 24 * (1 * ρ 4 + (1 * 1 + 0)) + (ρ 3)).toNat, xop 2 (xop 1 (xop 0 (ρ 1) (2 * (1 * ρ 4 + (1 * 1 + 0)))) 3) (M 122 (72 * (ρ 2) + 24 * (1 * ρ 4 + (1 * 1 + 0)) + (ρ 3)).toNat)] : List Int).getD (a - 7) 0), fun a ha => ?_, fun f h => ?_, ?_⟩
  · show cond (Nat.blt a 7) (ρ a) _ = ρ a
    rw [show Nat.blt a 7 = true from Nat.ble_eq_true_of_le ha]; rfl
  · exact nomatch h
  · show sI (sU (sU (sU (sU (sU (sU M 91 934 (1 * ρ 4 + (1 * ρ 0 + 0))) 91 935 (1 * (xop 0 (ρ 1) (2 * (1 * ρ 4 + (1 * 1 + 0)))) + 0)) 91 936 (1 * (xop 1 (xop 0 (ρ 1) (2 * (1 * ρ 4 + (1 * 1 + 0)))) 3) + 0)) 91 925 (1 * (M 122 (72 * (ρ 2) + 24 * (1 * ρ 4 + (1 * 1 + 0)) + (ρ 3)).toNat) + 0)) 91 937 (1 * (xop 2 (xop 1 (xop 0 (ρ 1) (2 * (1 * ρ 4 + (1 * 1 + 0)))) 3) (M 122 (72 * (ρ 2) + 24 * (1 * ρ 4 + (1 * 1 + 0)) + (ρ 3)).toNat)) + 0)) 91 938 (1 * ρ 6 + (1 * ρ 5 + 0)))
    obtain ⟨W, hW⟩ : ∃ W, W = (sU (sU (sU (sU (sU (sU M 91 934 (1 * ρ 4 + (1 * ρ 0 + 0))) 91 935 (1 * (xop 0 (ρ 1) (2 * (1 * ρ 4 + (1 * 1 + 0)))) + 0)) 91 936 (1 * (xop 1 (xop 0 (ρ 1) (2 * (1 * ρ 4 + (1 * 1 + 0)))) 3) + 0)) 91 925 (1 * (M 122 (72 * (ρ 2) + 24 * (1 * ρ 4 + (1 * 1 + 0)) + (ρ 3)).toNat) + 0)) 91 937 (1 * (xop 2 (xop 1 (xop 0 (ρ 1) (2 * (1 * ρ 4 + (1 * 1 + 0)))) 3) (M 122 (72 * (ρ 2) + 24 * (1 * ρ 4 + (1 * 1 + 0)) + (ρ 3)).toNat)) + 0)) 91 938 (1 * ρ 6 + (1 * ρ 5 + 0))) := ⟨_, rfl⟩
    rw [← hW]
    have base : sI0 W := by
      rw [hW]
      exact (si_u0 (si_u0 (si_u0 (si_u0 (si_u0 (si_u0 hI.1 (fun r hr => by cases hr)) (fun r hr => by cases hr)) (fun r hr => by cases hr)) (fun r hr => by cases hr)) (fun r hr => by cases hr)) (fun r hr => by cases hr))
    have k2 : XI2 W := by
      rw [hW]
      exact (xi2_u rfl (xi2_u rfl (xi2_u rfl (xi2_u rfl (xi2_u rfl (xi2_u rfl hI.2.1))))))
    have k3 : XI3 W := by
      rw [hW]
      exact (xi3_u rfl (xi3_u rfl (xi3_u rfl (xi3_u rfl (xi3_u rfl (xi3_u rfl hI.2.2.1))))))
    have kXA : XA W := by
      rw [hW]
      exact (uXA rfl (uXA rfl (uXA rfl (uXA rfl (uXA rfl (uXA rfl hI.2.2.2.1))))))
    have k_xN1 : xN1 W := by
      rw [hW]
      exact (uxN1 rfl (uxN1 rfl (uxN1 rfl (uxN1 rfl (uxN1 rfl (uxN1 rfl hI.2.2.2.2.1))))))
    have k_xN2 : xN2 W := by
      have r91_930 : W 91 930 = M 91 930 := by rw [hW, sU_ne (fun z => by omega), sU_ne (fun z => by omega), sU_ne (fun z => by omega), sU_ne (fun z => by omega), sU_ne (fun z => by omega), sU_ne (fun z => by omega)]
      have r91_931 : W 91 931 = M 91 931 := by rw [hW, sU_ne (fun z => by omega), sU_ne (fun z => by omega), sU_ne (fun z => by omega), sU_ne (fun z => by omega), sU_ne (fun z => by omega), sU_ne (fun z => by omega)]
      have r91_932 : W 91 932 = M 91 932 := by rw [hW, sU_ne (fun z => by omega), sU_ne (fun z => by omega), sU_ne (fun z => by omega), sU_ne (fun z => by omega), sU_ne (fun z => by omega), sU_ne (fun z => by omega)]
      have r91_933 : W 91 933 = M 91 933 := by rw [hW, sU_ne (fun z => by omega), sU_ne (fun z => by omega), sU_ne (fun z => by omega), sU_ne (fun z => by omega), sU_ne (fun z => by omega), sU_ne (fun z => by omega)]
      have r91_934 : W 91 934 = 1 * ρ 4 + (1 * ρ 0 + 0) := by rw [hW, sU_ne (fun z => by omega), sU_ne (fun z => by omega), sU_ne (fun z => by omega), sU_ne (fun z => by omega), sU_ne (fun z => by omega), sU_at]
      have r91_935 : W 91 935 = 1 * (xop 0 (ρ 1) (2 * (1 * ρ 4 + (1 * 1 + 0)))) + 0 := by rw [hW, sU_ne (fun z => by omega), sU_ne (fun z => by omega), sU_ne (fun z => by omega), sU_ne (fun z => by omega), sU_at]
      have r91_936 : W 91 936 = 1 * (xop 1 (xop 0 (ρ 1) (2 * (1 * ρ 4 + (1 * 1 + 0)))) 3) + 0 := by rw [hW, sU_ne (fun z => by omega), sU_ne (fun z => by omega), sU_ne (fun z => by omega), sU_at]
      have r91_925 : W 91 925 = 1 * (M 122 (72 * (ρ 2) + 24 * (1 * ρ 4 + (1 * 1 + 0)) + (ρ 3)).toNat) + 0 := by rw [hW, sU_ne (fun z => by omega), sU_ne (fun z => by omega), sU_at]
      have r91_937 : W 91 937 = 1 * (xop 2 (xop 1 (xop 0 (ρ 1) (2 * (1 * ρ 4 + (1 * 1 + 0)))) 3) (M 122 (72 * (ρ 2) + 24 * (1 * ρ 4 + (1 * 1 + 0)) + (ρ 3)).toNat)) + 0 := by rw [hW, sU_ne (fun z => by omega), sU_at]
      have r91_938 : W 91 938 = 1 * ρ 6 + (1 * ρ 5 + 0) := by rw [hW, sU_at]
      have r91_939 : W 91 939 = M 91 939 := by rw [hW, sU_ne (fun z => by omega), sU_ne (fun z => by omega), sU_ne (fun z => by omega), sU_ne (fun z => by omega), sU_ne (fun z => by omega), sU_ne (fun z => by omega)]
      have r93_2 : W 93 2 = M 93 2 := by rw [hW, sU_ne (fun z => by omega), sU_ne (fun z => by omega), sU_ne (fun z => by omega), sU_ne (fun z => by omega), sU_ne (fun z => by omega), sU_ne (fun z => by omega)]
      have c122 : ∀ k, W 122 k = M 122 k := fun k => by rw [hW, sU_ne (fun z => by omega), sU_ne (fun z => by omega), sU_ne (fun z => by omega), sU_ne (fun z => by omega), sU_ne (fun z => by omega), sU_ne (fun z => by omega)]
      intro h
      rw [r91_931, r91_932, r91_933, r91_934, r91_935, r91_936, r91_925, r91_937, r91_938, r91_939, r93_2]

      have h9 := qxN2 (by omega)
      rw [h0]
      repeat rw [x10]
      rw [xbb_c c122, xbb_c c122, c122, show M 91 931 = ρ 1 by omega, show M 91 932 = ρ 2 by omega, show M 91 933 = ρ 3 by omega, show (1 * ρ 4 + 1).toNat = (M 91 934).toNat + 1 by omega]
      rw [show M 91 931 = ρ 1 by omega, show M 91 932 = ρ 2 by omega, show M 91 933 = ρ 3 by omega] at h9
      refine ⟨by omega, rfl, rfl, rfl, rfl, ?_, h9.2.2.2.2.2.2⟩
      show _ = xbB M (ρ 1) (ρ 2) (ρ 3) (M 91 934).toNat + xop 1 (xop 0 (ρ 1) (2 * ((M 91 934).toNat : Int))) 3 * M 122 (72 * ρ 2 + 24 * ((M 91 934).toNat : Int) + ρ 3).toNat
      have h5 : M 91 937 = M 91 936 * M 91 925 := h9.2.2.2.2.1
      rw [← h9.2.2.2.2.2.1, show (((M 91 934).toNat : Nat) : Int) = M 91 934 by omega, ← h9.2.1, ← h9.2.2.1, ← h9.2.2.2.1, ← h5]
      omega
    have k_xN3 : xN3 W := by
      rw [hW]
      exact (uxN3 rfl (uxN3 rfl (uxN3 rfl (uxN3 rfl (uxN3 rfl (uxN3 rfl hI.2.2.2.2.2.2.1))))))
    have k_xN4 : xN4 W := by
      rw [hW]
      exact (uxN4 rfl (uxN4 rfl (uxN4 rfl (uxN4 rfl (uxN4 rfl (uxN4 rfl hI.2.2.2.2.2.2.2.1))))))
    have k_xN5 : xN5 W := by
      rw [hW]
      exact (uxN5 rfl (uxN5 rfl (uxN5 rfl (uxN5 rfl (uxN5 rfl (uxN5 rfl hI.2.2.2.2.2.2.2.2.1))))))
    have k_xN6 : xN6 W := by
      rw [hW]
      exact (uxN6 rfl (uxN6 rfl (uxN6 rfl (uxN6 rfl (uxN6 rfl (uxN6 rfl hI.2.2.2.2.2.2.2.2.2.1))))))
    have k_xH1 : xH1 W := by
      rw [hW]
      exact (uxH1 rfl (uxH1 rfl (uxH1 rfl (uxH1 rfl (uxH1 rfl (uxH1 rfl hI.2.2.2.2.2.2.2.2.2.2.1))))))
    have k_xK1 : xK1 W := by
      rw [hW]
      exact (uxK1 rfl (uxK1 rfl (uxK1 rfl (uxK1 rfl (uxK1 rfl (uxK1 rfl hI.2.2.2.2.2.2.2.2.2.2.2.1))))))
    have k_xC1 : xC1 W := by
      rw [hW]
      exact (uxC1 rfl (uxC1 rfl (uxC1 rfl (uxC1 rfl (uxC1 rfl (uxC1 rfl hI.2.2.2.2.2.2.2.2.2.2.2.2.1))))))
    have k_xRW : xRW W := by
      rw [hW]
      exact (uxRW rfl (uxRW rfl (uxRW rfl (uxRW rfl (uxRW rfl (uxRW rfl hI.2.2.2.2.2.2.2.2.2.2.2.2.2.1))))))
    have k_xWT : xWT W := by
      rw [hW]
      exact (uxWT rfl (uxWT rfl (uxWT rfl (uxWT rfl (uxWT rfl (uxWT rfl hI.2.2.2.2.2.2.2.2.2.2.2.2.2.2.1))))))
    have k_xCU : xCU W := by
      rw [hW]
      exact (uxCU rfl (uxCU rfl (uxCU rfl (uxCU rfl (uxCU rfl (uxCU rfl hI.2.2.2.2.2.2.2.2.2.2.2.2.2.2.2.1))))))
    have k_xG2 : xG2 W := by
      rw [hW]
      exact (uxG2 rfl (uxG2 rfl (uxG2 rfl (uxG2 rfl (uxG2 rfl (uxG2 rfl hI.2.2.2.2.2.2.2.2.2.2.2.2.2.2.2.2.1))))))
    have k_xG3 : xG3 W := by
      rw [hW]
      exact (uxG3 rfl (uxG3 rfl (uxG3 rfl (uxG3 rfl (uxG3 rfl (uxG3 rfl hI.2.2.2.2.2.2.2.2.2.2.2.2.2.2.2.2.2.1))))))
    have k_xG4 : xG4 W := by
      rw [hW]
      exact (uxG4 rfl (uxG4 rfl (uxG4 rfl (uxG4 rfl (uxG4 rfl (uxG4 rfl hI.2.2.2.2.2.2.2.2.2.2.2.2.2.2.2.2.2.2.1))))))
    have k_xG5 : xG5 W := by
      rw [hW]
      exact (uxG5 rfl (uxG5 rfl (uxG5 rfl (uxG5 rfl (uxG5 rfl (uxG5 rfl hI.2.2.2.2.2.2.2.2.2.2.2.2.2.2.2.2.2.2.2.1))))))
    have k_xG6 : xG6 W := by
      rw [hW]
      exact (uxG6 rfl (uxG6 rfl (uxG6 rfl (uxG6 rfl (uxG6 rfl (uxG6 rfl hI.2.2.2.2.2.2.2.2.2.2.2.2.2.2.2.2.2.2.2.2.1))))))
    have k_XC : XC W := by
      rw [hW]
      exact (uXC rfl (uXC rfl (uXC rfl (uXC rfl (uXC rfl (uXC rfl hI.2.2.2.2.2.2.2.2.2.2.2.2.2.2.2.2.2.2.2.2.2))))))
    have kXB : XB W := ⟨k_xN1, k_xN2, k_xN3, k_xN4, k_xN5, k_xN6, k_xH1, k_xK1, k_xC1, k_xRW, k_xWT, k_xCU, k_xG2, k_xG3, k_xG4, k_xG5, k_xG6, k_XC⟩
    exact ⟨base, k2, k3, kXA, kXB⟩
-- bEnd
def xr_103 : qRu := (5, [[(1, 1), (-1, 2)], [(-1, 1), (1, 2)]], [(91, 930, [(1, 0)]), (91, 934, [(1, 1)]), (93, 2, [(1, 2)]), (91, 938, [(1, 3)]), (91, 939, [(1, 4)])], [], [], [[(1, 3), (-1, 4)], [(-1, 3), (1, 4)]])
theorem xo_103 : qRok xr_103 := by
  intro ρ M h0 hf hm hI
  have f0 := hf [(1, 1), (-1, 2)] (by decide)
  have f1 := hf [(-1, 1), (1, 2)] (by decide)
  simp only [qD, h0] at f0 f1
  have m0 : M 91 930 = 1 * ρ 0 + 0 := hm (91, 930, [(1, 0)]) (by decide)
  have m1 : M 91 934 = 1 * ρ 1 + 0 := hm (91, 934, [(1, 1)]) (by decide)
  have m2 : M 93 2 = 1 * ρ 2 + 0 := hm (93, 2, [(1, 2)]) (by decide)
  have m3 : M 91 938 = 1 * ρ 3 + 0 := hm (91, 938, [(1, 3)]) (by decide)
  have m4 : M 91 939 = 1 * ρ 4 + 0 := hm (91, 939, [(1, 4)]) (by decide)
  simp only [h0] at m0
  have qxN2 := hI.2.2.2.2.2.1
  have h9 := qxN2 (by omega)
  have h8 := h9.2.2.2.2.2.1
  rw [show (M 91 934).toNat = (M 93 2).toNat by omega, ← h9.2.2.2.2.2.2] at h8
  refine ⟨ρ, fun _ _ => rfl, fun f h => ?_, ?_⟩
  · have h : f ∈ ([[(1, 3), (-1, 4)], [(-1, 3), (1, 4)]] : List qF) := h
    simp only [List.mem_cons, List.not_mem_nil, or_false] at h
    rcases h with rfl | rfl
    · show 0 ≤ 1 * ρ 3 + (-1 * ρ 4 + 0)
      (try rw [h0]); omega
    · show 0 ≤ -1 * ρ 3 + (1 * ρ 4 + 0)
      (try rw [h0]); omega
  · show sI M
    exact hI
-- pSet
def xr_104 : qRu := (2, [], [], [], [(91, 928, [(1, 0)]), (91, 927, [(1, 1)]), (91, 929, [(1, 2)])], [])
theorem xo_104 : qRok xr_104 := by
  intro ρ M h0 hf hm hI
  have qxN3 := hI.2.2.2.2.2.2.1
  refine ⟨fun a => cond (Nat.blt a 2) (ρ a) (([xop 2 (1 * ρ 1 + 0) (M 93 6)] : List Int).getD (a - 2) 0), fun a ha => ?_, fun f h => ?_, ?_⟩
  · show cond (Nat.blt a 2) (ρ a) _ = ρ a
    rw [show Nat.blt a 2 = true from Nat.ble_eq_true_of_le ha]; rfl
  · exact nomatch h
  · show sI (sU (sU (sU M 91 928 (1 * ρ 0 + 0)) 91 927 (1 * ρ 1 + 0)) 91 929 (1 * (xop 2 (1 * ρ 1 + 0) (M 93 6)) + 0))
    obtain ⟨W, hW⟩ : ∃ W, W = (sU (sU (sU M 91 928 (1 * ρ 0 + 0)) 91 927 (1 * ρ 1 + 0)) 91 929 (1 * (xop 2 (1 * ρ 1 + 0) (M 93 6)) + 0)) := ⟨_, rfl⟩
    rw [← hW]
    have base : sI0 W := by
      rw [hW]
      exact (si_u0 (si_u0 (si_u0 hI.1 (fun r hr => by cases hr)) (fun r hr => by cases hr)) (fun r hr => by cases hr))
    have k2 : XI2 W := by
      rw [hW]
      exact (xi2_u rfl (xi2_u rfl (xi2_u rfl hI.2.1)))
    have k3 : XI3 W := by
      rw [hW]
      exact (xi3_u rfl (xi3_u rfl (xi3_u rfl hI.2.2.1)))
    have kXA : XA W := by
      rw [hW]
      exact (uXA rfl (uXA rfl (uXA rfl hI.2.2.2.1)))
    have k_xN1 : xN1 W := by
      rw [hW]
      exact (uxN1 rfl (uxN1 rfl (uxN1 rfl hI.2.2.2.2.1)))
    have k_xN2 : xN2 W := by
      rw [hW]
      exact (uxN2 rfl (uxN2 rfl (uxN2 rfl hI.2.2.2.2.2.1)))
    have k_xN3 : xN3 W := by
      have r91_928 : W 91 928 = 1 * ρ 0 + 0 := by rw [hW, sU_ne (fun z => by omega), sU_ne (fun z => by omega), sU_at]
      have r91_929 : W 91 929 = 1 * (xop 2 (1 * ρ 1 + 0) (M 93 6)) + 0 := by rw [hW, sU_at]
      have r91_927 : W 91 927 = 1 * ρ 1 + 0 := by rw [hW, sU_ne (fun z => by omega), sU_at]
      have r93_6 : W 93 6 = M 93 6 := by rw [hW, sU_ne (fun z => by omega), sU_ne (fun z => by omega), sU_ne (fun z => by omega)]
      intro h
      rw [r91_929, r91_927, r93_6, x10]
    have k_xN4 : xN4 W := by
      rw [hW]
      exact (uxN4 rfl (uxN4 rfl (uxN4 rfl hI.2.2.2.2.2.2.2.1)))
    have k_xN5 : xN5 W := by
      rw [hW]
      exact (uxN5 rfl (uxN5 rfl (uxN5 rfl hI.2.2.2.2.2.2.2.2.1)))
    have k_xN6 : xN6 W := by
      rw [hW]
      exact (uxN6 rfl (uxN6 rfl (uxN6 rfl hI.2.2.2.2.2.2.2.2.2.1)))
    have k_xH1 : xH1 W := by
      rw [hW]
      exact (uxH1 rfl (uxH1 rfl (uxH1 rfl hI.2.2.2.2.2.2.2.2.2.2.1)))
    have k_xK1 : xK1 W := by
      rw [hW]
      exact (uxK1 rfl (uxK1 rfl (uxK1 rfl hI.2.2.2.2.2.2.2.2.2.2.2.1)))
    have k_xC1 : xC1 W := by
      rw [hW]
      exact (uxC1 rfl (uxC1 rfl (uxC1 rfl hI.2.2.2.2.2.2.2.2.2.2.2.2.1)))
    have k_xRW : xRW W := by
      rw [hW]
      exact (uxRW rfl (uxRW rfl (uxRW rfl hI.2.2.2.2.2.2.2.2.2.2.2.2.2.1)))
    have k_xWT : xWT W := by
      rw [hW]
      exact (uxWT rfl (uxWT rfl (uxWT rfl hI.2.2.2.2.2.2.2.2.2.2.2.2.2.2.1)))
    have k_xCU : xCU W := by
      rw [hW]
      exact (uxCU rfl (uxCU rfl (uxCU rfl hI.2.2.2.2.2.2.2.2.2.2.2.2.2.2.2.1)))
    have k_xG2 : xG2 W := by
      rw [hW]
      exact (uxG2 rfl (uxG2 rfl (uxG2 rfl hI.2.2.2.2.2.2.2.2.2.2.2.2.2.2.2.2.1)))
    have k_xG3 : xG3 W := by
      rw [hW]
      exact (uxG3 rfl (uxG3 rfl (uxG3 rfl hI.2.2.2.2.2.2.2.2.2.2.2.2.2.2.2.2.2.1)))
    have k_xG4 : xG4 W := by
      rw [hW]
      exact (uxG4 rfl (uxG4 rfl (uxG4 rfl hI.2.2.2.2.2.2.2.2.2.2.2.2.2.2.2.2.2.2.1)))
    have k_xG5 : xG5 W := by
      rw [hW]
      exact (uxG5 rfl (uxG5 rfl (uxG5 rfl hI.2.2.2.2.2.2.2.2.2.2.2.2.2.2.2.2.2.2.2.1)))
    have k_xG6 : xG6 W := by
      rw [hW]
      exact (uxG6 rfl (uxG6 rfl (uxG6 rfl hI.2.2.2.2.2.2.2.2.2.2.2.2.2.2.2.2.2.2.2.2.1)))
    have k_XC : XC W := by
      rw [hW]
      exact (uXC rfl (uXC rfl (uXC rfl hI.2.2.2.2.2.2.2.2.2.2.2.2.2.2.2.2.2.2.2.2.2)))
    have kXB : XB W := ⟨k_xN1, k_xN2, k_xN3, k_xN4, k_xN5, k_xN6, k_xH1, k_xK1, k_xC1, k_xRW, k_xWT, k_xCU, k_xG2, k_xG3, k_xG4, k_xG5, k_xG6, k_XC⟩
    exact ⟨base, k2, k3, kXA, kXB⟩
-- mSet
def xr_105 : qRu := (2, [[(1, 1)], [(2147483647, 0), (-1, 1)]], [], [], [(91, 915, [(1, 0)]), (91, 916, [(1, 1)]), (91, 917, [(1, 2)])], [[(1, 2)], [(23, 0), (-1, 2)]])
theorem xo_105 : qRok xr_105 := by
  intro ρ M h0 hf hm hI
  have f0 := hf [(1, 1)] (by decide)
  have f1 := hf [(2147483647, 0), (-1, 1)] (by decide)
  simp only [qD, h0] at f0 f1
  have qxN4 := hI.2.2.2.2.2.2.2.1
  have hz : 0 ≤ xop 3 (1 * ρ 1 + 0) 24 ∧ xop 3 (1 * ρ 1 + 0) 24 ≤ 23 := x24 (by omega) (by omega)
  refine ⟨fun a => cond (Nat.blt a 2) (ρ a) (([xop 3 (1 * ρ 1 + 0) 24] : List Int).getD (a - 2) 0), fun a ha => ?_, fun f h => ?_, ?_⟩
  · show cond (Nat.blt a 2) (ρ a) _ = ρ a
    rw [show Nat.blt a 2 = true from Nat.ble_eq_true_of_le ha]; rfl
  · have h : f ∈ ([[(1, 2)], [(23, 0), (-1, 2)]] : List qF) := h
    simp only [List.mem_cons, List.not_mem_nil, or_false] at h
    rcases h with rfl | rfl
    · show 0 ≤ 1 * (xop 3 (1 * ρ 1 + 0) 24) + 0
      (try rw [h0]); omega
    · show 0 ≤ 23 * ρ 0 + (-1 * (xop 3 (1 * ρ 1 + 0) 24) + 0)
      (try rw [h0]); omega
  · show sI (sU (sU (sU M 91 915 (1 * ρ 0 + 0)) 91 916 (1 * ρ 1 + 0)) 91 917 (1 * (xop 3 (1 * ρ 1 + 0) 24) + 0))
    obtain ⟨W, hW⟩ : ∃ W, W = (sU (sU (sU M 91 915 (1 * ρ 0 + 0)) 91 916 (1 * ρ 1 + 0)) 91 917 (1 * (xop 3 (1 * ρ 1 + 0) 24) + 0)) := ⟨_, rfl⟩
    rw [← hW]
    have base : sI0 W := by
      rw [hW]
      exact (si_u0 (si_u0 (si_u0 hI.1 (fun r hr => by cases hr)) (fun r hr => by cases hr)) (fun r hr => by cases hr))
    have k2 : XI2 W := by
      rw [hW]
      exact (xi2_u rfl (xi2_u rfl (xi2_u rfl hI.2.1)))
    have k3 : XI3 W := by
      rw [hW]
      exact (xi3_u rfl (xi3_u rfl (xi3_u rfl hI.2.2.1)))
    have kXA : XA W := by
      rw [hW]
      exact (uXA rfl (uXA rfl (uXA rfl hI.2.2.2.1)))
    have k_xN1 : xN1 W := by
      rw [hW]
      exact (uxN1 rfl (uxN1 rfl (uxN1 rfl hI.2.2.2.2.1)))
    have k_xN2 : xN2 W := by
      rw [hW]
      exact (uxN2 rfl (uxN2 rfl (uxN2 rfl hI.2.2.2.2.2.1)))
    have k_xN3 : xN3 W := by
      rw [hW]
      exact (uxN3 rfl (uxN3 rfl (uxN3 rfl hI.2.2.2.2.2.2.1)))
    have k_xN4 : xN4 W := by
      have r91_915 : W 91 915 = 1 * ρ 0 + 0 := by rw [hW, sU_ne (fun z => by omega), sU_ne (fun z => by omega), sU_at]
      have r91_916 : W 91 916 = 1 * ρ 1 + 0 := by rw [hW, sU_ne (fun z => by omega), sU_at]
      have r91_917 : W 91 917 = 1 * (xop 3 (1 * ρ 1 + 0) 24) + 0 := by rw [hW, sU_at]
      intro h
      rw [r91_917, r91_916, x10]
    have k_xN5 : xN5 W := by
      rw [hW]
      exact (uxN5 rfl (uxN5 rfl (uxN5 rfl hI.2.2.2.2.2.2.2.2.1)))
    have k_xN6 : xN6 W := by
      rw [hW]
      exact (uxN6 rfl (uxN6 rfl (uxN6 rfl hI.2.2.2.2.2.2.2.2.2.1)))
    have k_xH1 : xH1 W := by
      rw [hW]
      exact (uxH1 rfl (uxH1 rfl (uxH1 rfl hI.2.2.2.2.2.2.2.2.2.2.1)))
    have k_xK1 : xK1 W := by
      rw [hW]
      exact (uxK1 rfl (uxK1 rfl (uxK1 rfl hI.2.2.2.2.2.2.2.2.2.2.2.1)))
    have k_xC1 : xC1 W := by
      rw [hW]
      exact (uxC1 rfl (uxC1 rfl (uxC1 rfl hI.2.2.2.2.2.2.2.2.2.2.2.2.1)))
    have k_xRW : xRW W := by
      rw [hW]
      exact (uxRW rfl (uxRW rfl (uxRW rfl hI.2.2.2.2.2.2.2.2.2.2.2.2.2.1)))
    have k_xWT : xWT W := by
      rw [hW]
      exact (uxWT rfl (uxWT rfl (uxWT rfl hI.2.2.2.2.2.2.2.2.2.2.2.2.2.2.1)))
    have k_xCU : xCU W := by
      rw [hW]
      exact (uxCU rfl (uxCU rfl (uxCU rfl hI.2.2.2.2.2.2.2.2.2.2.2.2.2.2.2.1)))
    have k_xG2 : xG2 W := by
      rw [hW]
      exact (uxG2 rfl (uxG2 rfl (uxG2 rfl hI.2.2.2.2.2.2.2.2.2.2.2.2.2.2.2.2.1)))
    have k_xG3 : xG3 W := by
      rw [hW]
      exact (uxG3 rfl (uxG3 rfl (uxG3 rfl hI.2.2.2.2.2.2.2.2.2.2.2.2.2.2.2.2.2.1)))
    have k_xG4 : xG4 W := by
      rw [hW]
      exact (uxG4 rfl (uxG4 rfl (uxG4 rfl hI.2.2.2.2.2.2.2.2.2.2.2.2.2.2.2.2.2.2.1)))
    have k_xG5 : xG5 W := by
      rw [hW]
      exact (uxG5 rfl (uxG5 rfl (uxG5 rfl hI.2.2.2.2.2.2.2.2.2.2.2.2.2.2.2.2.2.2.2.1)))
    have k_xG6 : xG6 W := by
      rw [hW]
      exact (uxG6 rfl (uxG6 rfl (uxG6 rfl hI.2.2.2.2.2.2.2.2.2.2.2.2.2.2.2.2.2.2.2.2.1)))
    have k_XC : XC W := by
      rw [hW]
      exact (uXC rfl (uXC rfl (uXC rfl hI.2.2.2.2.2.2.2.2.2.2.2.2.2.2.2.2.2.2.2.2.2)))
    have kXB : XB W := ⟨k_xN1, k_xN2, k_xN3, k_xN4, k_xN5, k_xN6, k_xH1, k_xK1, k_xC1, k_xRW, k_xWT, k_xCU, k_xG2, k_xG3, k_xG4, k_xG5, k_xG6, k_XC⟩
    exact ⟨base, k2, k3, kXA, kXB⟩
-- mSet2
def xr_106 : qRu := (2, [[(1, 1)], [(2147483647, 0), (-1, 1)]], [], [], [(91, 907, [(1, 0)]), (91, 908, [(1, 1)]), (91, 906, [(1, 2)])], [[(1, 2)], [(23, 0), (-1, 2)]])
theorem xo_106 : qRok xr_106 := by
  intro ρ M h0 hf hm hI
  have f0 := hf [(1, 1)] (by decide)
  have f1 := hf [(2147483647, 0), (-1, 1)] (by decide)
  simp only [qD, h0] at f0 f1
  have qxN5 := hI.2.2.2.2.2.2.2.2.1
  have hz : 0 ≤ xop 3 (1 * ρ 1 + 0) 24 ∧ xop 3 (1 * ρ 1 + 0) 24 ≤ 23 := x24 (by omega) (by omega)
  refine ⟨fun a => cond (Nat.blt a 2) (ρ a) (([xop 3 (1 * ρ 1 + 0) 24] : List Int).getD (a - 2) 0), fun a ha => ?_, fun f h => ?_, ?_⟩
  · show cond (Nat.blt a 2) (ρ a) _ = ρ a
    rw [show Nat.blt a 2 = true from Nat.ble_eq_true_of_le ha]; rfl
  · have h : f ∈ ([[(1, 2)], [(23, 0), (-1, 2)]] : List qF) := h
    simp only [List.mem_cons, List.not_mem_nil, or_false] at h
    rcases h with rfl | rfl
    · show 0 ≤ 1 * (xop 3 (1 * ρ 1 + 0) 24) + 0
      (try rw [h0]); omega
    · show 0 ≤ 23 * ρ 0 + (-1 * (xop 3 (1 * ρ 1 + 0) 24) + 0)
      (try rw [h0]); omega
  · show sI (sU (sU (sU M 91 907 (1 * ρ 0 + 0)) 91 908 (1 * ρ 1 + 0)) 91 906 (1 * (xop 3 (1 * ρ 1 + 0) 24) + 0))
    obtain ⟨W, hW⟩ : ∃ W, W = (sU (sU (sU M 91 907 (1 * ρ 0 + 0)) 91 908 (1 * ρ 1 + 0)) 91 906 (1 * (xop 3 (1 * ρ 1 + 0) 24) + 0)) := ⟨_, rfl⟩
    rw [← hW]
    have base : sI0 W := by
      rw [hW]
      exact (si_u0 (si_u0 (si_u0 hI.1 (fun r hr => by cases hr)) (fun r hr => by cases hr)) (fun r hr => by cases hr))
    have k2 : XI2 W := by
      rw [hW]
      exact (xi2_u rfl (xi2_u rfl (xi2_u rfl hI.2.1)))
    have k3 : XI3 W := by
      rw [hW]
      exact (xi3_u rfl (xi3_u rfl (xi3_u rfl hI.2.2.1)))
    have kXA : XA W := by
      rw [hW]
      exact (uXA rfl (uXA rfl (uXA rfl hI.2.2.2.1)))
    have k_xN1 : xN1 W := by
      rw [hW]
      exact (uxN1 rfl (uxN1 rfl (uxN1 rfl hI.2.2.2.2.1)))
    have k_xN2 : xN2 W := by
      rw [hW]
      exact (uxN2 rfl (uxN2 rfl (uxN2 rfl hI.2.2.2.2.2.1)))
    have k_xN3 : xN3 W := by
      rw [hW]
      exact (uxN3 rfl (uxN3 rfl (uxN3 rfl hI.2.2.2.2.2.2.1)))
    have k_xN4 : xN4 W := by
      rw [hW]
      exact (uxN4 rfl (uxN4 rfl (uxN4 rfl hI.2.2.2.2.2.2.2.1)))
    have k_xN5 : xN5 W := by
      have r91_907 : W 91 907 = 1 * ρ 0 + 0 := by rw [hW, sU_ne (fun z => by omega), sU_ne (fun z => by omega), sU_at]
      have r91_906 : W 91 906 = 1 * (xop 3 (1 * ρ 1 + 0) 24) + 0 := by rw [hW, sU_at]
      have r91_908 : W 91 908 = 1 * ρ 1 + 0 := by rw [hW, sU_ne (fun z => by omega), sU_at]
      intro h
      rw [r91_906, r91_908, x10]
    have k_xN6 : xN6 W := by
      rw [hW]
      exact (uxN6 rfl (uxN6 rfl (uxN6 rfl hI.2.2.2.2.2.2.2.2.2.1)))
    have k_xH1 : xH1 W := by
      rw [hW]
      exact (uxH1 rfl (uxH1 rfl (uxH1 rfl hI.2.2.2.2.2.2.2.2.2.2.1)))
    have k_xK1 : xK1 W := by
      rw [hW]
      exact (uxK1 rfl (uxK1 rfl (uxK1 rfl hI.2.2.2.2.2.2.2.2.2.2.2.1)))
    have k_xC1 : xC1 W := by
      rw [hW]
      exact (uxC1 rfl (uxC1 rfl (uxC1 rfl hI.2.2.2.2.2.2.2.2.2.2.2.2.1)))
    have k_xRW : xRW W := by
      rw [hW]
      exact (uxRW rfl (uxRW rfl (uxRW rfl hI.2.2.2.2.2.2.2.2.2.2.2.2.2.1)))
    have k_xWT : xWT W := by
      rw [hW]
      exact (uxWT rfl (uxWT rfl (uxWT rfl hI.2.2.2.2.2.2.2.2.2.2.2.2.2.2.1)))
    have k_xCU : xCU W := by
      rw [hW]
      exact (uxCU rfl (uxCU rfl (uxCU rfl hI.2.2.2.2.2.2.2.2.2.2.2.2.2.2.2.1)))
    have k_xG2 : xG2 W := by
      rw [hW]
      exact (uxG2 rfl (uxG2 rfl (uxG2 rfl hI.2.2.2.2.2.2.2.2.2.2.2.2.2.2.2.2.1)))
    have k_xG3 : xG3 W := by
      rw [hW]
      exact (uxG3 rfl (uxG3 rfl (uxG3 rfl hI.2.2.2.2.2.2.2.2.2.2.2.2.2.2.2.2.2.1)))
    have k_xG4 : xG4 W := by
      rw [hW]
      exact (uxG4 rfl (uxG4 rfl (uxG4 rfl hI.2.2.2.2.2.2.2.2.2.2.2.2.2.2.2.2.2.2.1)))
    have k_xG5 : xG5 W := by
      rw [hW]
      exact (uxG5 rfl (uxG5 rfl (uxG5 rfl hI.2.2.2.2.2.2.2.2.2.2.2.2.2.2.2.2.2.2.2.1)))
    have k_xG6 : xG6 W := by
      rw [hW]
      exact (uxG6 rfl (uxG6 rfl (uxG6 rfl hI.2.2.2.2.2.2.2.2.2.2.2.2.2.2.2.2.2.2.2.2.1)))
    have k_XC : XC W := by
      rw [hW]
      exact (uXC rfl (uXC rfl (uXC rfl hI.2.2.2.2.2.2.2.2.2.2.2.2.2.2.2.2.2.2.2.2.2)))
    have kXB : XB W := ⟨k_xN1, k_xN2, k_xN3, k_xN4, k_xN5, k_xN6, k_xH1, k_xK1, k_xC1, k_xRW, k_xWT, k_xCU, k_xG2, k_xG3, k_xG4, k_xG5, k_xG6, k_XC⟩
    exact ⟨base, k2, k3, kXA, kXB⟩
-- tSet
def xr_107 : qRu := (3, [], [], [], [(91, 876, [(1, 0)]), (91, 877, [(1, 1)]), (91, 878, [(1, 2)]), (91, 879, [(1, 3)])], [[(1, 3)], [(1, 0), (-1, 3)]])
theorem xo_107 : qRok xr_107 := by
  intro ρ M h0 hf hm hI
  have qxN6 := hI.2.2.2.2.2.2.2.2.2.1
  have hb := xlt_b (1 * ρ 1 + 0) (1 * ρ 2 + 0)
  refine ⟨fun a => cond (Nat.blt a 3) (ρ a) (([xlt (1 * ρ 1 + 0) (1 * ρ 2 + 0)] : List Int).getD (a - 3) 0), fun a ha => ?_, fun f h => ?_, ?_⟩
  · show cond (Nat.blt a 3) (ρ a) _ = ρ a
    rw [show Nat.blt a 3 = true from Nat.ble_eq_true_of_le ha]; rfl
  · have h : f ∈ ([[(1, 3)], [(1, 0), (-1, 3)]] : List qF) := h
    simp only [List.mem_cons, List.not_mem_nil, or_false] at h
    rcases h with rfl | rfl
    · show 0 ≤ 1 * (xlt (1 * ρ 1 + 0) (1 * ρ 2 + 0)) + 0
      (try rw [h0]); omega
    · show 0 ≤ 1 * ρ 0 + (-1 * (xlt (1 * ρ 1 + 0) (1 * ρ 2 + 0)) + 0)
      (try rw [h0]); omega
  · show sI (sU (sU (sU (sU M 91 876 (1 * ρ 0 + 0)) 91 877 (1 * ρ 1 + 0)) 91 878 (1 * ρ 2 + 0)) 91 879 (1 * (xlt (1 * ρ 1 + 0) (1 * ρ 2 + 0)) + 0))
    obtain ⟨W, hW⟩ : ∃ W, W = (sU (sU (sU (sU M 91 876 (1 * ρ 0 + 0)) 91 877 (1 * ρ 1 + 0)) 91 878 (1 * ρ 2 + 0)) 91 879 (1 * (xlt (1 * ρ 1 + 0) (1 * ρ 2 + 0)) + 0)) := ⟨_, rfl⟩
    rw [← hW]
    have base : sI0 W := by
      rw [hW]
      exact (si_u0 (si_u0 (si_u0 (si_u0 hI.1 (fun r hr => by cases hr)) (fun r hr => by cases hr)) (fun r hr => by cases hr)) (fun r hr => by cases hr))
    have k2 : XI2 W := by
      rw [hW]
      exact (xi2_u rfl (xi2_u rfl (xi2_u rfl (xi2_u rfl hI.2.1))))
    have k3 : XI3 W := by
      rw [hW]
      exact (xi3_u rfl (xi3_u rfl (xi3_u rfl (xi3_u rfl hI.2.2.1))))
    have kXA : XA W := by
      rw [hW]
      exact (uXA rfl (uXA rfl (uXA rfl (uXA rfl hI.2.2.2.1))))
    have k_xN1 : xN1 W := by
      rw [hW]
      exact (uxN1 rfl (uxN1 rfl (uxN1 rfl (uxN1 rfl hI.2.2.2.2.1))))
    have k_xN2 : xN2 W := by
      rw [hW]
      exact (uxN2 rfl (uxN2 rfl (uxN2 rfl (uxN2 rfl hI.2.2.2.2.2.1))))
    have k_xN3 : xN3 W := by
      rw [hW]
      exact (uxN3 rfl (uxN3 rfl (uxN3 rfl (uxN3 rfl hI.2.2.2.2.2.2.1))))
    have k_xN4 : xN4 W := by
      rw [hW]
      exact (uxN4 rfl (uxN4 rfl (uxN4 rfl (uxN4 rfl hI.2.2.2.2.2.2.2.1))))
    have k_xN5 : xN5 W := by
      rw [hW]
      exact (uxN5 rfl (uxN5 rfl (uxN5 rfl (uxN5 rfl hI.2.2.2.2.2.2.2.2.1))))
    have k_xN6 : xN6 W := by
      have r91_876 : W 91 876 = 1 * ρ 0 + 0 := by rw [hW, sU_ne (fun z => by omega), sU_ne (fun z => by omega), sU_ne (fun z => by omega), sU_at]
      have r91_877 : W 91 877 = 1 * ρ 1 + 0 := by rw [hW, sU_ne (fun z => by omega), sU_ne (fun z => by omega), sU_at]
      have r91_878 : W 91 878 = 1 * ρ 2 + 0 := by rw [hW, sU_ne (fun z => by omega), sU_at]
      have r91_879 : W 91 879 = 1 * (xlt (1 * ρ 1 + 0) (1 * ρ 2 + 0)) + 0 := by rw [hW, sU_at]
      intro h
      rw [r91_877, r91_878, r91_879, x10]
    have k_xH1 : xH1 W := by
      rw [hW]
      exact (uxH1 rfl (uxH1 rfl (uxH1 rfl (uxH1 rfl hI.2.2.2.2.2.2.2.2.2.2.1))))
    have k_xK1 : xK1 W := by
      rw [hW]
      exact (uxK1 rfl (uxK1 rfl (uxK1 rfl (uxK1 rfl hI.2.2.2.2.2.2.2.2.2.2.2.1))))
    have k_xC1 : xC1 W := by
      rw [hW]
      exact (uxC1 rfl (uxC1 rfl (uxC1 rfl (uxC1 rfl hI.2.2.2.2.2.2.2.2.2.2.2.2.1))))
    have k_xRW : xRW W := by
      rw [hW]
      exact (uxRW rfl (uxRW rfl (uxRW rfl (uxRW rfl hI.2.2.2.2.2.2.2.2.2.2.2.2.2.1))))
    have k_xWT : xWT W := by
      rw [hW]
      exact (uxWT rfl (uxWT rfl (uxWT rfl (uxWT rfl hI.2.2.2.2.2.2.2.2.2.2.2.2.2.2.1))))
    have k_xCU : xCU W := by
      rw [hW]
      exact (uxCU rfl (uxCU rfl (uxCU rfl (uxCU rfl hI.2.2.2.2.2.2.2.2.2.2.2.2.2.2.2.1))))
    have k_xG2 : xG2 W := by
      rw [hW]
      exact (uxG2 rfl (uxG2 rfl (uxG2 rfl (uxG2 rfl hI.2.2.2.2.2.2.2.2.2.2.2.2.2.2.2.2.1))))
    have k_xG3 : xG3 W := by
      rw [hW]
      exact (uxG3 rfl (uxG3 rfl (uxG3 rfl (uxG3 rfl hI.2.2.2.2.2.2.2.2.2.2.2.2.2.2.2.2.2.1))))
    have k_xG4 : xG4 W := by
      rw [hW]
      exact (uxG4 rfl (uxG4 rfl (uxG4 rfl (uxG4 rfl hI.2.2.2.2.2.2.2.2.2.2.2.2.2.2.2.2.2.2.1))))
    have k_xG5 : xG5 W := by
      rw [hW]
      exact (uxG5 rfl (uxG5 rfl (uxG5 rfl (uxG5 rfl hI.2.2.2.2.2.2.2.2.2.2.2.2.2.2.2.2.2.2.2.1))))
    have k_xG6 : xG6 W := by
      rw [hW]
      exact (uxG6 rfl (uxG6 rfl (uxG6 rfl (uxG6 rfl hI.2.2.2.2.2.2.2.2.2.2.2.2.2.2.2.2.2.2.2.2.1))))
    have k_XC : XC W := by
      rw [hW]
      exact (uXC rfl (uXC rfl (uXC rfl (uXC rfl hI.2.2.2.2.2.2.2.2.2.2.2.2.2.2.2.2.2.2.2.2.2))))
    have kXB : XB W := ⟨k_xN1, k_xN2, k_xN3, k_xN4, k_xN5, k_xN6, k_xH1, k_xK1, k_xC1, k_xRW, k_xWT, k_xCU, k_xG2, k_xG3, k_xG4, k_xG5, k_xG6, k_XC⟩
    exact ⟨base, k2, k3, kXA, kXB⟩
-- hSet
def xr_108 : qRu := (4, [], [], [], [(91, 919, [(1, 0)]), (91, 921, [(1, 1)]), (91, 922, [(1, 2)]), (91, 923, [(1, 3)]), (91, 920, [(1, 4)])], [[(1, 4)], [(1, 0), (-1, 4)]])
theorem xo_108 : qRok xr_108 := by
  intro ρ M h0 hf hm hI
  have qxH1 := hI.2.2.2.2.2.2.2.2.2.2.1
  have hb : 0 ≤ xhV M (1 * ρ 1 + 0) (1 * ρ 2 + 0) (1 * ρ 3 + 0) ∧ xhV M (1 * ρ 1 + 0) (1 * ρ 2 + 0) (1 * ρ 3 + 0) ≤ 1 := by
    unfold xhV
    have := xlt_b (xnV M (M 115 0) (M 116 0) (1 * ρ 1 + 0) (1 * ρ 2 + 0) (xop 3 (1 * ρ 3 + 0 + (1 * ρ 2 + 0)) 24)) (-(M 93 4))
    omega
  refine ⟨fun a => cond (Nat.blt a 4) (ρ a) (([xhV M (1 * ρ 1 + 0) (1 * ρ 2 + 0) (1 * ρ 3 + 0)] : List Int).getD (a - 4) 0), fun a ha => ?_, fun f h => ?_, ?_⟩
  · show cond (Nat.blt a 4) (ρ a) _ = ρ a
    rw [show Nat.blt a 4 = true from Nat.ble_eq_true_of_le ha]; rfl
  · have h : f ∈ ([[(1, 4)], [(1, 0), (-1, 4)]] : List qF) := h
    simp only [List.mem_cons, List.not_mem_nil, or_false] at h
    rcases h with rfl | rfl
    · show 0 ≤ 1 * (xhV M (1 * ρ 1 + 0) (1 * ρ 2 + 0) (1 * ρ 3 + 0)) + 0
      (try rw [h0]); omega
    · show 0 ≤ 1 * ρ 0 + (-1 * (xhV M (1 * ρ 1 + 0) (1 * ρ 2 + 0) (1 * ρ 3 + 0)) + 0)
      (try rw [h0]); omega
  · show sI (sU (sU (sU (sU (sU M 91 919 (1 * ρ 0 + 0)) 91 921 (1 * ρ 1 + 0)) 91 922 (1 * ρ 2 + 0)) 91 923 (1 * ρ 3 + 0)) 91 920 (1 * (xhV M (1 * ρ 1 + 0) (1 * ρ 2 + 0) (1 * ρ 3 + 0)) + 0))
    obtain ⟨W, hW⟩ : ∃ W, W = (sU (sU (sU (sU (sU M 91 919 (1 * ρ 0 + 0)) 91 921 (1 * ρ 1 + 0)) 91 922 (1 * ρ 2 + 0)) 91 923 (1 * ρ 3 + 0)) 91 920 (1 * (xhV M (1 * ρ 1 + 0) (1 * ρ 2 + 0) (1 * ρ 3 + 0)) + 0)) := ⟨_, rfl⟩
    rw [← hW]
    have base : sI0 W := by
      rw [hW]
      exact (si_u0 (si_u0 (si_u0 (si_u0 (si_u0 hI.1 (fun r hr => by cases hr)) (fun r hr => by cases hr)) (fun r hr => by cases hr)) (fun r hr => by cases hr)) (fun r hr => by cases hr))
    have k2 : XI2 W := by
      rw [hW]
      exact (xi2_u rfl (xi2_u rfl (xi2_u rfl (xi2_u rfl (xi2_u rfl hI.2.1)))))
    have k3 : XI3 W := by
      rw [hW]
      exact (xi3_u rfl (xi3_u rfl (xi3_u rfl (xi3_u rfl (xi3_u rfl hI.2.2.1)))))
    have kXA : XA W := by
      rw [hW]
      exact (uXA rfl (uXA rfl (uXA rfl (uXA rfl (uXA rfl hI.2.2.2.1)))))
    have k_xN1 : xN1 W := by
      rw [hW]
      exact (uxN1 rfl (uxN1 rfl (uxN1 rfl (uxN1 rfl (uxN1 rfl hI.2.2.2.2.1)))))
    have k_xN2 : xN2 W := by
      rw [hW]
      exact (uxN2 rfl (uxN2 rfl (uxN2 rfl (uxN2 rfl (uxN2 rfl hI.2.2.2.2.2.1)))))
    have k_xN3 : xN3 W := by
      rw [hW]
      exact (uxN3 rfl (uxN3 rfl (uxN3 rfl (uxN3 rfl (uxN3 rfl hI.2.2.2.2.2.2.1)))))
    have k_xN4 : xN4 W := by
      rw [hW]
      exact (uxN4 rfl (uxN4 rfl (uxN4 rfl (uxN4 rfl (uxN4 rfl hI.2.2.2.2.2.2.2.1)))))
    have k_xN5 : xN5 W := by
      rw [hW]
      exact (uxN5 rfl (uxN5 rfl (uxN5 rfl (uxN5 rfl (uxN5 rfl hI.2.2.2.2.2.2.2.2.1)))))
    have k_xN6 : xN6 W := by
      rw [hW]
      exact (uxN6 rfl (uxN6 rfl (uxN6 rfl (uxN6 rfl (uxN6 rfl hI.2.2.2.2.2.2.2.2.2.1)))))
    have k_xH1 : xH1 W := by
      have r91_919 : W 91 919 = 1 * ρ 0 + 0 := by rw [hW, sU_ne (fun z => by omega), sU_ne (fun z => by omega), sU_ne (fun z => by omega), sU_ne (fun z => by omega), sU_at]
      have r91_920 : W 91 920 = 1 * (xhV M (1 * ρ 1 + 0) (1 * ρ 2 + 0) (1 * ρ 3 + 0)) + 0 := by rw [hW, sU_at]
      have r91_921 : W 91 921 = 1 * ρ 1 + 0 := by rw [hW, sU_ne (fun z => by omega), sU_ne (fun z => by omega), sU_ne (fun z => by omega), sU_at]
      have r91_922 : W 91 922 = 1 * ρ 2 + 0 := by rw [hW, sU_ne (fun z => by omega), sU_ne (fun z => by omega), sU_at]
      have r91_923 : W 91 923 = 1 * ρ 3 + 0 := by rw [hW, sU_ne (fun z => by omega), sU_at]
      have r93_1 : W 93 1 = M 93 1 := by rw [hW, sU_ne (fun z => by omega), sU_ne (fun z => by omega), sU_ne (fun z => by omega), sU_ne (fun z => by omega), sU_ne (fun z => by omega)]
      have r93_2 : W 93 2 = M 93 2 := by rw [hW, sU_ne (fun z => by omega), sU_ne (fun z => by omega), sU_ne (fun z => by omega), sU_ne (fun z => by omega), sU_ne (fun z => by omega)]
      have r93_4 : W 93 4 = M 93 4 := by rw [hW, sU_ne (fun z => by omega), sU_ne (fun z => by omega), sU_ne (fun z => by omega), sU_ne (fun z => by omega), sU_ne (fun z => by omega)]
      have r93_6 : W 93 6 = M 93 6 := by rw [hW, sU_ne (fun z => by omega), sU_ne (fun z => by omega), sU_ne (fun z => by omega), sU_ne (fun z => by omega), sU_ne (fun z => by omega)]
      have r115_0 : W 115 0 = M 115 0 := by rw [hW, sU_ne (fun z => by omega), sU_ne (fun z => by omega), sU_ne (fun z => by omega), sU_ne (fun z => by omega), sU_ne (fun z => by omega)]
      have r116_0 : W 116 0 = M 116 0 := by rw [hW, sU_ne (fun z => by omega), sU_ne (fun z => by omega), sU_ne (fun z => by omega), sU_ne (fun z => by omega), sU_ne (fun z => by omega)]
      have c101 : ∀ k, W 101 k = M 101 k := fun k => by rw [hW, sU_ne (fun z => by omega), sU_ne (fun z => by omega), sU_ne (fun z => by omega), sU_ne (fun z => by omega), sU_ne (fun z => by omega)]
      have c122 : ∀ k, W 122 k = M 122 k := fun k => by rw [hW, sU_ne (fun z => by omega), sU_ne (fun z => by omega), sU_ne (fun z => by omega), sU_ne (fun z => by omega), sU_ne (fun z => by omega)]
      intro h
      rw [r91_920, r91_921, r91_922, r91_923, x10, xhv_c r93_1 r93_2 r93_4 r93_6 c101 c122 r115_0 r116_0]
    have k_xK1 : xK1 W := by
      rw [hW]
      exact (uxK1 rfl (uxK1 rfl (uxK1 rfl (uxK1 rfl (uxK1 rfl hI.2.2.2.2.2.2.2.2.2.2.2.1)))))
    have k_xC1 : xC1 W := by
      rw [hW]
      exact (uxC1 rfl (uxC1 rfl (uxC1 rfl (uxC1 rfl (uxC1 rfl hI.2.2.2.2.2.2.2.2.2.2.2.2.1)))))
    have k_xRW : xRW W := by
      rw [hW]
      exact (uxRW rfl (uxRW rfl (uxRW rfl (uxRW rfl (uxRW rfl hI.2.2.2.2.2.2.2.2.2.2.2.2.2.1)))))
    have k_xWT : xWT W := by
      rw [hW]
      exact (uxWT rfl (uxWT rfl (uxWT rfl (uxWT rfl (uxWT rfl hI.2.2.2.2.2.2.2.2.2.2.2.2.2.2.1)))))
    have k_xCU : xCU W := by
      rw [hW]
      exact (uxCU rfl (uxCU rfl (uxCU rfl (uxCU rfl (uxCU rfl hI.2.2.2.2.2.2.2.2.2.2.2.2.2.2.2.1)))))
    have k_xG2 : xG2 W := by
      rw [hW]
      exact (uxG2 rfl (uxG2 rfl (uxG2 rfl (uxG2 rfl (uxG2 rfl hI.2.2.2.2.2.2.2.2.2.2.2.2.2.2.2.2.1)))))
    have k_xG3 : xG3 W := by
      rw [hW]
      exact (uxG3 rfl (uxG3 rfl (uxG3 rfl (uxG3 rfl (uxG3 rfl hI.2.2.2.2.2.2.2.2.2.2.2.2.2.2.2.2.2.1)))))
    have k_xG4 : xG4 W := by
      rw [hW]
      exact (uxG4 rfl (uxG4 rfl (uxG4 rfl (uxG4 rfl (uxG4 rfl hI.2.2.2.2.2.2.2.2.2.2.2.2.2.2.2.2.2.2.1)))))
    have k_xG5 : xG5 W := by
      rw [hW]
      exact (uxG5 rfl (uxG5 rfl (uxG5 rfl (uxG5 rfl (uxG5 rfl hI.2.2.2.2.2.2.2.2.2.2.2.2.2.2.2.2.2.2.2.1)))))
    have k_xG6 : xG6 W := by
      rw [hW]
      exact (uxG6 rfl (uxG6 rfl (uxG6 rfl (uxG6 rfl (uxG6 rfl hI.2.2.2.2.2.2.2.2.2.2.2.2.2.2.2.2.2.2.2.2.1)))))
    have k_XC : XC W := by
      rw [hW]
      exact (uXC rfl (uXC rfl (uXC rfl (uXC rfl (uXC rfl hI.2.2.2.2.2.2.2.2.2.2.2.2.2.2.2.2.2.2.2.2.2)))))
    have kXB : XB W := ⟨k_xN1, k_xN2, k_xN3, k_xN4, k_xN5, k_xN6, k_xH1, k_xK1, k_xC1, k_xRW, k_xWT, k_xCU, k_xG2, k_xG3, k_xG4, k_xG5, k_xG6, k_XC⟩
    exact ⟨base, k2, k3, kXA, kXB⟩
-- hVal
def xr_109 : qRu := (21, [[(1, 1), (-1, 9)], [(-1, 1), (1, 9)], [(1, 2), (-1, 10)], [(-1, 2), (1, 10)], [(1, 3), (-1, 12)], [(-1, 3), (1, 12)], [(1, 4), (-1, 13)], [(-1, 4), (1, 13)], [(-1, 13), (-1, 14), (1, 15)], [(1, 13), (1, 14), (-1, 15)], [(1, 5), (-1, 16)], [(-1, 5), (1, 16)], [(-1, 6), (1, 7), (-1, 8), (1, 18)], [(1, 6), (-1, 7), (1, 8), (-1, 18)], [(1, 19), (1, 20)], [(-1, 19), (-1, 20)]], [(91, 949, [(1, 0)]), (91, 950, [(1, 1)]), (91, 955, [(1, 6)]), (91, 930, [(1, 0)]), (91, 931, [(1, 2)]), (91, 932, [(1, 4)]), (91, 933, [(1, 5)]), (91, 939, [(1, 7)]), (91, 928, [(1, 0)]), (91, 927, [(1, 3)]), (91, 929, [(1, 8)]), (115, 0, [(1, 9)]), (116, 0, [(1, 10)]), (91, 919, [(1, 0)]), (91, 920, [(1, 11)]), (91, 921, [(1, 12)]), (91, 922, [(1, 13)]), (91, 923, [(1, 14)]), (91, 915, [(1, 0)]), (91, 916, [(1, 15)]), (91, 917, [(1, 16)]), (91, 876, [(1, 0)]), (91, 879, [(1, 17)]), (91, 877, [(1, 18)]), (91, 878, [(1, 19)]), (93, 4, [(1, 20)])], [], [], [[(-1, 0), (1, 11), (1, 17)], [(1, 0), (-1, 11), (-1, 17)]])
theorem xo_109 : qRok xr_109 := by
  intro ρ M h0 hf hm hI
  have f0 := hf [(1, 1), (-1, 9)] (by decide)
  have f1 := hf [(-1, 1), (1, 9)] (by decide)
  have f2 := hf [(1, 2), (-1, 10)] (by decide)
  have f3 := hf [(-1, 2), (1, 10)] (by decide)
  have f4 := hf [(1, 3), (-1, 12)] (by decide)
  have f5 := hf [(-1, 3), (1, 12)] (by decide)
  have f6 := hf [(1, 4), (-1, 13)] (by decide)
  have f7 := hf [(-1, 4), (1, 13)] (by decide)
  have f8 := hf [(-1, 13), (-1, 14), (1, 15)] (by decide)
  have f9 := hf [(1, 13), (1, 14), (-1, 15)] (by decide)
  have f10 := hf [(1, 5), (-1, 16)] (by decide)
  have f11 := hf [(-1, 5), (1, 16)] (by decide)
  have f12 := hf [(-1, 6), (1, 7), (-1, 8), (1, 18)] (by decide)
  have f13 := hf [(1, 6), (-1, 7), (1, 8), (-1, 18)] (by decide)
  have f14 := hf [(1, 19), (1, 20)] (by decide)
  have f15 := hf [(-1, 19), (-1, 20)] (by decide)
  simp only [qD, h0] at f0 f1 f2 f3 f4 f5 f6 f7 f8 f9 f10 f11 f12 f13 f14 f15
  have m0 : M 91 949 = 1 * ρ 0 + 0 := hm (91, 949, [(1, 0)]) (by decide)
  have m1 : M 91 950 = 1 * ρ 1 + 0 := hm (91, 950, [(1, 1)]) (by decide)
  have m2 : M 91 955 = 1 * ρ 6 + 0 := hm (91, 955, [(1, 6)]) (by decide)
  have m3 : M 91 930 = 1 * ρ 0 + 0 := hm (91, 930, [(1, 0)]) (by decide)
  have m4 : M 91 931 = 1 * ρ 2 + 0 := hm (91, 931, [(1, 2)]) (by decide)
  have m5 : M 91 932 = 1 * ρ 4 + 0 := hm (91, 932, [(1, 4)]) (by decide)
  have m6 : M 91 933 = 1 * ρ 5 + 0 := hm (91, 933, [(1, 5)]) (by decide)
  have m7 : M 91 939 = 1 * ρ 7 + 0 := hm (91, 939, [(1, 7)]) (by decide)
  have m8 : M 91 928 = 1 * ρ 0 + 0 := hm (91, 928, [(1, 0)]) (by decide)
  have m9 : M 91 927 = 1 * ρ 3 + 0 := hm (91, 927, [(1, 3)]) (by decide)
  have m10 : M 91 929 = 1 * ρ 8 + 0 := hm (91, 929, [(1, 8)]) (by decide)
  have m11 : M 115 0 = 1 * ρ 9 + 0 := hm (115, 0, [(1, 9)]) (by decide)
  have m12 : M 116 0 = 1 * ρ 10 + 0 := hm (116, 0, [(1, 10)]) (by decide)
  have m13 : M 91 919 = 1 * ρ 0 + 0 := hm (91, 919, [(1, 0)]) (by decide)
  have m14 : M 91 920 = 1 * ρ 11 + 0 := hm (91, 920, [(1, 11)]) (by decide)
  have m15 : M 91 921 = 1 * ρ 12 + 0 := hm (91, 921, [(1, 12)]) (by decide)
  have m16 : M 91 922 = 1 * ρ 13 + 0 := hm (91, 922, [(1, 13)]) (by decide)
  have m17 : M 91 923 = 1 * ρ 14 + 0 := hm (91, 923, [(1, 14)]) (by decide)
  have m18 : M 91 915 = 1 * ρ 0 + 0 := hm (91, 915, [(1, 0)]) (by decide)
  have m19 : M 91 916 = 1 * ρ 15 + 0 := hm (91, 916, [(1, 15)]) (by decide)
  have m20 : M 91 917 = 1 * ρ 16 + 0 := hm (91, 917, [(1, 16)]) (by decide)
  have m21 : M 91 876 = 1 * ρ 0 + 0 := hm (91, 876, [(1, 0)]) (by decide)
  have m22 : M 91 879 = 1 * ρ 17 + 0 := hm (91, 879, [(1, 17)]) (by decide)
  have m23 : M 91 877 = 1 * ρ 18 + 0 := hm (91, 877, [(1, 18)]) (by decide)
  have m24 : M 91 878 = 1 * ρ 19 + 0 := hm (91, 878, [(1, 19)]) (by decide)
  have m25 : M 93 4 = 1 * ρ 20 + 0 := hm (93, 4, [(1, 20)]) (by decide)
  simp only [h0] at m0 m3 m8 m13 m18 m21
  have qxN1 := hI.2.2.2.2.1
  have qxN2 := hI.2.2.2.2.2.1
  have qxN3 := hI.2.2.2.2.2.2.1
  have qxN4 := hI.2.2.2.2.2.2.2.1
  have qxN6 := hI.2.2.2.2.2.2.2.2.2.1
  have qxH1 := hI.2.2.2.2.2.2.2.2.2.2.1
  have hnv : xnV M (M 115 0) (M 116 0) (M 91 927) (M 91 932) (M 91 933) = ρ 8 + ρ 6 - ρ 7 := by
    have e1 := qxN1 (by omega)
    have e2 := qxN2 (by omega)
    have e3 : M 91 929 = M 91 927 * M 93 6 := qxN3 (by omega)
    unfold xnV
    rw [show M 115 0 = M 91 950 by omega, show M 116 0 = M 91 931 by omega, ← e1.2.2.2.2, ← e2.2.2.2.2.2.2, ← e3]
    omega

  have e4 := qxN4 (by omega)
  have e6 := qxN6 (by omega)
  have eh := qxH1 (by omega)
  unfold xhV at eh
  rw [show M 91 923 + M 91 922 = M 91 916 by omega, ← e4, show M 91 921 = M 91 927 by omega, show M 91 922 = M 91 932 by omega, show M 91 917 = M 91 933 by omega, hnv, show ρ 8 + ρ 6 - ρ 7 = M 91 877 by omega, show -(M 93 4) = M 91 878 by omega, ← e6] at eh
  refine ⟨ρ, fun _ _ => rfl, fun f h => ?_, ?_⟩
  · have h : f ∈ ([[(-1, 0), (1, 11), (1, 17)], [(1, 0), (-1, 11), (-1, 17)]] : List qF) := h
    simp only [List.mem_cons, List.not_mem_nil, or_false] at h
    rcases h with rfl | rfl
    · show 0 ≤ -1 * ρ 0 + (1 * ρ 11 + (1 * ρ 17 + 0))
      (try rw [h0]); omega
    · show 0 ≤ 1 * ρ 0 + (-1 * ρ 11 + (-1 * ρ 17 + 0))
      (try rw [h0]); omega
  · show sI M
    exact hI
-- kSet
def xr_110 : qRu := (4, [], [], [], [(91, 909, [(1, 0)]), (91, 911, [(1, 1)]), (91, 912, [(1, 2)]), (91, 913, [(1, 3)]), (91, 914, []), (91, 910, [(1, 4)])], [[(1, 4)], [(1, 0), (-1, 4)]])
theorem xo_110 : qRok xr_110 := by
  intro ρ M h0 hf hm hI
  have qxK1 := hI.2.2.2.2.2.2.2.2.2.2.2.1
  have hb : 0 ≤ xcO M (1 * ρ 1 + 0) (1 * ρ 2 + 0) (1 * ρ 3 + 0) ∧ xcO M (1 * ρ 1 + 0) (1 * ρ 2 + 0) (1 * ρ 3 + 0) ≤ 1 := by
    unfold xcO
    split <;> omega
  refine ⟨fun a => cond (Nat.blt a 4) (ρ a) (([xcO M (1 * ρ 1 + 0) (1 * ρ 2 + 0) (1 * ρ 3 + 0)] : List Int).getD (a - 4) 0), fun a ha => ?_, fun f h => ?_, ?_⟩
  · show cond (Nat.blt a 4) (ρ a) _ = ρ a
    rw [show Nat.blt a 4 = true from Nat.ble_eq_true_of_le ha]; rfl
  · have h : f ∈ ([[(1, 4)], [(1, 0), (-1, 4)]] : List qF) := h
    simp only [List.mem_cons, List.not_mem_nil, or_false] at h
    rcases h with rfl | rfl
    · show 0 ≤ 1 * (xcO M (1 * ρ 1 + 0) (1 * ρ 2 + 0) (1 * ρ 3 + 0)) + 0
      (try rw [h0]); omega
    · show 0 ≤ 1 * ρ 0 + (-1 * (xcO M (1 * ρ 1 + 0) (1 * ρ 2 + 0) (1 * ρ 3 + 0)) + 0)
      (try rw [h0]); omega
  · show sI (sU (sU (sU (sU (sU (sU M 91 909 (1 * ρ 0 + 0)) 91 911 (1 * ρ 1 + 0)) 91 912 (1 * ρ 2 + 0)) 91 913 (1 * ρ 3 + 0)) 91 914 (0)) 91 910 (1 * (xcO M (1 * ρ 1 + 0) (1 * ρ 2 + 0) (1 * ρ 3 + 0)) + 0))
    obtain ⟨W, hW⟩ : ∃ W, W = (sU (sU (sU (sU (sU (sU M 91 909 (1 * ρ 0 + 0)) 91 911 (1 * ρ 1 + 0)) 91 912 (1 * ρ 2 + 0)) 91 913 (1 * ρ 3 + 0)) 91 914 (0)) 91 910 (1 * (xcO M (1 * ρ 1 + 0) (1 * ρ 2 + 0) (1 * ρ 3 + 0)) + 0)) := ⟨_, rfl⟩
    rw [← hW]
    have base : sI0 W := by
      rw [hW]
      exact (si_u0 (si_u0 (si_u0 (si_u0 (si_u0 (si_u0 hI.1 (fun r hr => by cases hr)) (fun r hr => by cases hr)) (fun r hr => by cases hr)) (fun r hr => by cases hr)) (fun r hr => by cases hr)) (fun r hr => by cases hr))
    have k2 : XI2 W := by
      rw [hW]
      exact (xi2_u rfl (xi2_u rfl (xi2_u rfl (xi2_u rfl (xi2_u rfl (xi2_u rfl hI.2.1))))))
    have k3 : XI3 W := by
      rw [hW]
      exact (xi3_u rfl (xi3_u rfl (xi3_u rfl (xi3_u rfl (xi3_u rfl (xi3_u rfl hI.2.2.1))))))
    have kXA : XA W := by
      rw [hW]
      exact (uXA rfl (uXA rfl (uXA rfl (uXA rfl (uXA rfl (uXA rfl hI.2.2.2.1))))))
    have k_xN1 : xN1 W := by
      rw [hW]
      exact (uxN1 rfl (uxN1 rfl (uxN1 rfl (uxN1 rfl (uxN1 rfl (uxN1 rfl hI.2.2.2.2.1))))))
    have k_xN2 : xN2 W := by
      rw [hW]
      exact (uxN2 rfl (uxN2 rfl (uxN2 rfl (uxN2 rfl (uxN2 rfl (uxN2 rfl hI.2.2.2.2.2.1))))))
    have k_xN3 : xN3 W := by
      rw [hW]
      exact (uxN3 rfl (uxN3 rfl (uxN3 rfl (uxN3 rfl (uxN3 rfl (uxN3 rfl hI.2.2.2.2.2.2.1))))))
    have k_xN4 : xN4 W := by
      rw [hW]
      exact (uxN4 rfl (uxN4 rfl (uxN4 rfl (uxN4 rfl (uxN4 rfl (uxN4 rfl hI.2.2.2.2.2.2.2.1))))))
    have k_xN5 : xN5 W := by
      rw [hW]
      exact (uxN5 rfl (uxN5 rfl (uxN5 rfl (uxN5 rfl (uxN5 rfl (uxN5 rfl hI.2.2.2.2.2.2.2.2.1))))))
    have k_xN6 : xN6 W := by
      rw [hW]
      exact (uxN6 rfl (uxN6 rfl (uxN6 rfl (uxN6 rfl (uxN6 rfl (uxN6 rfl hI.2.2.2.2.2.2.2.2.2.1))))))
    have k_xH1 : xH1 W := by
      rw [hW]
      exact (uxH1 rfl (uxH1 rfl (uxH1 rfl (uxH1 rfl (uxH1 rfl (uxH1 rfl hI.2.2.2.2.2.2.2.2.2.2.1))))))
    have k_xK1 : xK1 W := by
      have r91_909 : W 91 909 = 1 * ρ 0 + 0 := by rw [hW, sU_ne (fun z => by omega), sU_ne (fun z => by omega), sU_ne (fun z => by omega), sU_ne (fun z => by omega), sU_ne (fun z => by omega), sU_at]
      have r91_910 : W 91 910 = 1 * (xcO M (1 * ρ 1 + 0) (1 * ρ 2 + 0) (1 * ρ 3 + 0)) + 0 := by rw [hW, sU_at]
      have r91_911 : W 91 911 = 1 * ρ 1 + 0 := by rw [hW, sU_ne (fun z => by omega), sU_ne (fun z => by omega), sU_ne (fun z => by omega), sU_ne (fun z => by omega), sU_at]
      have r91_912 : W 91 912 = 1 * ρ 2 + 0 := by rw [hW, sU_ne (fun z => by omega), sU_ne (fun z => by omega), sU_ne (fun z => by omega), sU_at]
      have r91_913 : W 91 913 = 1 * ρ 3 + 0 := by rw [hW, sU_ne (fun z => by omega), sU_ne (fun z => by omega), sU_at]
      have r91_914 : W 91 914 = 0 := by rw [hW, sU_ne (fun z => by omega), sU_at]
      have r93_1 : W 93 1 = M 93 1 := by rw [hW, sU_ne (fun z => by omega), sU_ne (fun z => by omega), sU_ne (fun z => by omega), sU_ne (fun z => by omega), sU_ne (fun z => by omega), sU_ne (fun z => by omega)]
      have r93_2 : W 93 2 = M 93 2 := by rw [hW, sU_ne (fun z => by omega), sU_ne (fun z => by omega), sU_ne (fun z => by omega), sU_ne (fun z => by omega), sU_ne (fun z => by omega), sU_ne (fun z => by omega)]
      have r93_4 : W 93 4 = M 93 4 := by rw [hW, sU_ne (fun z => by omega), sU_ne (fun z => by omega), sU_ne (fun z => by omega), sU_ne (fun z => by omega), sU_ne (fun z => by omega), sU_ne (fun z => by omega)]
      have r93_6 : W 93 6 = M 93 6 := by rw [hW, sU_ne (fun z => by omega), sU_ne (fun z => by omega), sU_ne (fun z => by omega), sU_ne (fun z => by omega), sU_ne (fun z => by omega), sU_ne (fun z => by omega)]
      have r115_0 : W 115 0 = M 115 0 := by rw [hW, sU_ne (fun z => by omega), sU_ne (fun z => by omega), sU_ne (fun z => by omega), sU_ne (fun z => by omega), sU_ne (fun z => by omega), sU_ne (fun z => by omega)]
      have r116_0 : W 116 0 = M 116 0 := by rw [hW, sU_ne (fun z => by omega), sU_ne (fun z => by omega), sU_ne (fun z => by omega), sU_ne (fun z => by omega), sU_ne (fun z => by omega), sU_ne (fun z => by omega)]
      have c101 : ∀ k, W 101 k = M 101 k := fun k => by rw [hW, sU_ne (fun z => by omega), sU_ne (fun z => by omega), sU_ne (fun z => by omega), sU_ne (fun z => by omega), sU_ne (fun z => by omega), sU_ne (fun z => by omega)]
      have c122 : ∀ k, W 122 k = M 122 k := fun k => by rw [hW, sU_ne (fun z => by omega), sU_ne (fun z => by omega), sU_ne (fun z => by omega), sU_ne (fun z => by omega), sU_ne (fun z => by omega), sU_ne (fun z => by omega)]
      have c123 : ∀ k, W 123 k = M 123 k := fun k => by rw [hW, sU_ne (fun z => by omega), sU_ne (fun z => by omega), sU_ne (fun z => by omega), sU_ne (fun z => by omega), sU_ne (fun z => by omega), sU_ne (fun z => by omega)]
      intro h
      rw [r91_910, r91_911, r91_912, r91_913, r91_914, x10, xco_c r93_1 r93_2 r93_4 r93_6 c101 c122 r115_0 r116_0 c123]
      exact ⟨rfl, fun z => absurd z (by omega)⟩
    have k_xC1 : xC1 W := by
      rw [hW]
      exact (uxC1 rfl (uxC1 rfl (uxC1 rfl (uxC1 rfl (uxC1 rfl (uxC1 rfl hI.2.2.2.2.2.2.2.2.2.2.2.2.1))))))
    have k_xRW : xRW W := by
      rw [hW]
      exact (uxRW rfl (uxRW rfl (uxRW rfl (uxRW rfl (uxRW rfl (uxRW rfl hI.2.2.2.2.2.2.2.2.2.2.2.2.2.1))))))
    have k_xWT : xWT W := by
      rw [hW]
      exact (uxWT rfl (uxWT rfl (uxWT rfl (uxWT rfl (uxWT rfl (uxWT rfl hI.2.2.2.2.2.2.2.2.2.2.2.2.2.2.1))))))
    have k_xCU : xCU W := by
      rw [hW]
      exact (uxCU rfl (uxCU rfl (uxCU rfl (uxCU rfl (uxCU rfl (uxCU rfl hI.2.2.2.2.2.2.2.2.2.2.2.2.2.2.2.1))))))
    have k_xG2 : xG2 W := by
      rw [hW]
      exact (uxG2 rfl (uxG2 rfl (uxG2 rfl (uxG2 rfl (uxG2 rfl (uxG2 rfl hI.2.2.2.2.2.2.2.2.2.2.2.2.2.2.2.2.1))))))
    have k_xG3 : xG3 W := by
      rw [hW]
      exact (uxG3 rfl (uxG3 rfl (uxG3 rfl (uxG3 rfl (uxG3 rfl (uxG3 rfl hI.2.2.2.2.2.2.2.2.2.2.2.2.2.2.2.2.2.1))))))
    have k_xG4 : xG4 W := by
      rw [hW]
      exact (uxG4 rfl (uxG4 rfl (uxG4 rfl (uxG4 rfl (uxG4 rfl (uxG4 rfl hI.2.2.2.2.2.2.2.2.2.2.2.2.2.2.2.2.2.2.1))))))
    have k_xG5 : xG5 W := by
      rw [hW]
      exact (uxG5 rfl (uxG5 rfl (uxG5 rfl (uxG5 rfl (uxG5 rfl (uxG5 rfl hI.2.2.2.2.2.2.2.2.2.2.2.2.2.2.2.2.2.2.2.1))))))
    have k_xG6 : xG6 W := by
      rw [hW]
      exact (uxG6 rfl (uxG6 rfl (uxG6 rfl (uxG6 rfl (uxG6 rfl (uxG6 rfl hI.2.2.2.2.2.2.2.2.2.2.2.2.2.2.2.2.2.2.2.2.1))))))
    have k_XC : XC W := by
      rw [hW]
      exact (uXC rfl (uXC rfl (uXC rfl (uXC rfl (uXC rfl (uXC rfl hI.2.2.2.2.2.2.2.2.2.2.2.2.2.2.2.2.2.2.2.2.2))))))
    have kXB : XB W := ⟨k_xN1, k_xN2, k_xN3, k_xN4, k_xN5, k_xN6, k_xH1, k_xK1, k_xC1, k_xRW, k_xWT, k_xCU, k_xG2, k_xG3, k_xG4, k_xG5, k_xG6, k_XC⟩
    exact ⟨base, k2, k3, kXA, kXB⟩
-- kNo1
def xr_111 : qRu := (9, [[(-1, 1), (1, 5)], [(1, 1), (-1, 5)], [(-1, 3), (1, 7)], [(1, 3), (-1, 7)], [(-1, 2), (1, 6)], [(1, 2), (-1, 6)], [(-1, 8)]], [(91, 909, [(1, 0)]), (91, 910, [(1, 4)]), (91, 911, [(1, 1)]), (91, 912, [(1, 2)]), (91, 913, [(1, 3)]), (91, 919, [(1, 0)]), (91, 921, [(1, 5)]), (91, 922, [(1, 6)]), (91, 923, [(1, 7)]), (91, 920, [(1, 8)])], [], [], [[(1, 4)], [(-1, 4)]])
theorem xo_111 : qRok xr_111 := by
  intro ρ M h0 hf hm hI
  have f0 := hf [(-1, 1), (1, 5)] (by decide)
  have f1 := hf [(1, 1), (-1, 5)] (by decide)
  have f2 := hf [(-1, 3), (1, 7)] (by decide)
  have f3 := hf [(1, 3), (-1, 7)] (by decide)
  have f4 := hf [(-1, 2), (1, 6)] (by decide)
  have f5 := hf [(1, 2), (-1, 6)] (by decide)
  have f6 := hf [(-1, 8)] (by decide)
  simp only [qD, h0] at f0 f1 f2 f3 f4 f5 f6
  have m0 : M 91 909 = 1 * ρ 0 + 0 := hm (91, 909, [(1, 0)]) (by decide)
  have m1 : M 91 910 = 1 * ρ 4 + 0 := hm (91, 910, [(1, 4)]) (by decide)
  have m2 : M 91 911 = 1 * ρ 1 + 0 := hm (91, 911, [(1, 1)]) (by decide)
  have m3 : M 91 912 = 1 * ρ 2 + 0 := hm (91, 912, [(1, 2)]) (by decide)
  have m4 : M 91 913 = 1 * ρ 3 + 0 := hm (91, 913, [(1, 3)]) (by decide)
  have m5 : M 91 919 = 1 * ρ 0 + 0 := hm (91, 919, [(1, 0)]) (by decide)
  have m6 : M 91 921 = 1 * ρ 5 + 0 := hm (91, 921, [(1, 5)]) (by decide)
  have m7 : M 91 922 = 1 * ρ 6 + 0 := hm (91, 922, [(1, 6)]) (by decide)
  have m8 : M 91 923 = 1 * ρ 7 + 0 := hm (91, 923, [(1, 7)]) (by decide)
  have m9 : M 91 920 = 1 * ρ 8 + 0 := hm (91, 920, [(1, 8)]) (by decide)
  simp only [h0] at m0 m5
  have qxH1 := hI.2.2.2.2.2.2.2.2.2.2.1
  have qxK1 := hI.2.2.2.2.2.2.2.2.2.2.2.1
  have ek := (qxK1 (by omega)).1
  have eh := qxH1 (by omega)
  rw [show M 91 921 = M 91 911 by omega, show M 91 923 = M 91 913 by omega, show M 91 922 = M 91 912 by omega] at eh
  unfold xcO at ek
  rw [if_neg (fun z => by have z2 := z.1; omega)] at ek
  refine ⟨ρ, fun _ _ => rfl, fun f h => ?_, ?_⟩
  · have h : f ∈ ([[(1, 4)], [(-1, 4)]] : List qF) := h
    simp only [List.mem_cons, List.not_mem_nil, or_false] at h
    rcases h with rfl | rfl
    · show 0 ≤ 1 * ρ 4 + 0
      (try rw [h0]); omega
    · show 0 ≤ -1 * ρ 4 + 0
      (try rw [h0]); omega
  · show sI M
    exact hI
-- kNo2
def xr_112 : qRu := (9, [[(-1, 1), (1, 5)], [(1, 1), (-1, 5)], [(-1, 3), (1, 7)], [(1, 3), (-1, 7)], [(-1, 0), (-1, 2), (1, 6)], [(1, 0), (1, 2), (-1, 6)], [(-1, 8)]], [(91, 909, [(1, 0)]), (91, 910, [(1, 4)]), (91, 911, [(1, 1)]), (91, 912, [(1, 2)]), (91, 913, [(1, 3)]), (91, 919, [(1, 0)]), (91, 921, [(1, 5)]), (91, 922, [(1, 6)]), (91, 923, [(1, 7)]), (91, 920, [(1, 8)])], [], [], [[(1, 4)], [(-1, 4)]])
theorem xo_112 : qRok xr_112 := by
  intro ρ M h0 hf hm hI
  have f0 := hf [(-1, 1), (1, 5)] (by decide)
  have f1 := hf [(1, 1), (-1, 5)] (by decide)
  have f2 := hf [(-1, 3), (1, 7)] (by decide)
  have f3 := hf [(1, 3), (-1, 7)] (by decide)
  have f4 := hf [(-1, 0), (-1, 2), (1, 6)] (by decide)
  have f5 := hf [(1, 0), (1, 2), (-1, 6)] (by decide)
  have f6 := hf [(-1, 8)] (by decide)
  simp only [qD, h0] at f0 f1 f2 f3 f4 f5 f6
  have m0 : M 91 909 = 1 * ρ 0 + 0 := hm (91, 909, [(1, 0)]) (by decide)
  have m1 : M 91 910 = 1 * ρ 4 + 0 := hm (91, 910, [(1, 4)]) (by decide)
  have m2 : M 91 911 = 1 * ρ 1 + 0 := hm (91, 911, [(1, 1)]) (by decide)
  have m3 : M 91 912 = 1 * ρ 2 + 0 := hm (91, 912, [(1, 2)]) (by decide)
  have m4 : M 91 913 = 1 * ρ 3 + 0 := hm (91, 913, [(1, 3)]) (by decide)
  have m5 : M 91 919 = 1 * ρ 0 + 0 := hm (91, 919, [(1, 0)]) (by decide)
  have m6 : M 91 921 = 1 * ρ 5 + 0 := hm (91, 921, [(1, 5)]) (by decide)
  have m7 : M 91 922 = 1 * ρ 6 + 0 := hm (91, 922, [(1, 6)]) (by decide)
  have m8 : M 91 923 = 1 * ρ 7 + 0 := hm (91, 923, [(1, 7)]) (by decide)
  have m9 : M 91 920 = 1 * ρ 8 + 0 := hm (91, 920, [(1, 8)]) (by decide)
  simp only [h0] at m0 m5
  have qxH1 := hI.2.2.2.2.2.2.2.2.2.2.1
  have qxK1 := hI.2.2.2.2.2.2.2.2.2.2.2.1
  have ek := (qxK1 (by omega)).1
  have eh := qxH1 (by omega)
  rw [show M 91 921 = M 91 911 by omega, show M 91 923 = M 91 913 by omega, show M 91 922 = M 91 912 + 1 by omega] at eh
  unfold xcO at ek
  rw [if_neg (fun z => by have z2 := z.2.1; omega)] at ek
  refine ⟨ρ, fun _ _ => rfl, fun f h => ?_, ?_⟩
  · have h : f ∈ ([[(1, 4)], [(-1, 4)]] : List qF) := h
    simp only [List.mem_cons, List.not_mem_nil, or_false] at h
    rcases h with rfl | rfl
    · show 0 ≤ 1 * ρ 4 + 0
      (try rw [h0]); omega
    · show 0 ≤ -1 * ρ 4 + 0
      (try rw [h0]); omega
  · show sI M
    exact hI
-- kHeld
def xr_113 : qRu := (9, [[(-1, 1), (1, 5)], [(1, 1), (-1, 5)], [(-1, 3), (1, 7)], [(1, 3), (-1, 7)], [(-1, 2), (1, 6)], [(1, 2), (-1, 6)], [(-1, 0), (1, 8)]], [(91, 909, [(1, 0)]), (91, 910, [(1, 4)]), (91, 911, [(1, 1)]), (91, 912, [(1, 2)]), (91, 913, [(1, 3)]), (91, 919, [(1, 0)]), (91, 921, [(1, 5)]), (91, 922, [(1, 6)]), (91, 923, [(1, 7)]), (91, 920, [(1, 8)])], [], [(91, 914, [(1, 0)])], [])
theorem xo_113 : qRok xr_113 := by
  intro ρ M h0 hf hm hI
  have f0 := hf [(-1, 1), (1, 5)] (by decide)
  have f1 := hf [(1, 1), (-1, 5)] (by decide)
  have f2 := hf [(-1, 3), (1, 7)] (by decide)
  have f3 := hf [(1, 3), (-1, 7)] (by decide)
  have f4 := hf [(-1, 2), (1, 6)] (by decide)
  have f5 := hf [(1, 2), (-1, 6)] (by decide)
  have f6 := hf [(-1, 0), (1, 8)] (by decide)
  simp only [qD, h0] at f0 f1 f2 f3 f4 f5 f6
  have m0 : M 91 909 = 1 * ρ 0 + 0 := hm (91, 909, [(1, 0)]) (by decide)
  have m1 : M 91 910 = 1 * ρ 4 + 0 := hm (91, 910, [(1, 4)]) (by decide)
  have m2 : M 91 911 = 1 * ρ 1 + 0 := hm (91, 911, [(1, 1)]) (by decide)
  have m3 : M 91 912 = 1 * ρ 2 + 0 := hm (91, 912, [(1, 2)]) (by decide)
  have m4 : M 91 913 = 1 * ρ 3 + 0 := hm (91, 913, [(1, 3)]) (by decide)
  have m5 : M 91 919 = 1 * ρ 0 + 0 := hm (91, 919, [(1, 0)]) (by decide)
  have m6 : M 91 921 = 1 * ρ 5 + 0 := hm (91, 921, [(1, 5)]) (by decide)
  have m7 : M 91 922 = 1 * ρ 6 + 0 := hm (91, 922, [(1, 6)]) (by decide)
  have m8 : M 91 923 = 1 * ρ 7 + 0 := hm (91, 923, [(1, 7)]) (by decide)
  have m9 : M 91 920 = 1 * ρ 8 + 0 := hm (91, 920, [(1, 8)]) (by decide)
  simp only [h0] at m0 m5
  have qxH1 := hI.2.2.2.2.2.2.2.2.2.2.1
  have qxK1 := hI.2.2.2.2.2.2.2.2.2.2.2.1
  have ek := (qxK1 (by omega)).1
  have eh := qxH1 (by omega)
  rw [show M 91 921 = M 91 911 by omega, show M 91 923 = M 91 913 by omega, show M 91 922 = M 91 912 by omega] at eh
  refine ⟨ρ, fun _ _ => rfl, fun f h => ?_, ?_⟩
  · exact nomatch h
  · show sI (sU M 91 914 (1 * ρ 0 + 0))
    obtain ⟨W, hW⟩ : ∃ W, W = (sU M 91 914 (1 * ρ 0 + 0)) := ⟨_, rfl⟩
    rw [← hW]
    have base : sI0 W := by
      rw [hW]
      exact (si_u0 hI.1 (fun r hr => by cases hr))
    have k2 : XI2 W := by
      rw [hW]
      exact (xi2_u rfl hI.2.1)
    have k3 : XI3 W := by
      rw [hW]
      exact (xi3_u rfl hI.2.2.1)
    have kXA : XA W := by
      rw [hW]
      exact (uXA rfl hI.2.2.2.1)
    have k_xN1 : xN1 W := by
      rw [hW]
      exact (uxN1 rfl hI.2.2.2.2.1)
    have k_xN2 : xN2 W := by
      rw [hW]
      exact (uxN2 rfl hI.2.2.2.2.2.1)
    have k_xN3 : xN3 W := by
      rw [hW]
      exact (uxN3 rfl hI.2.2.2.2.2.2.1)
    have k_xN4 : xN4 W := by
      rw [hW]
      exact (uxN4 rfl hI.2.2.2.2.2.2.2.1)
    have k_xN5 : xN5 W := by
      rw [hW]
      exact (uxN5 rfl hI.2.2.2.2.2.2.2.2.1)
    have k_xN6 : xN6 W := by
      rw [hW]
      exact (uxN6 rfl hI.2.2.2.2.2.2.2.2.2.1)
    have k_xH1 : xH1 W := by
      rw [hW]
      exact (uxH1 rfl hI.2.2.2.2.2.2.2.2.2.2.1)
    have k_xK1 : xK1 W := by
      have r91_909 : W 91 909 = M 91 909 := by rw [hW, sU_ne (fun z => by omega)]
      have r91_910 : W 91 910 = M 91 910 := by rw [hW, sU_ne (fun z => by omega)]
      have r91_911 : W 91 911 = M 91 911 := by rw [hW, sU_ne (fun z => by omega)]
      have r91_912 : W 91 912 = M 91 912 := by rw [hW, sU_ne (fun z => by omega)]
      have r91_913 : W 91 913 = M 91 913 := by rw [hW, sU_ne (fun z => by omega)]
      have r91_914 : W 91 914 = 1 * ρ 0 + 0 := by rw [hW, sU_at]
      have r93_1 : W 93 1 = M 93 1 := by rw [hW, sU_ne (fun z => by omega)]
      have r93_2 : W 93 2 = M 93 2 := by rw [hW, sU_ne (fun z => by omega)]
      have r93_4 : W 93 4 = M 93 4 := by rw [hW, sU_ne (fun z => by omega)]
      have r93_6 : W 93 6 = M 93 6 := by rw [hW, sU_ne (fun z => by omega)]
      have r115_0 : W 115 0 = M 115 0 := by rw [hW, sU_ne (fun z => by omega)]
      have r116_0 : W 116 0 = M 116 0 := by rw [hW, sU_ne (fun z => by omega)]
      have c101 : ∀ k, W 101 k = M 101 k := fun k => by rw [hW, sU_ne (fun z => by omega)]
      have c122 : ∀ k, W 122 k = M 122 k := fun k => by rw [hW, sU_ne (fun z => by omega)]
      have c123 : ∀ k, W 123 k = M 123 k := fun k => by rw [hW, sU_ne (fun z => by omega)]
      intro h
      rw [r91_910, r91_911, r91_912, r91_913, r91_914, xco_c r93_1 r93_2 r93_4 r93_6 c101 c122 r115_0 r116_0 c123, xhv_c r93_1 r93_2 r93_4 r93_6 c101 c122 r115_0 r116_0]
      have hl := xhv_1 M (M 91 911) (M 91 912) (M 91 913)
      exact ⟨ek, fun _ => by omega⟩
    have k_xC1 : xC1 W := by
      rw [hW]
      exact (uxC1 rfl hI.2.2.2.2.2.2.2.2.2.2.2.2.1)
    have k_xRW : xRW W := by
      rw [hW]
      exact (uxRW rfl hI.2.2.2.2.2.2.2.2.2.2.2.2.2.1)
    have k_xWT : xWT W := by
      rw [hW]
      exact (uxWT rfl hI.2.2.2.2.2.2.2.2.2.2.2.2.2.2.1)
    have k_xCU : xCU W := by
      rw [hW]
      exact (uxCU rfl hI.2.2.2.2.2.2.2.2.2.2.2.2.2.2.2.1)
    have k_xG2 : xG2 W := by
      rw [hW]
      exact (uxG2 rfl hI.2.2.2.2.2.2.2.2.2.2.2.2.2.2.2.2.1)
    have k_xG3 : xG3 W := by
      rw [hW]
      exact (uxG3 rfl hI.2.2.2.2.2.2.2.2.2.2.2.2.2.2.2.2.2.1)
    have k_xG4 : xG4 W := by
      rw [hW]
      exact (uxG4 rfl hI.2.2.2.2.2.2.2.2.2.2.2.2.2.2.2.2.2.2.1)
    have k_xG5 : xG5 W := by
      rw [hW]
      exact (uxG5 rfl hI.2.2.2.2.2.2.2.2.2.2.2.2.2.2.2.2.2.2.2.1)
    have k_xG6 : xG6 W := by
      rw [hW]
      exact (uxG6 rfl hI.2.2.2.2.2.2.2.2.2.2.2.2.2.2.2.2.2.2.2.2.1)
    have k_XC : XC W := by
      rw [hW]
      exact (uXC rfl hI.2.2.2.2.2.2.2.2.2.2.2.2.2.2.2.2.2.2.2.2.2)
    have kXB : XB W := ⟨k_xN1, k_xN2, k_xN3, k_xN4, k_xN5, k_xN6, k_xH1, k_xK1, k_xC1, k_xRW, k_xWT, k_xCU, k_xG2, k_xG3, k_xG4, k_xG5, k_xG6, k_XC⟩
    exact ⟨base, k2, k3, kXA, kXB⟩
-- kVal
def xr_114 : qRu := (26, [[(1, 1), (-1, 9)], [(-1, 1), (1, 9)], [(1, 2), (-1, 10)], [(-1, 2), (1, 10)], [(-1, 11), (1, 15)], [(1, 11), (-1, 15)], [(-1, 13), (1, 17)], [(1, 13), (-1, 17)], [(-1, 0), (-1, 12), (1, 16)], [(1, 0), (1, 12), (-1, 16)], [(-1, 0), (1, 18)], [(1, 3), (-1, 11)], [(-1, 3), (1, 11)], [(-1, 0), (1, 4), (-1, 12)], [(1, 0), (-1, 4), (1, 12)], [(-1, 0), (-1, 12), (-1, 13), (1, 19)], [(1, 0), (1, 12), (1, 13), (-1, 19)], [(1, 5), (-1, 20)], [(-1, 5), (1, 20)], [(-1, 6), (1, 7), (-1, 8), (1, 23)], [(1, 6), (-1, 7), (1, 8), (-1, 23)], [(1, 22), (-1, 25)], [(-1, 22), (1, 25)], [(-24, 0), (-24, 12), (-1, 20), (1, 24)], [(24, 0), (24, 12), (1, 20), (-1, 24)]], [(91, 949, [(1, 0)]), (91, 950, [(1, 1)]), (91, 955, [(1, 6)]), (91, 930, [(1, 0)]), (91, 931, [(1, 2)]), (91, 932, [(1, 4)]), (91, 933, [(1, 5)]), (91, 939, [(1, 7)]), (91, 928, [(1, 0)]), (91, 927, [(1, 3)]), (91, 929, [(1, 8)]), (115, 0, [(1, 9)]), (116, 0, [(1, 10)]), (91, 909, [(1, 0)]), (91, 910, [(1, 14)]), (91, 911, [(1, 11)]), (91, 912, [(1, 12)]), (91, 913, [(1, 13)]), (91, 914, [(1, 0)]), (91, 919, [(1, 0)]), (91, 921, [(1, 15)]), (91, 922, [(1, 16)]), (91, 923, [(1, 17)]), (91, 920, [(1, 18)]), (91, 907, [(1, 0)]), (91, 908, [(1, 19)]), (91, 906, [(1, 20)]), (91, 876, [(1, 0)]), (91, 879, [(1, 21)]), (91, 877, [(1, 22)]), (91, 878, [(1, 23)]), (123, 1024, [(1, 25)])], [], [], [[(-1, 0), (1, 14), (1, 21)], [(1, 0), (-1, 14), (-1, 21)]])
theorem xo_114 : qRok xr_114 := by
  intro ρ M h0 hf hm hI
  have f0 := hf [(1, 1), (-1, 9)] (by decide)
  have f1 := hf [(-1, 1), (1, 9)] (by decide)
  have f2 := hf [(1, 2), (-1, 10)] (by decide)
  have f3 := hf [(-1, 2), (1, 10)] (by decide)
  have f4 := hf [(-1, 11), (1, 15)] (by decide)
  have f5 := hf [(1, 11), (-1, 15)] (by decide)
  have f6 := hf [(-1, 13), (1, 17)] (by decide)
  have f7 := hf [(1, 13), (-1, 17)] (by decide)
  have f8 := hf [(-1, 0), (-1, 12), (1, 16)] (by decide)
  have f9 := hf [(1, 0), (1, 12), (-1, 16)] (by decide)
  have f10 := hf [(-1, 0), (1, 18)] (by decide)
  have f11 := hf [(1, 3), (-1, 11)] (by decide)
  have f12 := hf [(-1, 3), (1, 11)] (by decide)
  have f13 := hf [(-1, 0), (1, 4), (-1, 12)] (by decide)
  have f14 := hf [(1, 0), (-1, 4), (1, 12)] (by decide)
  have f15 := hf [(-1, 0), (-1, 12), (-1, 13), (1, 19)] (by decide)
  have f16 := hf [(1, 0), (1, 12), (1, 13), (-1, 19)] (by decide)
  have f17 := hf [(1, 5), (-1, 20)] (by decide)
  have f18 := hf [(-1, 5), (1, 20)] (by decide)
  have f19 := hf [(-1, 6), (1, 7), (-1, 8), (1, 23)] (by decide)
  have f20 := hf [(1, 6), (-1, 7), (1, 8), (-1, 23)] (by decide)
  have f21 := hf [(1, 22), (-1, 25)] (by decide)
  have f22 := hf [(-1, 22), (1, 25)] (by decide)
  have f23 := hf [(-24, 0), (-24, 12), (-1, 20), (1, 24)] (by decide)
  have f24 := hf [(24, 0), (24, 12), (1, 20), (-1, 24)] (by decide)
  simp only [qD, h0] at f0 f1 f2 f3 f4 f5 f6 f7 f8 f9 f10 f11 f12 f13 f14 f15 f16 f17 f18 f19 f20 f21 f22 f23 f24
  have m0 : M 91 949 = 1 * ρ 0 + 0 := hm (91, 949, [(1, 0)]) (by decide)
  have m1 : M 91 950 = 1 * ρ 1 + 0 := hm (91, 950, [(1, 1)]) (by decide)
  have m2 : M 91 955 = 1 * ρ 6 + 0 := hm (91, 955, [(1, 6)]) (by decide)
  have m3 : M 91 930 = 1 * ρ 0 + 0 := hm (91, 930, [(1, 0)]) (by decide)
  have m4 : M 91 931 = 1 * ρ 2 + 0 := hm (91, 931, [(1, 2)]) (by decide)
  have m5 : M 91 932 = 1 * ρ 4 + 0 := hm (91, 932, [(1, 4)]) (by decide)
  have m6 : M 91 933 = 1 * ρ 5 + 0 := hm (91, 933, [(1, 5)]) (by decide)
  have m7 : M 91 939 = 1 * ρ 7 + 0 := hm (91, 939, [(1, 7)]) (by decide)
  have m8 : M 91 928 = 1 * ρ 0 + 0 := hm (91, 928, [(1, 0)]) (by decide)
  have m9 : M 91 927 = 1 * ρ 3 + 0 := hm (91, 927, [(1, 3)]) (by decide)
  have m10 : M 91 929 = 1 * ρ 8 + 0 := hm (91, 929, [(1, 8)]) (by decide)
  have m11 : M 115 0 = 1 * ρ 9 + 0 := hm (115, 0, [(1, 9)]) (by decide)
  have m12 : M 116 0 = 1 * ρ 10 + 0 := hm (116, 0, [(1, 10)]) (by decide)
  have m13 : M 91 909 = 1 * ρ 0 + 0 := hm (91, 909, [(1, 0)]) (by decide)
  have m14 : M 91 910 = 1 * ρ 14 + 0 := hm (91, 910, [(1, 14)]) (by decide)
  have m15 : M 91 911 = 1 * ρ 11 + 0 := hm (91, 911, [(1, 11)]) (by decide)
  have m16 : M 91 912 = 1 * ρ 12 + 0 := hm (91, 912, [(1, 12)]) (by decide)
  have m17 : M 91 913 = 1 * ρ 13 + 0 := hm (91, 913, [(1, 13)]) (by decide)
  have m18 : M 91 914 = 1 * ρ 0 + 0 := hm (91, 914, [(1, 0)]) (by decide)
  have m19 : M 91 919 = 1 * ρ 0 + 0 := hm (91, 919, [(1, 0)]) (by decide)
  have m20 : M 91 921 = 1 * ρ 15 + 0 := hm (91, 921, [(1, 15)]) (by decide)
  have m21 : M 91 922 = 1 * ρ 16 + 0 := hm (91, 922, [(1, 16)]) (by decide)
  have m22 : M 91 923 = 1 * ρ 17 + 0 := hm (91, 923, [(1, 17)]) (by decide)
  have m23 : M 91 920 = 1 * ρ 18 + 0 := hm (91, 920, [(1, 18)]) (by decide)
  have m24 : M 91 907 = 1 * ρ 0 + 0 := hm (91, 907, [(1, 0)]) (by decide)
  have m25 : M 91 908 = 1 * ρ 19 + 0 := hm (91, 908, [(1, 19)]) (by decide)
  have m26 : M 91 906 = 1 * ρ 20 + 0 := hm (91, 906, [(1, 20)]) (by decide)
  have m27 : M 91 876 = 1 * ρ 0 + 0 := hm (91, 876, [(1, 0)]) (by decide)
  have m28 : M 91 879 = 1 * ρ 21 + 0 := hm (91, 879, [(1, 21)]) (by decide)
  have m29 : M 91 877 = 1 * ρ 22 + 0 := hm (91, 877, [(1, 22)]) (by decide)
  have m30 : M 91 878 = 1 * ρ 23 + 0 := hm (91, 878, [(1, 23)]) (by decide)
  have m31 : M 123 (zIx ρ (1000 + 24)) = 1 * ρ 25 + 0 := hm (123, 1024, [(1, 25)]) (by decide)
  rw [zix_p] at m31
  simp only [h0] at m0 m3 m8 m13 m18 m19 m24 m27
  have qxN1 := hI.2.2.2.2.1
  have qxN2 := hI.2.2.2.2.2.1
  have qxN3 := hI.2.2.2.2.2.2.1
  have qxN5 := hI.2.2.2.2.2.2.2.2.1
  have qxN6 := hI.2.2.2.2.2.2.2.2.2.1
  have qxH1 := hI.2.2.2.2.2.2.2.2.2.2.1
  have qxK1 := hI.2.2.2.2.2.2.2.2.2.2.2.1
  have hnv : xnV M (M 115 0) (M 116 0) (M 91 927) (M 91 932) (M 91 933) = ρ 8 + ρ 6 - ρ 7 := by
    have e1 := qxN1 (by omega)
    have e2 := qxN2 (by omega)
    have e3 : M 91 929 = M 91 927 * M 93 6 := qxN3 (by omega)
    unfold xnV
    rw [show M 115 0 = M 91 950 by omega, show M 116 0 = M 91 931 by omega, ← e1.2.2.2.2, ← e2.2.2.2.2.2.2, ← e3]
    omega

  have e5 := qxN5 (by omega)
  have e6 := qxN6 (by omega)
  have eh := qxH1 (by omega)
  have ek := qxK1 (by omega)
  have ek2 := ek.2 (by omega)
  have ek1 := ek.1
  rw [show M 91 921 = M 91 911 by omega, show M 91 923 = M 91 913 by omega, show M 91 922 = M 91 912 + 1 by omega] at eh
  have hl := xhv_1 M (M 91 911) (M 91 912 + 1) (M 91 913)
  have hb := xlt_b (M 91 877) (M 91 878)
  unfold xcO at ek1
  rw [show M 91 913 + M 91 912 + 1 = M 91 908 by omega, ← e5, show M 91 906 = M 91 933 by omega, show (24 * (M 91 912 + 1) + M 91 933).toNat = (ρ 24).toNat by omega, show M 123 (ρ 24).toNat = M 91 877 by omega] at ek1
  rw [show xnV M (M 115 0) (M 116 0) (M 91 911) (M 91 912 + 1) (M 91 933) = M 91 878 by rw [show M 91 911 = M 91 927 by omega, show M 91 912 + 1 = M 91 932 by omega, hnv]; omega, ← e6, show M 91 912 + 1 = M 91 932 by omega] at ek1
  rw [show M 91 912 + 1 = M 91 932 by omega] at eh hl
  have h3 : M 91 910 = 1 - M 91 879 := by
    by_cases hc : M 91 879 = 0
    · rw [if_pos ⟨ek2, by omega, hc⟩] at ek1
      omega
    · rw [if_neg (fun z => hc z.2.2)] at ek1
      omega
  refine ⟨ρ, fun _ _ => rfl, fun f h => ?_, ?_⟩
  · have h : f ∈ ([[(-1, 0), (1, 14), (1, 21)], [(1, 0), (-1, 14), (-1, 21)]] : List qF) := h
    simp only [List.mem_cons, List.not_mem_nil, or_false] at h
    rcases h with rfl | rfl
    · show 0 ≤ -1 * ρ 0 + (1 * ρ 14 + (1 * ρ 21 + 0))
      (try rw [h0]); omega
    · show 0 ≤ 1 * ρ 0 + (-1 * ρ 14 + (-1 * ρ 21 + 0))
      (try rw [h0]); omega
  · show sI M
    exact hI
-- cSet
def xr_115 : qRu := (5, [], [], [], [(91, 900, [(1, 0)]), (91, 901, [(1, 1)]), (91, 902, [(1, 2)]), (91, 903, [(1, 3)]), (91, 904, [(1, 4)]), (91, 898, []), (91, 905, [(1, 5)]), (91, 897, [(1, 6)]), (91, 896, [(1, 7)])], [])
theorem xo_115 : qRok xr_115 := by
  intro ρ M h0 hf hm hI
  have qxC1 := hI.2.2.2.2.2.2.2.2.2.2.2.2.1
  refine ⟨fun a => cond (Nat.blt a 5) (ρ a) (([xcB M (ρ 1) (ρ 2) (ρ 3) (ρ 4), xe1 (ρ 2) (ρ 3), xe2 M (ρ 1) (ρ 3)] : List Int).getD (a - 5) 0), fun a ha => ?_, fun f h => ?_, ?_⟩
  · show cond (Nat.blt a 5) (ρ a) _ = ρ a
    rw [show Nat.blt a 5 = true from Nat.ble_eq_true_of_le ha]; rfl
  · exact nomatch h
  · show sI (sU (sU (sU (sU (sU (sU (sU (sU (sU M 91 900 (1 * ρ 0 + 0)) 91 901 (1 * ρ 1 + 0)) 91 902 (1 * ρ 2 + 0)) 91 903 (1 * ρ 3 + 0)) 91 904 (1 * ρ 4 + 0)) 91 898 (0)) 91 905 (1 * (xcB M (ρ 1) (ρ 2) (ρ 3) (ρ 4)) + 0)) 91 897 (1 * (xe1 (ρ 2) (ρ 3)) + 0)) 91 896 (1 * (xe2 M (ρ 1) (ρ 3)) + 0))
    obtain ⟨W, hW⟩ : ∃ W, W = (sU (sU (sU (sU (sU (sU (sU (sU (sU M 91 900 (1 * ρ 0 + 0)) 91 901 (1 * ρ 1 + 0)) 91 902 (1 * ρ 2 + 0)) 91 903 (1 * ρ 3 + 0)) 91 904 (1 * ρ 4 + 0)) 91 898 (0)) 91 905 (1 * (xcB M (ρ 1) (ρ 2) (ρ 3) (ρ 4)) + 0)) 91 897 (1 * (xe1 (ρ 2) (ρ 3)) + 0)) 91 896 (1 * (xe2 M (ρ 1) (ρ 3)) + 0)) := ⟨_, rfl⟩
    rw [← hW]
    have base : sI0 W := by
      rw [hW]
      exact (si_u0 (si_u0 (si_u0 (si_u0 (si_u0 (si_u0 (si_u0 (si_u0 (si_u0 hI.1 (fun r hr => by cases hr)) (fun r hr => by cases hr)) (fun r hr => by cases hr)) (fun r hr => by cases hr)) (fun r hr => by cases hr)) (fun r hr => by cases hr)) (fun r hr => by cases hr)) (fun r hr => by cases hr)) (fun r hr => by cases hr))
    have k2 : XI2 W := by
      rw [hW]
      exact (xi2_u rfl (xi2_u rfl (xi2_u rfl (xi2_u rfl (xi2_u rfl (xi2_u rfl (xi2_u rfl (xi2_u rfl (xi2_u rfl hI.2.1)))))))))
    have k3 : XI3 W := by
      rw [hW]
      exact (xi3_u rfl (xi3_u rfl (xi3_u rfl (xi3_u rfl (xi3_u rfl (xi3_u rfl (xi3_u rfl (xi3_u rfl (xi3_u rfl hI.2.2.1)))))))))
    have kXA : XA W := by
      rw [hW]
      exact (uXA rfl (uXA rfl (uXA rfl (uXA rfl (uXA rfl (uXA rfl (uXA rfl (uXA rfl (uXA rfl hI.2.2.2.1)))))))))
    have k_xN1 : xN1 W := by
      rw [hW]
      exact (uxN1 rfl (uxN1 rfl (uxN1 rfl (uxN1 rfl (uxN1 rfl (uxN1 rfl (uxN1 rfl (uxN1 rfl (uxN1 rfl hI.2.2.2.2.1)))))))))
    have k_xN2 : xN2 W := by
      rw [hW]
      exact (uxN2 rfl (uxN2 rfl (uxN2 rfl (uxN2 rfl (uxN2 rfl (uxN2 rfl (uxN2 rfl (uxN2 rfl (uxN2 rfl hI.2.2.2.2.2.1)))))))))
    have k_xN3 : xN3 W := by
      rw [hW]
      exact (uxN3 rfl (uxN3 rfl (uxN3 rfl (uxN3 rfl (uxN3 rfl (uxN3 rfl (uxN3 rfl (uxN3 rfl (uxN3 rfl hI.2.2.2.2.2.2.1)))))))))
    have k_xN4 : xN4 W := by
      rw [hW]
      exact (uxN4 rfl (uxN4 rfl (uxN4 rfl (uxN4 rfl (uxN4 rfl (uxN4 rfl (uxN4 rfl (uxN4 rfl (uxN4 rfl hI.2.2.2.2.2.2.2.1)))))))))
    have k_xN5 : xN5 W := by
      rw [hW]
      exact (uxN5 rfl (uxN5 rfl (uxN5 rfl (uxN5 rfl (uxN5 rfl (uxN5 rfl (uxN5 rfl (uxN5 rfl (uxN5 rfl hI.2.2.2.2.2.2.2.2.1)))))))))
    have k_xN6 : xN6 W := by
      rw [hW]
      exact (uxN6 rfl (uxN6 rfl (uxN6 rfl (uxN6 rfl (uxN6 rfl (uxN6 rfl (uxN6 rfl (uxN6 rfl (uxN6 rfl hI.2.2.2.2.2.2.2.2.2.1)))))))))
    have k_xH1 : xH1 W := by
      rw [hW]
      exact (uxH1 rfl (uxH1 rfl (uxH1 rfl (uxH1 rfl (uxH1 rfl (uxH1 rfl (uxH1 rfl (uxH1 rfl (uxH1 rfl hI.2.2.2.2.2.2.2.2.2.2.1)))))))))
    have k_xK1 : xK1 W := by
      rw [hW]
      exact (uxK1 rfl (uxK1 rfl (uxK1 rfl (uxK1 rfl (uxK1 rfl (uxK1 rfl (uxK1 rfl (uxK1 rfl (uxK1 rfl hI.2.2.2.2.2.2.2.2.2.2.2.1)))))))))
    have k_xC1 : xC1 W := by
      have r91_900 : W 91 900 = 1 * ρ 0 + 0 := by rw [hW, sU_ne (fun z => by omega), sU_ne (fun z => by omega), sU_ne (fun z => by omega), sU_ne (fun z => by omega), sU_ne (fun z => by omega), sU_ne (fun z => by omega), sU_ne (fun z => by omega), sU_ne (fun z => by omega), sU_at]
      have r91_901 : W 91 901 = 1 * ρ 1 + 0 := by rw [hW, sU_ne (fun z => by omega), sU_ne (fun z => by omega), sU_ne (fun z => by omega), sU_ne (fun z => by omega), sU_ne (fun z => by omega), sU_ne (fun z => by omega), sU_ne (fun z => by omega), sU_at]
      have r91_902 : W 91 902 = 1 * ρ 2 + 0 := by rw [hW, sU_ne (fun z => by omega), sU_ne (fun z => by omega), sU_ne (fun z => by omega), sU_ne (fun z => by omega), sU_ne (fun z => by omega), sU_ne (fun z => by omega), sU_at]
      have r91_903 : W 91 903 = 1 * ρ 3 + 0 := by rw [hW, sU_ne (fun z => by omega), sU_ne (fun z => by omega), sU_ne (fun z => by omega), sU_ne (fun z => by omega), sU_ne (fun z => by omega), sU_at]
      have r91_904 : W 91 904 = 1 * ρ 4 + 0 := by rw [hW, sU_ne (fun z => by omega), sU_ne (fun z => by omega), sU_ne (fun z => by omega), sU_ne (fun z => by omega), sU_at]
      have r91_905 : W 91 905 = 1 * (xcB M (ρ 1) (ρ 2) (ρ 3) (ρ 4)) + 0 := by rw [hW, sU_ne (fun z => by omega), sU_ne (fun z => by omega), sU_at]
      have r91_896 : W 91 896 = 1 * (xe2 M (ρ 1) (ρ 3)) + 0 := by rw [hW, sU_at]
      have r91_897 : W 91 897 = 1 * (xe1 (ρ 2) (ρ 3)) + 0 := by rw [hW, sU_ne (fun z => by omega), sU_at]
      have r91_898 : W 91 898 = 0 := by rw [hW, sU_ne (fun z => by omega), sU_ne (fun z => by omega), sU_ne (fun z => by omega), sU_at]
      have r93_0 : W 93 0 = M 93 0 := by rw [hW, sU_ne (fun z => by omega), sU_ne (fun z => by omega), sU_ne (fun z => by omega), sU_ne (fun z => by omega), sU_ne (fun z => by omega), sU_ne (fun z => by omega), sU_ne (fun z => by omega), sU_ne (fun z => by omega), sU_ne (fun z => by omega)]
      have r93_1 : W 93 1 = M 93 1 := by rw [hW, sU_ne (fun z => by omega), sU_ne (fun z => by omega), sU_ne (fun z => by omega), sU_ne (fun z => by omega), sU_ne (fun z => by omega), sU_ne (fun z => by omega), sU_ne (fun z => by omega), sU_ne (fun z => by omega), sU_ne (fun z => by omega)]
      have r93_2 : W 93 2 = M 93 2 := by rw [hW, sU_ne (fun z => by omega), sU_ne (fun z => by omega), sU_ne (fun z => by omega), sU_ne (fun z => by omega), sU_ne (fun z => by omega), sU_ne (fun z => by omega), sU_ne (fun z => by omega), sU_ne (fun z => by omega), sU_ne (fun z => by omega)]
      have r93_4 : W 93 4 = M 93 4 := by rw [hW, sU_ne (fun z => by omega), sU_ne (fun z => by omega), sU_ne (fun z => by omega), sU_ne (fun z => by omega), sU_ne (fun z => by omega), sU_ne (fun z => by omega), sU_ne (fun z => by omega), sU_ne (fun z => by omega), sU_ne (fun z => by omega)]
      have r93_6 : W 93 6 = M 93 6 := by rw [hW, sU_ne (fun z => by omega), sU_ne (fun z => by omega), sU_ne (fun z => by omega), sU_ne (fun z => by omega), sU_ne (fun z => by omega), sU_ne (fun z => by omega), sU_ne (fun z => by omega), sU_ne (fun z => by omega), sU_ne (fun z => by omega)]
      have r115_0 : W 115 0 = M 115 0 := by rw [hW, sU_ne (fun z => by omega), sU_ne (fun z => by omega), sU_ne (fun z => by omega), sU_ne (fun z => by omega), sU_ne (fun z => by omega), sU_ne (fun z => by omega), sU_ne (fun z => by omega), sU_ne (fun z => by omega), sU_ne (fun z => by omega)]
      have r116_0 : W 116 0 = M 116 0 := by rw [hW, sU_ne (fun z => by omega), sU_ne (fun z => by omega), sU_ne (fun z => by omega), sU_ne (fun z => by omega), sU_ne (fun z => by omega), sU_ne (fun z => by omega), sU_ne (fun z => by omega), sU_ne (fun z => by omega), sU_ne (fun z => by omega)]
      have c101 : ∀ k, W 101 k = M 101 k := fun k => by rw [hW, sU_ne (fun z => by omega), sU_ne (fun z => by omega), sU_ne (fun z => by omega), sU_ne (fun z => by omega), sU_ne (fun z => by omega), sU_ne (fun z => by omega), sU_ne (fun z => by omega), sU_ne (fun z => by omega), sU_ne (fun z => by omega)]
      have c122 : ∀ k, W 122 k = M 122 k := fun k => by rw [hW, sU_ne (fun z => by omega), sU_ne (fun z => by omega), sU_ne (fun z => by omega), sU_ne (fun z => by omega), sU_ne (fun z => by omega), sU_ne (fun z => by omega), sU_ne (fun z => by omega), sU_ne (fun z => by omega), sU_ne (fun z => by omega)]
      have c123 : ∀ k, W 123 k = M 123 k := fun k => by rw [hW, sU_ne (fun z => by omega), sU_ne (fun z => by omega), sU_ne (fun z => by omega), sU_ne (fun z => by omega), sU_ne (fun z => by omega), sU_ne (fun z => by omega), sU_ne (fun z => by omega), sU_ne (fun z => by omega), sU_ne (fun z => by omega)]
      have c119 : ∀ k, W 119 k = M 119 k := fun k => by rw [hW, sU_ne (fun z => by omega), sU_ne (fun z => by omega), sU_ne (fun z => by omega), sU_ne (fun z => by omega), sU_ne (fun z => by omega), sU_ne (fun z => by omega), sU_ne (fun z => by omega), sU_ne (fun z => by omega), sU_ne (fun z => by omega)]
      have c124 : ∀ k, W 124 k = M 124 k := fun k => by rw [hW, sU_ne (fun z => by omega), sU_ne (fun z => by omega), sU_ne (fun z => by omega), sU_ne (fun z => by omega), sU_ne (fun z => by omega), sU_ne (fun z => by omega), sU_ne (fun z => by omega), sU_ne (fun z => by omega), sU_ne (fun z => by omega)]
      intro h
      rw [r91_901, r91_902, r91_903, r91_904, r91_905, r91_896, r91_897, r91_898]
      repeat rw [x10]
      rw [xcb_c _ _ _ _ (xco_c r93_1 r93_2 r93_4 r93_6 c101 c122 r115_0 r116_0 c123 _ _ _) (c119 _) r93_0 (c124 _), show xe2 W (ρ 1) (ρ 3) = xe2 M (ρ 1) (ρ 3) by unfold xe2; rw [r93_0, c124]]
      exact ⟨rfl, rfl, rfl, fun z => absurd z (by omega)⟩
    have k_xRW : xRW W := by
      rw [hW]
      exact (uxRW rfl (uxRW rfl (uxRW rfl (uxRW rfl (uxRW rfl (uxRW rfl (uxRW rfl (uxRW rfl (uxRW rfl hI.2.2.2.2.2.2.2.2.2.2.2.2.2.1)))))))))
    have k_xWT : xWT W := by
      rw [hW]
      exact (uxWT rfl (uxWT rfl (uxWT rfl (uxWT rfl (uxWT rfl (uxWT rfl (uxWT rfl (uxWT rfl (uxWT rfl hI.2.2.2.2.2.2.2.2.2.2.2.2.2.2.1)))))))))
    have k_xCU : xCU W := by
      rw [hW]
      exact (uxCU rfl (uxCU rfl (uxCU rfl (uxCU rfl (uxCU rfl (uxCU rfl (uxCU rfl (uxCU rfl (uxCU rfl hI.2.2.2.2.2.2.2.2.2.2.2.2.2.2.2.1)))))))))
    have k_xG2 : xG2 W := by
      rw [hW]
      exact (uxG2 rfl (uxG2 rfl (uxG2 rfl (uxG2 rfl (uxG2 rfl (uxG2 rfl (uxG2 rfl (uxG2 rfl (uxG2 rfl hI.2.2.2.2.2.2.2.2.2.2.2.2.2.2.2.2.1)))))))))
    have k_xG3 : xG3 W := by
      rw [hW]
      exact (uxG3 rfl (uxG3 rfl (uxG3 rfl (uxG3 rfl (uxG3 rfl (uxG3 rfl (uxG3 rfl (uxG3 rfl (uxG3 rfl hI.2.2.2.2.2.2.2.2.2.2.2.2.2.2.2.2.2.1)))))))))
    have k_xG4 : xG4 W := by
      rw [hW]
      exact (uxG4 rfl (uxG4 rfl (uxG4 rfl (uxG4 rfl (uxG4 rfl (uxG4 rfl (uxG4 rfl (uxG4 rfl (uxG4 rfl hI.2.2.2.2.2.2.2.2.2.2.2.2.2.2.2.2.2.2.1)))))))))
    have k_xG5 : xG5 W := by
      rw [hW]
      exact (uxG5 rfl (uxG5 rfl (uxG5 rfl (uxG5 rfl (uxG5 rfl (uxG5 rfl (uxG5 rfl (uxG5 rfl (uxG5 rfl hI.2.2.2.2.2.2.2.2.2.2.2.2.2.2.2.2.2.2.2.1)))))))))
    have k_xG6 : xG6 W := by
      rw [hW]
      exact (uxG6 rfl (uxG6 rfl (uxG6 rfl (uxG6 rfl (uxG6 rfl (uxG6 rfl (uxG6 rfl (uxG6 rfl (uxG6 rfl hI.2.2.2.2.2.2.2.2.2.2.2.2.2.2.2.2.2.2.2.2.1)))))))))
    have k_XC : XC W := by
      rw [hW]
      exact (uXC rfl (uXC rfl (uXC rfl (uXC rfl (uXC rfl (uXC rfl (uXC rfl (uXC rfl (uXC rfl hI.2.2.2.2.2.2.2.2.2.2.2.2.2.2.2.2.2.2.2.2.2)))))))))
    have kXB : XB W := ⟨k_xN1, k_xN2, k_xN3, k_xN4, k_xN5, k_xN6, k_xH1, k_xK1, k_xC1, k_xRW, k_xWT, k_xCU, k_xG2, k_xG3, k_xG4, k_xG5, k_xG6, k_XC⟩
    exact ⟨base, k2, k3, kXA, kXB⟩
-- cFar
def xr_116 : qRu := (11, [[(-1, 1), (1, 9)], [(1, 1), (-1, 9)], [(1, 7), (-1, 10)], [(-1, 7), (1, 10)], [(1, 2), (-1, 3), (1, 8)], [(-1, 2), (1, 3), (-1, 8)], [(-1, 0), (1, 1)], [(-1, 0), (1, 6)]], [(91, 900, [(1, 0)]), (91, 901, [(1, 1)]), (91, 902, [(1, 2)]), (91, 903, [(1, 3)]), (91, 904, [(1, 4)]), (91, 905, [(1, 5)]), (91, 876, [(1, 0)]), (91, 879, [(1, 6)]), (91, 877, [(1, 7)]), (91, 878, [(1, 8)]), (119, 1009, [(1, 10)])], [], [], [[(-1000, 0), (1, 5)], [(1000, 0), (-1, 5)]])
theorem xo_116 : qRok xr_116 := by
  intro ρ M h0 hf hm hI
  have f0 := hf [(-1, 1), (1, 9)] (by decide)
  have f1 := hf [(1, 1), (-1, 9)] (by decide)
  have f2 := hf [(1, 7), (-1, 10)] (by decide)
  have f3 := hf [(-1, 7), (1, 10)] (by decide)
  have f4 := hf [(1, 2), (-1, 3), (1, 8)] (by decide)
  have f5 := hf [(-1, 2), (1, 3), (-1, 8)] (by decide)
  have f6 := hf [(-1, 0), (1, 1)] (by decide)
  have f7 := hf [(-1, 0), (1, 6)] (by decide)
  simp only [qD, h0] at f0 f1 f2 f3 f4 f5 f6 f7
  have m0 : M 91 900 = 1 * ρ 0 + 0 := hm (91, 900, [(1, 0)]) (by decide)
  have m1 : M 91 901 = 1 * ρ 1 + 0 := hm (91, 901, [(1, 1)]) (by decide)
  have m2 : M 91 902 = 1 * ρ 2 + 0 := hm (91, 902, [(1, 2)]) (by decide)
  have m3 : M 91 903 = 1 * ρ 3 + 0 := hm (91, 903, [(1, 3)]) (by decide)
  have m4 : M 91 904 = 1 * ρ 4 + 0 := hm (91, 904, [(1, 4)]) (by decide)
  have m5 : M 91 905 = 1 * ρ 5 + 0 := hm (91, 905, [(1, 5)]) (by decide)
  have m6 : M 91 876 = 1 * ρ 0 + 0 := hm (91, 876, [(1, 0)]) (by decide)
  have m7 : M 91 879 = 1 * ρ 6 + 0 := hm (91, 879, [(1, 6)]) (by decide)
  have m8 : M 91 877 = 1 * ρ 7 + 0 := hm (91, 877, [(1, 7)]) (by decide)
  have m9 : M 91 878 = 1 * ρ 8 + 0 := hm (91, 878, [(1, 8)]) (by decide)
  have m10 : M 119 (zIx ρ (1000 + 9)) = 1 * ρ 10 + 0 := hm (119, 1009, [(1, 10)]) (by decide)
  rw [zix_p] at m10
  simp only [h0] at m0 m6
  have qxN6 := hI.2.2.2.2.2.2.2.2.2.1
  have qxC1 := hI.2.2.2.2.2.2.2.2.2.2.2.2.1
  have e6 := qxN6 (by omega)
  rw [show M 91 877 = M 119 (M 91 901).toNat by rw [show (M 91 901).toNat = (ρ 9).toNat by omega]; omega, show M 91 878 = M 91 903 - M 91 902 by omega] at e6
  have hb := xlt_b (M 119 (M 91 901).toNat) (M 91 903 - M 91 902)
  have ec := (qxC1 (by omega)).1
  unfold xcB at ec
  rw [if_pos (Or.inl ⟨by omega, by omega⟩)] at ec
  refine ⟨ρ, fun _ _ => rfl, fun f h => ?_, ?_⟩
  · have h : f ∈ ([[(-1000, 0), (1, 5)], [(1000, 0), (-1, 5)]] : List qF) := h
    simp only [List.mem_cons, List.not_mem_nil, or_false] at h
    rcases h with rfl | rfl
    · show 0 ≤ -1000 * ρ 0 + (1 * ρ 5 + 0)
      (try rw [h0]); omega
    · show 0 ≤ 1000 * ρ 0 + (-1 * ρ 5 + 0)
      (try rw [h0]); omega
  · show sI M
    exact hI
-- cNear
def xr_117 : qRu := (11, [[(-1, 1), (1, 9)], [(1, 1), (-1, 9)], [(1, 7), (-1, 10)], [(-1, 7), (1, 10)], [(1, 2), (-1, 3), (1, 8)], [(-1, 2), (1, 3), (-1, 8)], [(-1, 6)]], [(91, 900, [(1, 0)]), (91, 901, [(1, 1)]), (91, 902, [(1, 2)]), (91, 903, [(1, 3)]), (91, 904, [(1, 4)]), (91, 905, [(1, 5)]), (91, 876, [(1, 0)]), (91, 879, [(1, 6)]), (91, 877, [(1, 7)]), (91, 878, [(1, 8)]), (119, 1009, [(1, 10)])], [], [(91, 898, [(1, 0)])], [])
theorem xo_117 : qRok xr_117 := by
  intro ρ M h0 hf hm hI
  have f0 := hf [(-1, 1), (1, 9)] (by decide)
  have f1 := hf [(1, 1), (-1, 9)] (by decide)
  have f2 := hf [(1, 7), (-1, 10)] (by decide)
  have f3 := hf [(-1, 7), (1, 10)] (by decide)
  have f4 := hf [(1, 2), (-1, 3), (1, 8)] (by decide)
  have f5 := hf [(-1, 2), (1, 3), (-1, 8)] (by decide)
  have f6 := hf [(-1, 6)] (by decide)
  simp only [qD, h0] at f0 f1 f2 f3 f4 f5 f6
  have m0 : M 91 900 = 1 * ρ 0 + 0 := hm (91, 900, [(1, 0)]) (by decide)
  have m1 : M 91 901 = 1 * ρ 1 + 0 := hm (91, 901, [(1, 1)]) (by decide)
  have m2 : M 91 902 = 1 * ρ 2 + 0 := hm (91, 902, [(1, 2)]) (by decide)
  have m3 : M 91 903 = 1 * ρ 3 + 0 := hm (91, 903, [(1, 3)]) (by decide)
  have m4 : M 91 904 = 1 * ρ 4 + 0 := hm (91, 904, [(1, 4)]) (by decide)
  have m5 : M 91 905 = 1 * ρ 5 + 0 := hm (91, 905, [(1, 5)]) (by decide)
  have m6 : M 91 876 = 1 * ρ 0 + 0 := hm (91, 876, [(1, 0)]) (by decide)
  have m7 : M 91 879 = 1 * ρ 6 + 0 := hm (91, 879, [(1, 6)]) (by decide)
  have m8 : M 91 877 = 1 * ρ 7 + 0 := hm (91, 877, [(1, 7)]) (by decide)
  have m9 : M 91 878 = 1 * ρ 8 + 0 := hm (91, 878, [(1, 8)]) (by decide)
  have m10 : M 119 (zIx ρ (1000 + 9)) = 1 * ρ 10 + 0 := hm (119, 1009, [(1, 10)]) (by decide)
  rw [zix_p] at m10
  simp only [h0] at m0 m6
  have qxN6 := hI.2.2.2.2.2.2.2.2.2.1
  have qxC1 := hI.2.2.2.2.2.2.2.2.2.2.2.2.1
  have e6 := qxN6 (by omega)
  rw [show M 91 877 = M 119 (M 91 901).toNat by rw [show (M 91 901).toNat = (ρ 9).toNat by omega]; omega, show M 91 878 = M 91 903 - M 91 902 by omega] at e6
  refine ⟨ρ, fun _ _ => rfl, fun f h => ?_, ?_⟩
  · exact nomatch h
  · show sI (sU M 91 898 (1 * ρ 0 + 0))
    obtain ⟨W, hW⟩ : ∃ W, W = (sU M 91 898 (1 * ρ 0 + 0)) := ⟨_, rfl⟩
    rw [← hW]
    have base : sI0 W := by
      rw [hW]
      exact (si_u0 hI.1 (fun r hr => by cases hr))
    have k2 : XI2 W := by
      rw [hW]
      exact (xi2_u rfl hI.2.1)
    have k3 : XI3 W := by
      rw [hW]
      exact (xi3_u rfl hI.2.2.1)
    have kXA : XA W := by
      rw [hW]
      exact (uXA rfl hI.2.2.2.1)
    have k_xN1 : xN1 W := by
      rw [hW]
      exact (uxN1 rfl hI.2.2.2.2.1)
    have k_xN2 : xN2 W := by
      rw [hW]
      exact (uxN2 rfl hI.2.2.2.2.2.1)
    have k_xN3 : xN3 W := by
      rw [hW]
      exact (uxN3 rfl hI.2.2.2.2.2.2.1)
    have k_xN4 : xN4 W := by
      rw [hW]
      exact (uxN4 rfl hI.2.2.2.2.2.2.2.1)
    have k_xN5 : xN5 W := by
      rw [hW]
      exact (uxN5 rfl hI.2.2.2.2.2.2.2.2.1)
    have k_xN6 : xN6 W := by
      rw [hW]
      exact (uxN6 rfl hI.2.2.2.2.2.2.2.2.2.1)
    have k_xH1 : xH1 W := by
      rw [hW]
      exact (uxH1 rfl hI.2.2.2.2.2.2.2.2.2.2.1)
    have k_xK1 : xK1 W := by
      rw [hW]
      exact (uxK1 rfl hI.2.2.2.2.2.2.2.2.2.2.2.1)
    have k_xC1 : xC1 W := by
      have r91_900 : W 91 900 = M 91 900 := by rw [hW, sU_ne (fun z => by omega)]
      have r91_901 : W 91 901 = M 91 901 := by rw [hW, sU_ne (fun z => by omega)]
      have r91_902 : W 91 902 = M 91 902 := by rw [hW, sU_ne (fun z => by omega)]
      have r91_903 : W 91 903 = M 91 903 := by rw [hW, sU_ne (fun z => by omega)]
      have r91_904 : W 91 904 = M 91 904 := by rw [hW, sU_ne (fun z => by omega)]
      have r91_905 : W 91 905 = M 91 905 := by rw [hW, sU_ne (fun z => by omega)]
      have r91_896 : W 91 896 = M 91 896 := by rw [hW, sU_ne (fun z => by omega)]
      have r91_897 : W 91 897 = M 91 897 := by rw [hW, sU_ne (fun z => by omega)]
      have r91_898 : W 91 898 = 1 * ρ 0 + 0 := by rw [hW, sU_at]
      have r93_0 : W 93 0 = M 93 0 := by rw [hW, sU_ne (fun z => by omega)]
      have r93_1 : W 93 1 = M 93 1 := by rw [hW, sU_ne (fun z => by omega)]
      have r93_2 : W 93 2 = M 93 2 := by rw [hW, sU_ne (fun z => by omega)]
      have r93_4 : W 93 4 = M 93 4 := by rw [hW, sU_ne (fun z => by omega)]
      have r93_6 : W 93 6 = M 93 6 := by rw [hW, sU_ne (fun z => by omega)]
      have r115_0 : W 115 0 = M 115 0 := by rw [hW, sU_ne (fun z => by omega)]
      have r116_0 : W 116 0 = M 116 0 := by rw [hW, sU_ne (fun z => by omega)]
      have c101 : ∀ k, W 101 k = M 101 k := fun k => by rw [hW, sU_ne (fun z => by omega)]
      have c122 : ∀ k, W 122 k = M 122 k := fun k => by rw [hW, sU_ne (fun z => by omega)]
      have c123 : ∀ k, W 123 k = M 123 k := fun k => by rw [hW, sU_ne (fun z => by omega)]
      have c119 : ∀ k, W 119 k = M 119 k := fun k => by rw [hW, sU_ne (fun z => by omega)]
      have c124 : ∀ k, W 124 k = M 124 k := fun k => by rw [hW, sU_ne (fun z => by omega)]
      intro h
      rw [r91_901, r91_902, r91_903, r91_904, r91_905, r91_896, r91_897, r91_898, xcb_c _ _ _ _ (xco_c r93_1 r93_2 r93_4 r93_6 c101 c122 r115_0 r116_0 c123 _ _ _) (c119 _) r93_0 (c124 _), show xe2 W (M 91 901) (M 91 903) = xe2 M (M 91 901) (M 91 903) by unfold xe2; rw [r93_0, c124], c119]
      have ec := qxC1 (by omega)
      exact ⟨ec.1, ec.2.1, ec.2.2.1, fun _ z => by have z2 := z.2; omega⟩
    have k_xRW : xRW W := by
      rw [hW]
      exact (uxRW rfl hI.2.2.2.2.2.2.2.2.2.2.2.2.2.1)
    have k_xWT : xWT W := by
      rw [hW]
      exact (uxWT rfl hI.2.2.2.2.2.2.2.2.2.2.2.2.2.2.1)
    have k_xCU : xCU W := by
      rw [hW]
      exact (uxCU rfl hI.2.2.2.2.2.2.2.2.2.2.2.2.2.2.2.1)
    have k_xG2 : xG2 W := by
      rw [hW]
      exact (uxG2 rfl hI.2.2.2.2.2.2.2.2.2.2.2.2.2.2.2.2.1)
    have k_xG3 : xG3 W := by
      rw [hW]
      exact (uxG3 rfl hI.2.2.2.2.2.2.2.2.2.2.2.2.2.2.2.2.2.1)
    have k_xG4 : xG4 W := by
      rw [hW]
      exact (uxG4 rfl hI.2.2.2.2.2.2.2.2.2.2.2.2.2.2.2.2.2.2.1)
    have k_xG5 : xG5 W := by
      rw [hW]
      exact (uxG5 rfl hI.2.2.2.2.2.2.2.2.2.2.2.2.2.2.2.2.2.2.2.1)
    have k_xG6 : xG6 W := by
      rw [hW]
      exact (uxG6 rfl hI.2.2.2.2.2.2.2.2.2.2.2.2.2.2.2.2.2.2.2.2.1)
    have k_XC : XC W := by
      rw [hW]
      exact (uXC rfl hI.2.2.2.2.2.2.2.2.2.2.2.2.2.2.2.2.2.2.2.2.2)
    have kXB : XB W := ⟨k_xN1, k_xN2, k_xN3, k_xN4, k_xN5, k_xN6, k_xH1, k_xK1, k_xC1, k_xRW, k_xWT, k_xCU, k_xG2, k_xG3, k_xG4, k_xG5, k_xG6, k_XC⟩
    exact ⟨base, k2, k3, kXA, kXB⟩
-- cNear0
def xr_118 : qRu := (6, [[(-1, 1)]], [(91, 900, [(1, 0)]), (91, 901, [(1, 1)]), (91, 902, [(1, 2)]), (91, 903, [(1, 3)]), (91, 904, [(1, 4)]), (91, 905, [(1, 5)])], [], [(91, 898, [(1, 0)])], [])
theorem xo_118 : qRok xr_118 := by
  intro ρ M h0 hf hm hI
  have f0 := hf [(-1, 1)] (by decide)
  simp only [qD, h0] at f0
  have m0 : M 91 900 = 1 * ρ 0 + 0 := hm (91, 900, [(1, 0)]) (by decide)
  have m1 : M 91 901 = 1 * ρ 1 + 0 := hm (91, 901, [(1, 1)]) (by decide)
  have m2 : M 91 902 = 1 * ρ 2 + 0 := hm (91, 902, [(1, 2)]) (by decide)
  have m3 : M 91 903 = 1 * ρ 3 + 0 := hm (91, 903, [(1, 3)]) (by decide)
  have m4 : M 91 904 = 1 * ρ 4 + 0 := hm (91, 904, [(1, 4)]) (by decide)
  have m5 : M 91 905 = 1 * ρ 5 + 0 := hm (91, 905, [(1, 5)]) (by decide)
  simp only [h0] at m0
  have qxC1 := hI.2.2.2.2.2.2.2.2.2.2.2.2.1
  refine ⟨ρ, fun _ _ => rfl, fun f h => ?_, ?_⟩
  · exact nomatch h
  · show sI (sU M 91 898 (1 * ρ 0 + 0))
    obtain ⟨W, hW⟩ : ∃ W, W = (sU M 91 898 (1 * ρ 0 + 0)) := ⟨_, rfl⟩
    rw [← hW]
    have base : sI0 W := by
      rw [hW]
      exact (si_u0 hI.1 (fun r hr => by cases hr))
    have k2 : XI2 W := by
      rw [hW]
      exact (xi2_u rfl hI.2.1)
    have k3 : XI3 W := by
      rw [hW]
      exact (xi3_u rfl hI.2.2.1)
    have kXA : XA W := by
      rw [hW]
      exact (uXA rfl hI.2.2.2.1)
    have k_xN1 : xN1 W := by
      rw [hW]
      exact (uxN1 rfl hI.2.2.2.2.1)
    have k_xN2 : xN2 W := by
      rw [hW]
      exact (uxN2 rfl hI.2.2.2.2.2.1)
    have k_xN3 : xN3 W := by
      rw [hW]
      exact (uxN3 rfl hI.2.2.2.2.2.2.1)
    have k_xN4 : xN4 W := by
      rw [hW]
      exact (uxN4 rfl hI.2.2.2.2.2.2.2.1)
    have k_xN5 : xN5 W := by
      rw [hW]
      exact (uxN5 rfl hI.2.2.2.2.2.2.2.2.1)
    have k_xN6 : xN6 W := by
      rw [hW]
      exact (uxN6 rfl hI.2.2.2.2.2.2.2.2.2.1)
    have k_xH1 : xH1 W := by
      rw [hW]
      exact (uxH1 rfl hI.2.2.2.2.2.2.2.2.2.2.1)
    have k_xK1 : xK1 W := by
      rw [hW]
      exact (uxK1 rfl hI.2.2.2.2.2.2.2.2.2.2.2.1)
    have k_xC1 : xC1 W := by
      have r91_900 : W 91 900 = M 91 900 := by rw [hW, sU_ne (fun z => by omega)]
      have r91_901 : W 91 901 = M 91 901 := by rw [hW, sU_ne (fun z => by omega)]
      have r91_902 : W 91 902 = M 91 902 := by rw [hW, sU_ne (fun z => by omega)]
      have r91_903 : W 91 903 = M 91 903 := by rw [hW, sU_ne (fun z => by omega)]
      have r91_904 : W 91 904 = M 91 904 := by rw [hW, sU_ne (fun z => by omega)]
      have r91_905 : W 91 905 = M 91 905 := by rw [hW, sU_ne (fun z => by omega)]
      have r91_896 : W 91 896 = M 91 896 := by rw [hW, sU_ne (fun z => by omega)]
      have r91_897 : W 91 897 = M 91 897 := by rw [hW, sU_ne (fun z => by omega)]
      have r91_898 : W 91 898 = 1 * ρ 0 + 0 := by rw [hW, sU_at]
      have r93_0 : W 93 0 = M 93 0 := by rw [hW, sU_ne (fun z => by omega)]
      have r93_1 : W 93 1 = M 93 1 := by rw [hW, sU_ne (fun z => by omega)]
      have r93_2 : W 93 2 = M 93 2 := by rw [hW, sU_ne (fun z => by omega)]
      have r93_4 : W 93 4 = M 93 4 := by rw [hW, sU_ne (fun z => by omega)]
      have r93_6 : W 93 6 = M 93 6 := by rw [hW, sU_ne (fun z => by omega)]
      have r115_0 : W 115 0 = M 115 0 := by rw [hW, sU_ne (fun z => by omega)]
      have r116_0 : W 116 0 = M 116 0 := by rw [hW, sU_ne (fun z => by omega)]
      have c101 : ∀ k, W 101 k = M 101 k := fun k => by rw [hW, sU_ne (fun z => by omega)]
      have c122 : ∀ k, W 122 k = M 122 k := fun k => by rw [hW, sU_ne (fun z => by omega)]
      have c123 : ∀ k, W 123 k = M 123 k := fun k => by rw [hW, sU_ne (fun z => by omega)]
      have c119 : ∀ k, W 119 k = M 119 k := fun k => by rw [hW, sU_ne (fun z => by omega)]
      have c124 : ∀ k, W 124 k = M 124 k := fun k => by rw [hW, sU_ne (fun z => by omega)]
      intro h
      rw [r91_901, r91_902, r91_903, r91_904, r91_905, r91_896, r91_897, r91_898, xcb_c _ _ _ _ (xco_c r93_1 r93_2 r93_4 r93_6 c101 c122 r115_0 r116_0 c123 _ _ _) (c119 _) r93_0 (c124 _), show xe2 W (M 91 901) (M 91 903) = xe2 M (M 91 901) (M 91 903) by unfold xe2; rw [r93_0, c124], c119]
      have ec := qxC1 (by omega)
      exact ⟨ec.1, ec.2.1, ec.2.2.1, fun _ z => by have z2 := z.1; omega⟩
    have k_xRW : xRW W := by
      rw [hW]
      exact (uxRW rfl hI.2.2.2.2.2.2.2.2.2.2.2.2.2.1)
    have k_xWT : xWT W := by
      rw [hW]
      exact (uxWT rfl hI.2.2.2.2.2.2.2.2.2.2.2.2.2.2.1)
    have k_xCU : xCU W := by
      rw [hW]
      exact (uxCU rfl hI.2.2.2.2.2.2.2.2.2.2.2.2.2.2.2.1)
    have k_xG2 : xG2 W := by
      rw [hW]
      exact (uxG2 rfl hI.2.2.2.2.2.2.2.2.2.2.2.2.2.2.2.2.1)
    have k_xG3 : xG3 W := by
      rw [hW]
      exact (uxG3 rfl hI.2.2.2.2.2.2.2.2.2.2.2.2.2.2.2.2.2.1)
    have k_xG4 : xG4 W := by
      rw [hW]
      exact (uxG4 rfl hI.2.2.2.2.2.2.2.2.2.2.2.2.2.2.2.2.2.2.1)
    have k_xG5 : xG5 W := by
      rw [hW]
      exact (uxG5 rfl hI.2.2.2.2.2.2.2.2.2.2.2.2.2.2.2.2.2.2.2.1)
    have k_xG6 : xG6 W := by
      rw [hW]
      exact (uxG6 rfl hI.2.2.2.2.2.2.2.2.2.2.2.2.2.2.2.2.2.2.2.2.1)
    have k_XC : XC W := by
      rw [hW]
      exact (uXC rfl hI.2.2.2.2.2.2.2.2.2.2.2.2.2.2.2.2.2.2.2.2.2)
    have kXB : XB W := ⟨k_xN1, k_xN2, k_xN3, k_xN4, k_xN5, k_xN6, k_xH1, k_xK1, k_xC1, k_xRW, k_xWT, k_xCU, k_xG2, k_xG3, k_xG4, k_xG5, k_xG6, k_XC⟩
    exact ⟨base, k2, k3, kXA, kXB⟩
-- cOff
def xr_119 : qRu := (10, [[(-1, 3), (1, 7)], [(1, 3), (-1, 7)], [(-1, 1), (1, 8)], [(1, 1), (-1, 8)], [(-1, 4), (1, 9)], [(1, 4), (-1, 9)], [(-1, 6)], [(1, 6)]], [(91, 900, [(1, 0)]), (91, 901, [(1, 1)]), (91, 902, [(1, 2)]), (91, 903, [(1, 3)]), (91, 904, [(1, 4)]), (91, 905, [(1, 5)]), (91, 909, [(1, 0)]), (91, 910, [(1, 6)]), (91, 911, [(1, 7)]), (91, 912, [(1, 8)]), (91, 913, [(1, 9)])], [], [], [[(-1000, 0), (1, 5)], [(1000, 0), (-1, 5)]])
theorem xo_119 : qRok xr_119 := by
  intro ρ M h0 hf hm hI
  have f0 := hf [(-1, 3), (1, 7)] (by decide)
  have f1 := hf [(1, 3), (-1, 7)] (by decide)
  have f2 := hf [(-1, 1), (1, 8)] (by decide)
  have f3 := hf [(1, 1), (-1, 8)] (by decide)
  have f4 := hf [(-1, 4), (1, 9)] (by decide)
  have f5 := hf [(1, 4), (-1, 9)] (by decide)
  have f6 := hf [(-1, 6)] (by decide)
  have f7 := hf [(1, 6)] (by decide)
  simp only [qD, h0] at f0 f1 f2 f3 f4 f5 f6 f7
  have m0 : M 91 900 = 1 * ρ 0 + 0 := hm (91, 900, [(1, 0)]) (by decide)
  have m1 : M 91 901 = 1 * ρ 1 + 0 := hm (91, 901, [(1, 1)]) (by decide)
  have m2 : M 91 902 = 1 * ρ 2 + 0 := hm (91, 902, [(1, 2)]) (by decide)
  have m3 : M 91 903 = 1 * ρ 3 + 0 := hm (91, 903, [(1, 3)]) (by decide)
  have m4 : M 91 904 = 1 * ρ 4 + 0 := hm (91, 904, [(1, 4)]) (by decide)
  have m5 : M 91 905 = 1 * ρ 5 + 0 := hm (91, 905, [(1, 5)]) (by decide)
  have m6 : M 91 909 = 1 * ρ 0 + 0 := hm (91, 909, [(1, 0)]) (by decide)
  have m7 : M 91 910 = 1 * ρ 6 + 0 := hm (91, 910, [(1, 6)]) (by decide)
  have m8 : M 91 911 = 1 * ρ 7 + 0 := hm (91, 911, [(1, 7)]) (by decide)
  have m9 : M 91 912 = 1 * ρ 8 + 0 := hm (91, 912, [(1, 8)]) (by decide)
  have m10 : M 91 913 = 1 * ρ 9 + 0 := hm (91, 913, [(1, 9)]) (by decide)
  simp only [h0] at m0 m6
  have qxK1 := hI.2.2.2.2.2.2.2.2.2.2.2.1
  have qxC1 := hI.2.2.2.2.2.2.2.2.2.2.2.2.1
  have ek := (qxK1 (by omega)).1
  rw [show M 91 911 = M 91 903 by omega, show M 91 912 = M 91 901 by omega, show M 91 913 = M 91 904 by omega] at ek
  have ec := qxC1 (by omega)
  have ec1 := ec.1
  unfold xcB at ec1
  rw [if_pos (Or.inr (by omega))] at ec1
  refine ⟨ρ, fun _ _ => rfl, fun f h => ?_, ?_⟩
  · have h : f ∈ ([[(-1000, 0), (1, 5)], [(1000, 0), (-1, 5)]] : List qF) := h
    simp only [List.mem_cons, List.not_mem_nil, or_false] at h
    rcases h with rfl | rfl
    · show 0 ≤ -1000 * ρ 0 + (1 * ρ 5 + 0)
      (try rw [h0]); omega
    · show 0 ≤ 1000 * ρ 0 + (-1 * ρ 5 + 0)
      (try rw [h0]); omega
  · show sI M
    exact hI
-- cVal
def xr_120 : qRu := (12, [[(-1, 3), (1, 7)], [(1, 3), (-1, 7)], [(-1, 1), (1, 8)], [(1, 1), (-1, 8)], [(-1, 4), (1, 9)], [(1, 4), (-1, 9)], [(-1, 0), (1, 6)]], [(91, 900, [(1, 0)]), (91, 901, [(1, 1)]), (91, 902, [(1, 2)]), (91, 903, [(1, 3)]), (91, 904, [(1, 4)]), (91, 905, [(1, 5)]), (91, 909, [(1, 0)]), (91, 910, [(1, 6)]), (91, 911, [(1, 7)]), (91, 912, [(1, 8)]), (91, 913, [(1, 9)]), (91, 898, [(1, 0)]), (91, 897, [(1, 10)]), (91, 896, [(1, 11)])], [], [], [[(1, 5), (-1, 10), (-1, 11)], [(-1, 5), (1, 10), (1, 11)]])
theorem xo_120 : qRok xr_120 := by
  intro ρ M h0 hf hm hI
  have f0 := hf [(-1, 3), (1, 7)] (by decide)
  have f1 := hf [(1, 3), (-1, 7)] (by decide)
  have f2 := hf [(-1, 1), (1, 8)] (by decide)
  have f3 := hf [(1, 1), (-1, 8)] (by decide)
  have f4 := hf [(-1, 4), (1, 9)] (by decide)
  have f5 := hf [(1, 4), (-1, 9)] (by decide)
  have f6 := hf [(-1, 0), (1, 6)] (by decide)
  simp only [qD, h0] at f0 f1 f2 f3 f4 f5 f6
  have m0 : M 91 900 = 1 * ρ 0 + 0 := hm (91, 900, [(1, 0)]) (by decide)
  have m1 : M 91 901 = 1 * ρ 1 + 0 := hm (91, 901, [(1, 1)]) (by decide)
  have m2 : M 91 902 = 1 * ρ 2 + 0 := hm (91, 902, [(1, 2)]) (by decide)
  have m3 : M 91 903 = 1 * ρ 3 + 0 := hm (91, 903, [(1, 3)]) (by decide)
  have m4 : M 91 904 = 1 * ρ 4 + 0 := hm (91, 904, [(1, 4)]) (by decide)
  have m5 : M 91 905 = 1 * ρ 5 + 0 := hm (91, 905, [(1, 5)]) (by decide)
  have m6 : M 91 909 = 1 * ρ 0 + 0 := hm (91, 909, [(1, 0)]) (by decide)
  have m7 : M 91 910 = 1 * ρ 6 + 0 := hm (91, 910, [(1, 6)]) (by decide)
  have m8 : M 91 911 = 1 * ρ 7 + 0 := hm (91, 911, [(1, 7)]) (by decide)
  have m9 : M 91 912 = 1 * ρ 8 + 0 := hm (91, 912, [(1, 8)]) (by decide)
  have m10 : M 91 913 = 1 * ρ 9 + 0 := hm (91, 913, [(1, 9)]) (by decide)
  have m11 : M 91 898 = 1 * ρ 0 + 0 := hm (91, 898, [(1, 0)]) (by decide)
  have m12 : M 91 897 = 1 * ρ 10 + 0 := hm (91, 897, [(1, 10)]) (by decide)
  have m13 : M 91 896 = 1 * ρ 11 + 0 := hm (91, 896, [(1, 11)]) (by decide)
  simp only [h0] at m0 m6 m11
  have qxK1 := hI.2.2.2.2.2.2.2.2.2.2.2.1
  have qxC1 := hI.2.2.2.2.2.2.2.2.2.2.2.2.1
  have ek := (qxK1 (by omega)).1
  rw [show M 91 911 = M 91 903 by omega, show M 91 912 = M 91 901 by omega, show M 91 913 = M 91 904 by omega] at ek
  have ec := qxC1 (by omega)
  have ec1 := ec.1
  unfold xcB at ec1
  rw [if_neg (fun z => z.elim (ec.2.2.2 (by omega)) (fun z2 => by omega)), ← ec.2.1, ← ec.2.2.1] at ec1
  refine ⟨ρ, fun _ _ => rfl, fun f h => ?_, ?_⟩
  · have h : f ∈ ([[(1, 5), (-1, 10), (-1, 11)], [(-1, 5), (1, 10), (1, 11)]] : List qF) := h
    simp only [List.mem_cons, List.not_mem_nil, or_false] at h
    rcases h with rfl | rfl
    · show 0 ≤ 1 * ρ 5 + (-1 * ρ 10 + (-1 * ρ 11 + 0))
      (try rw [h0]); omega
    · show 0 ≤ -1 * ρ 5 + (1 * ρ 10 + (1 * ρ 11 + 0))
      (try rw [h0]); omega
  · show sI M
    exact hI
-- eSame
def xr_121 : qRu := (4, [[(1, 1), (-1, 2)], [(-1, 1), (1, 2)]], [(91, 900, [(1, 0)]), (91, 902, [(1, 1)]), (91, 903, [(1, 2)]), (91, 897, [(1, 3)])], [], [], [[(1, 3)], [(-1, 3)]])
theorem xo_121 : qRok xr_121 := by
  intro ρ M h0 hf hm hI
  have f0 := hf [(1, 1), (-1, 2)] (by decide)
  have f1 := hf [(-1, 1), (1, 2)] (by decide)
  simp only [qD, h0] at f0 f1
  have m0 : M 91 900 = 1 * ρ 0 + 0 := hm (91, 900, [(1, 0)]) (by decide)
  have m1 : M 91 902 = 1 * ρ 1 + 0 := hm (91, 902, [(1, 1)]) (by decide)
  have m2 : M 91 903 = 1 * ρ 2 + 0 := hm (91, 903, [(1, 2)]) (by decide)
  have m3 : M 91 897 = 1 * ρ 3 + 0 := hm (91, 897, [(1, 3)]) (by decide)
  simp only [h0] at m0
  have qxC1 := hI.2.2.2.2.2.2.2.2.2.2.2.2.1
  have ec := (qxC1 (by omega)).2.1
  unfold xe1 at ec
  rw [if_pos (by omega)] at ec
  refine ⟨ρ, fun _ _ => rfl, fun f h => ?_, ?_⟩
  · have h : f ∈ ([[(1, 3)], [(-1, 3)]] : List qF) := h
    simp only [List.mem_cons, List.not_mem_nil, or_false] at h
    rcases h with rfl | rfl
    · show 0 ≤ 1 * ρ 3 + 0
      (try rw [h0]); omega
    · show 0 ≤ -1 * ρ 3 + 0
      (try rw [h0]); omega
  · show sI M
    exact hI
-- eOver
def xr_122 : qRu := (4, [[(-1, 0), (1, 1), (-1, 2)]], [(91, 900, [(1, 0)]), (91, 902, [(1, 1)]), (91, 903, [(1, 2)]), (91, 897, [(1, 3)])], [], [], [[(-1, 0), (1, 3)], [(1, 0), (-1, 3)]])
theorem xo_122 : qRok xr_122 := by
  intro ρ M h0 hf hm hI
  have f0 := hf [(-1, 0), (1, 1), (-1, 2)] (by decide)
  simp only [qD, h0] at f0
  have m0 : M 91 900 = 1 * ρ 0 + 0 := hm (91, 900, [(1, 0)]) (by decide)
  have m1 : M 91 902 = 1 * ρ 1 + 0 := hm (91, 902, [(1, 1)]) (by decide)
  have m2 : M 91 903 = 1 * ρ 2 + 0 := hm (91, 903, [(1, 2)]) (by decide)
  have m3 : M 91 897 = 1 * ρ 3 + 0 := hm (91, 897, [(1, 3)]) (by decide)
  simp only [h0] at m0
  have qxC1 := hI.2.2.2.2.2.2.2.2.2.2.2.2.1
  have ec := (qxC1 (by omega)).2.1
  unfold xe1 at ec
  rw [if_neg (by omega)] at ec
  refine ⟨ρ, fun _ _ => rfl, fun f h => ?_, ?_⟩
  · have h : f ∈ ([[(-1, 0), (1, 3)], [(1, 0), (-1, 3)]] : List qF) := h
    simp only [List.mem_cons, List.not_mem_nil, or_false] at h
    rcases h with rfl | rfl
    · show 0 ≤ -1 * ρ 0 + (1 * ρ 3 + 0)
      (try rw [h0]); omega
    · show 0 ≤ 1 * ρ 0 + (-1 * ρ 3 + 0)
      (try rw [h0]); omega
  · show sI M
    exact hI
-- eUnder
def xr_123 : qRu := (4, [[(-1, 0), (-1, 1), (1, 2)]], [(91, 900, [(1, 0)]), (91, 902, [(1, 1)]), (91, 903, [(1, 2)]), (91, 897, [(1, 3)])], [], [], [[(-1, 0), (1, 3)], [(1, 0), (-1, 3)]])
theorem xo_123 : qRok xr_123 := by
  intro ρ M h0 hf hm hI
  have f0 := hf [(-1, 0), (-1, 1), (1, 2)] (by decide)
  simp only [qD, h0] at f0
  have m0 : M 91 900 = 1 * ρ 0 + 0 := hm (91, 900, [(1, 0)]) (by decide)
  have m1 : M 91 902 = 1 * ρ 1 + 0 := hm (91, 902, [(1, 1)]) (by decide)
  have m2 : M 91 903 = 1 * ρ 2 + 0 := hm (91, 903, [(1, 2)]) (by decide)
  have m3 : M 91 897 = 1 * ρ 3 + 0 := hm (91, 897, [(1, 3)]) (by decide)
  simp only [h0] at m0
  have qxC1 := hI.2.2.2.2.2.2.2.2.2.2.2.2.1
  have ec := (qxC1 (by omega)).2.1
  unfold xe1 at ec
  rw [if_neg (by omega)] at ec
  refine ⟨ρ, fun _ _ => rfl, fun f h => ?_, ?_⟩
  · have h : f ∈ ([[(-1, 0), (1, 3)], [(1, 0), (-1, 3)]] : List qF) := h
    simp only [List.mem_cons, List.not_mem_nil, or_false] at h
    rcases h with rfl | rfl
    · show 0 ≤ -1 * ρ 0 + (1 * ρ 3 + 0)
      (try rw [h0]); omega
    · show 0 ≤ 1 * ρ 0 + (-1 * ρ 3 + 0)
      (try rw [h0]); omega
  · show sI M
    exact hI
-- eLast
def xr_124 : qRu := (5, [[(2, 0), (1, 1), (-1, 4)], [(-2, 0), (-1, 1), (1, 4)]], [(91, 900, [(1, 0)]), (91, 901, [(1, 1)]), (91, 903, [(1, 2)]), (91, 896, [(1, 3)]), (93, 0, [(1, 4)])], [], [], [[(1, 3)], [(-1, 3)]])
theorem xo_124 : qRok xr_124 := by
  intro ρ M h0 hf hm hI
  have f0 := hf [(2, 0), (1, 1), (-1, 4)] (by decide)
  have f1 := hf [(-2, 0), (-1, 1), (1, 4)] (by decide)
  simp only [qD, h0] at f0 f1
  have m0 : M 91 900 = 1 * ρ 0 + 0 := hm (91, 900, [(1, 0)]) (by decide)
  have m1 : M 91 901 = 1 * ρ 1 + 0 := hm (91, 901, [(1, 1)]) (by decide)
  have m2 : M 91 903 = 1 * ρ 2 + 0 := hm (91, 903, [(1, 2)]) (by decide)
  have m3 : M 91 896 = 1 * ρ 3 + 0 := hm (91, 896, [(1, 3)]) (by decide)
  have m4 : M 93 0 = 1 * ρ 4 + 0 := hm (93, 0, [(1, 4)]) (by decide)
  simp only [h0] at m0
  have qxC1 := hI.2.2.2.2.2.2.2.2.2.2.2.2.1
  have ec := (qxC1 (by omega)).2.2.1
  unfold xe2 at ec
  rw [if_pos (by omega)] at ec
  refine ⟨ρ, fun _ _ => rfl, fun f h => ?_, ?_⟩
  · have h : f ∈ ([[(1, 3)], [(-1, 3)]] : List qF) := h
    simp only [List.mem_cons, List.not_mem_nil, or_false] at h
    rcases h with rfl | rfl
    · show 0 ≤ 1 * ρ 3 + 0
      (try rw [h0]); omega
    · show 0 ≤ -1 * ρ 3 + 0
      (try rw [h0]); omega
  · show sI M
    exact hI
-- eNext
def xr_125 : qRu := (7, [[(-3, 0), (-1, 1), (1, 4)], [(-10, 0), (-10, 1), (-1, 2), (1, 5)], [(10, 0), (10, 1), (1, 2), (-1, 5)]], [(91, 900, [(1, 0)]), (91, 901, [(1, 1)]), (91, 903, [(1, 2)]), (91, 896, [(1, 3)]), (93, 0, [(1, 4)]), (124, 1005, [(1, 6)])], [], [], [[(1, 3), (-1, 6)], [(-1, 3), (1, 6)]])
theorem xo_125 : qRok xr_125 := by
  intro ρ M h0 hf hm hI
  have f0 := hf [(-3, 0), (-1, 1), (1, 4)] (by decide)
  have f1 := hf [(-10, 0), (-10, 1), (-1, 2), (1, 5)] (by decide)
  have f2 := hf [(10, 0), (10, 1), (1, 2), (-1, 5)] (by decide)
  simp only [qD, h0] at f0 f1 f2
  have m0 : M 91 900 = 1 * ρ 0 + 0 := hm (91, 900, [(1, 0)]) (by decide)
  have m1 : M 91 901 = 1 * ρ 1 + 0 := hm (91, 901, [(1, 1)]) (by decide)
  have m2 : M 91 903 = 1 * ρ 2 + 0 := hm (91, 903, [(1, 2)]) (by decide)
  have m3 : M 91 896 = 1 * ρ 3 + 0 := hm (91, 896, [(1, 3)]) (by decide)
  have m4 : M 93 0 = 1 * ρ 4 + 0 := hm (93, 0, [(1, 4)]) (by decide)
  have m5 : M 124 (zIx ρ (1000 + 5)) = 1 * ρ 6 + 0 := hm (124, 1005, [(1, 6)]) (by decide)
  rw [zix_p] at m5
  simp only [h0] at m0
  have qxC1 := hI.2.2.2.2.2.2.2.2.2.2.2.2.1
  have ec := (qxC1 (by omega)).2.2.1
  unfold xe2 at ec
  rw [if_neg (by omega), show (10 * (M 91 901 + 1) + M 91 903).toNat = (ρ 5).toNat by omega] at ec
  refine ⟨ρ, fun _ _ => rfl, fun f h => ?_, ?_⟩
  · have h : f ∈ ([[(1, 3), (-1, 6)], [(-1, 3), (1, 6)]] : List qF) := h
    simp only [List.mem_cons, List.not_mem_nil, or_false] at h
    rcases h with rfl | rfl
    · show 0 ≤ 1 * ρ 3 + (-1 * ρ 6 + 0)
      (try rw [h0]); omega
    · show 0 ≤ -1 * ρ 3 + (1 * ρ 6 + 0)
      (try rw [h0]); omega
  · show sI M
    exact hI
-- rInit
def xr_126 : qRu := (3, [], [(93, 0, [(1, 2)])], [], [(91, 889, [(1, 0)]), (91, 890, [(1, 2), (-1, 0)]), (91, 892, [(1, 1)]), (91, 893, []), (91, 888, [])], [])
theorem xo_126 : qRok xr_126 := by
  intro ρ M h0 hf hm hI
  have m0 : M 93 0 = 1 * ρ 2 + 0 := hm (93, 0, [(1, 2)]) (by decide)
  have qxRW := hI.2.2.2.2.2.2.2.2.2.2.2.2.2.1
  refine ⟨ρ, fun _ _ => rfl, fun f h => ?_, ?_⟩
  · exact nomatch h
  · show sI (sU (sU (sU (sU (sU M 91 889 (1 * ρ 0 + 0)) 91 890 (1 * ρ 2 + (-1 * ρ 0 + 0))) 91 892 (1 * ρ 1 + 0)) 91 893 (0)) 91 888 (0))
    obtain ⟨W, hW⟩ : ∃ W, W = (sU (sU (sU (sU (sU M 91 889 (1 * ρ 0 + 0)) 91 890 (1 * ρ 2 + (-1 * ρ 0 + 0))) 91 892 (1 * ρ 1 + 0)) 91 893 (0)) 91 888 (0)) := ⟨_, rfl⟩
    rw [← hW]
    have base : sI0 W := by
      rw [hW]
      exact (si_u0 (si_u0 (si_u0 (si_u0 (si_u0 hI.1 (fun r hr => by cases hr)) (fun r hr => by cases hr)) (fun r hr => by cases hr)) (fun r hr => by cases hr)) (fun r hr => by cases hr))
    have k2 : XI2 W := by
      rw [hW]
      exact (xi2_u rfl (xi2_u rfl (xi2_u rfl (xi2_u rfl (xi2_u rfl hI.2.1)))))
    have k3 : XI3 W := by
      rw [hW]
      exact (xi3_u rfl (xi3_u rfl (xi3_u rfl (xi3_u rfl (xi3_u rfl hI.2.2.1)))))
    have kXA : XA W := by
      rw [hW]
      exact (uXA rfl (uXA rfl (uXA rfl (uXA rfl (uXA rfl hI.2.2.2.1)))))
    have k_xN1 : xN1 W := by
      rw [hW]
      exact (uxN1 rfl (uxN1 rfl (uxN1 rfl (uxN1 rfl (uxN1 rfl hI.2.2.2.2.1)))))
    have k_xN2 : xN2 W := by
      rw [hW]
      exact (uxN2 rfl (uxN2 rfl (uxN2 rfl (uxN2 rfl (uxN2 rfl hI.2.2.2.2.2.1)))))
    have k_xN3 : xN3 W := by
      rw [hW]
      exact (uxN3 rfl (uxN3 rfl (uxN3 rfl (uxN3 rfl (uxN3 rfl hI.2.2.2.2.2.2.1)))))
    have k_xN4 : xN4 W := by
      rw [hW]
      exact (uxN4 rfl (uxN4 rfl (uxN4 rfl (uxN4 rfl (uxN4 rfl hI.2.2.2.2.2.2.2.1)))))
    have k_xN5 : xN5 W := by
      rw [hW]
      exact (uxN5 rfl (uxN5 rfl (uxN5 rfl (uxN5 rfl (uxN5 rfl hI.2.2.2.2.2.2.2.2.1)))))
    have k_xN6 : xN6 W := by
      rw [hW]
      exact (uxN6 rfl (uxN6 rfl (uxN6 rfl (uxN6 rfl (uxN6 rfl hI.2.2.2.2.2.2.2.2.2.1)))))
    have k_xH1 : xH1 W := by
      rw [hW]
      exact (uxH1 rfl (uxH1 rfl (uxH1 rfl (uxH1 rfl (uxH1 rfl hI.2.2.2.2.2.2.2.2.2.2.1)))))
    have k_xK1 : xK1 W := by
      rw [hW]
      exact (uxK1 rfl (uxK1 rfl (uxK1 rfl (uxK1 rfl (uxK1 rfl hI.2.2.2.2.2.2.2.2.2.2.2.1)))))
    have k_xC1 : xC1 W := by
      rw [hW]
      exact (uxC1 rfl (uxC1 rfl (uxC1 rfl (uxC1 rfl (uxC1 rfl hI.2.2.2.2.2.2.2.2.2.2.2.2.1)))))
    have k_xRW : xRW W := by
      have r91_889 : W 91 889 = 1 * ρ 0 + 0 := by rw [hW, sU_ne (fun z => by omega), sU_ne (fun z => by omega), sU_ne (fun z => by omega), sU_ne (fun z => by omega), sU_at]
      have r91_890 : W 91 890 = 1 * ρ 2 + (-1 * ρ 0 + 0) := by rw [hW, sU_ne (fun z => by omega), sU_ne (fun z => by omega), sU_ne (fun z => by omega), sU_at]
      have r91_892 : W 91 892 = 1 * ρ 1 + 0 := by rw [hW, sU_ne (fun z => by omega), sU_ne (fun z => by omega), sU_at]
      have r91_893 : W 91 893 = 0 := by rw [hW, sU_ne (fun z => by omega), sU_at]
      have r93_0 : W 93 0 = M 93 0 := by rw [hW, sU_ne (fun z => by omega), sU_ne (fun z => by omega), sU_ne (fun z => by omega), sU_ne (fun z => by omega), sU_ne (fun z => by omega)]
      have r93_1 : W 93 1 = M 93 1 := by rw [hW, sU_ne (fun z => by omega), sU_ne (fun z => by omega), sU_ne (fun z => by omega), sU_ne (fun z => by omega), sU_ne (fun z => by omega)]
      have r93_2 : W 93 2 = M 93 2 := by rw [hW, sU_ne (fun z => by omega), sU_ne (fun z => by omega), sU_ne (fun z => by omega), sU_ne (fun z => by omega), sU_ne (fun z => by omega)]
      have r93_4 : W 93 4 = M 93 4 := by rw [hW, sU_ne (fun z => by omega), sU_ne (fun z => by omega), sU_ne (fun z => by omega), sU_ne (fun z => by omega), sU_ne (fun z => by omega)]
      have r93_6 : W 93 6 = M 93 6 := by rw [hW, sU_ne (fun z => by omega), sU_ne (fun z => by omega), sU_ne (fun z => by omega), sU_ne (fun z => by omega), sU_ne (fun z => by omega)]
      have r115_0 : W 115 0 = M 115 0 := by rw [hW, sU_ne (fun z => by omega), sU_ne (fun z => by omega), sU_ne (fun z => by omega), sU_ne (fun z => by omega), sU_ne (fun z => by omega)]
      have r116_0 : W 116 0 = M 116 0 := by rw [hW, sU_ne (fun z => by omega), sU_ne (fun z => by omega), sU_ne (fun z => by omega), sU_ne (fun z => by omega), sU_ne (fun z => by omega)]
      have c101 : ∀ k, W 101 k = M 101 k := fun k => by rw [hW, sU_ne (fun z => by omega), sU_ne (fun z => by omega), sU_ne (fun z => by omega), sU_ne (fun z => by omega), sU_ne (fun z => by omega)]
      have c122 : ∀ k, W 122 k = M 122 k := fun k => by rw [hW, sU_ne (fun z => by omega), sU_ne (fun z => by omega), sU_ne (fun z => by omega), sU_ne (fun z => by omega), sU_ne (fun z => by omega)]
      have c123 : ∀ k, W 123 k = M 123 k := fun k => by rw [hW, sU_ne (fun z => by omega), sU_ne (fun z => by omega), sU_ne (fun z => by omega), sU_ne (fun z => by omega), sU_ne (fun z => by omega)]
      have c119 : ∀ k, W 119 k = M 119 k := fun k => by rw [hW, sU_ne (fun z => by omega), sU_ne (fun z => by omega), sU_ne (fun z => by omega), sU_ne (fun z => by omega), sU_ne (fun z => by omega)]
      have c124 : ∀ k, W 124 k = M 124 k := fun k => by rw [hW, sU_ne (fun z => by omega), sU_ne (fun z => by omega), sU_ne (fun z => by omega), sU_ne (fun z => by omega), sU_ne (fun z => by omega)]
      intro h b had h1 h2 h3 h4
      rw [r91_890, r91_893, h0] at h3
      rw [r93_0] at h2
      omega
    have k_xWT : xWT W := by
      have r : W 91 888 = 0 := by rw [hW, sU_at]
      intro h
      rw [r] at h
      omega
    have k_xCU : xCU W := by
      rw [hW]
      exact (uxCU rfl (uxCU rfl (uxCU rfl (uxCU rfl (uxCU rfl hI.2.2.2.2.2.2.2.2.2.2.2.2.2.2.2.1)))))
    have k_xG2 : xG2 W := by
      rw [hW]
      exact (uxG2 rfl (uxG2 rfl (uxG2 rfl (uxG2 rfl (uxG2 rfl hI.2.2.2.2.2.2.2.2.2.2.2.2.2.2.2.2.1)))))
    have k_xG3 : xG3 W := by
      rw [hW]
      exact (uxG3 rfl (uxG3 rfl (uxG3 rfl (uxG3 rfl (uxG3 rfl hI.2.2.2.2.2.2.2.2.2.2.2.2.2.2.2.2.2.1)))))
    have k_xG4 : xG4 W := by
      rw [hW]
      exact (uxG4 rfl (uxG4 rfl (uxG4 rfl (uxG4 rfl (uxG4 rfl hI.2.2.2.2.2.2.2.2.2.2.2.2.2.2.2.2.2.2.1)))))
    have k_xG5 : xG5 W := by
      rw [hW]
      exact (uxG5 rfl (uxG5 rfl (uxG5 rfl (uxG5 rfl (uxG5 rfl hI.2.2.2.2.2.2.2.2.2.2.2.2.2.2.2.2.2.2.2.1)))))
    have k_xG6 : xG6 W := by
      rw [hW]
      exact (uxG6 rfl (uxG6 rfl (uxG6 rfl (uxG6 rfl (uxG6 rfl hI.2.2.2.2.2.2.2.2.2.2.2.2.2.2.2.2.2.2.2.2.1)))))
    have k_XC : XC W := by
      rw [hW]
      exact (uXC rfl (uXC rfl (uXC rfl (uXC rfl (uXC rfl hI.2.2.2.2.2.2.2.2.2.2.2.2.2.2.2.2.2.2.2.2.2)))))
    have kXB : XB W := ⟨k_xN1, k_xN2, k_xN3, k_xN4, k_xN5, k_xN6, k_xH1, k_xK1, k_xC1, k_xRW, k_xWT, k_xCU, k_xG2, k_xG3, k_xG4, k_xG5, k_xG6, k_XC⟩
    exact ⟨base, k2, k3, kXA, kXB⟩
-- wInit
def xr_127 : qRu := (3, [], [], [], [(91, 888, [(1, 0)]), (91, 886, [(1, 1)]), (91, 887, [(1, 2)]), (91, 894, []), (91, 895, [(1000, 0)])], [])
theorem xo_127 : qRok xr_127 := by
  intro ρ M h0 hf hm hI
  have qxWT := hI.2.2.2.2.2.2.2.2.2.2.2.2.2.2.1
  refine ⟨ρ, fun _ _ => rfl, fun f h => ?_, ?_⟩
  · exact nomatch h
  · show sI (sU (sU (sU (sU (sU M 91 888 (1 * ρ 0 + 0)) 91 886 (1 * ρ 1 + 0)) 91 887 (1 * ρ 2 + 0)) 91 894 (0)) 91 895 (1000 * ρ 0 + 0))
    obtain ⟨W, hW⟩ : ∃ W, W = (sU (sU (sU (sU (sU M 91 888 (1 * ρ 0 + 0)) 91 886 (1 * ρ 1 + 0)) 91 887 (1 * ρ 2 + 0)) 91 894 (0)) 91 895 (1000 * ρ 0 + 0)) := ⟨_, rfl⟩
    rw [← hW]
    have base : sI0 W := by
      rw [hW]
      exact (si_u0 (si_u0 (si_u0 (si_u0 (si_u0 hI.1 (fun r hr => by cases hr)) (fun r hr => by cases hr)) (fun r hr => by cases hr)) (fun r hr => by cases hr)) (fun r hr => by cases hr))
    have k2 : XI2 W := by
      rw [hW]
      exact (xi2_u rfl (xi2_u rfl (xi2_u rfl (xi2_u rfl (xi2_u rfl hI.2.1)))))
    have k3 : XI3 W := by
      rw [hW]
      exact (xi3_u rfl (xi3_u rfl (xi3_u rfl (xi3_u rfl (xi3_u rfl hI.2.2.1)))))
    have kXA : XA W := by
      rw [hW]
      exact (uXA rfl (uXA rfl (uXA rfl (uXA rfl (uXA rfl hI.2.2.2.1)))))
    have k_xN1 : xN1 W := by
      rw [hW]
      exact (uxN1 rfl (uxN1 rfl (uxN1 rfl (uxN1 rfl (uxN1 rfl hI.2.2.2.2.1)))))
    have k_xN2 : xN2 W := by
      rw [hW]
      exact (uxN2 rfl (uxN2 rfl (uxN2 rfl (uxN2 rfl (uxN2 rfl hI.2.2.2.2.2.1)))))
    have k_xN3 : xN3 W := by
      rw [hW]
      exact (uxN3 rfl (uxN3 rfl (uxN3 rfl (uxN3 rfl (uxN3 rfl hI.2.2.2.2.2.2.1)))))
    have k_xN4 : xN4 W := by
      rw [hW]
      exact (uxN4 rfl (uxN4 rfl (uxN4 rfl (uxN4 rfl (uxN4 rfl hI.2.2.2.2.2.2.2.1)))))
    have k_xN5 : xN5 W := by
      rw [hW]
      exact (uxN5 rfl (uxN5 rfl (uxN5 rfl (uxN5 rfl (uxN5 rfl hI.2.2.2.2.2.2.2.2.1)))))
    have k_xN6 : xN6 W := by
      rw [hW]
      exact (uxN6 rfl (uxN6 rfl (uxN6 rfl (uxN6 rfl (uxN6 rfl hI.2.2.2.2.2.2.2.2.2.1)))))
    have k_xH1 : xH1 W := by
      rw [hW]
      exact (uxH1 rfl (uxH1 rfl (uxH1 rfl (uxH1 rfl (uxH1 rfl hI.2.2.2.2.2.2.2.2.2.2.1)))))
    have k_xK1 : xK1 W := by
      rw [hW]
      exact (uxK1 rfl (uxK1 rfl (uxK1 rfl (uxK1 rfl (uxK1 rfl hI.2.2.2.2.2.2.2.2.2.2.2.1)))))
    have k_xC1 : xC1 W := by
      rw [hW]
      exact (uxC1 rfl (uxC1 rfl (uxC1 rfl (uxC1 rfl (uxC1 rfl hI.2.2.2.2.2.2.2.2.2.2.2.2.1)))))
    have k_xRW : xRW W := by
      rw [hW]
      exact (uxRW rfl (uxRW rfl (uxRW rfl (uxRW rfl (uxRW rfl hI.2.2.2.2.2.2.2.2.2.2.2.2.2.1)))))
    have k_xWT : xWT W := by
      have r91_888 : W 91 888 = 1 * ρ 0 + 0 := by rw [hW, sU_ne (fun z => by omega), sU_ne (fun z => by omega), sU_ne (fun z => by omega), sU_ne (fun z => by omega), sU_at]
      have r91_886 : W 91 886 = 1 * ρ 1 + 0 := by rw [hW, sU_ne (fun z => by omega), sU_ne (fun z => by omega), sU_ne (fun z => by omega), sU_at]
      have r91_887 : W 91 887 = 1 * ρ 2 + 0 := by rw [hW, sU_ne (fun z => by omega), sU_ne (fun z => by omega), sU_at]
      have r91_892 : W 91 892 = M 91 892 := by rw [hW, sU_ne (fun z => by omega), sU_ne (fun z => by omega), sU_ne (fun z => by omega), sU_ne (fun z => by omega), sU_ne (fun z => by omega)]
      have r91_894 : W 91 894 = 0 := by rw [hW, sU_ne (fun z => by omega), sU_at]
      have r91_895 : W 91 895 = 1000 * ρ 0 + 0 := by rw [hW, sU_at]
      have r93_0 : W 93 0 = M 93 0 := by rw [hW, sU_ne (fun z => by omega), sU_ne (fun z => by omega), sU_ne (fun z => by omega), sU_ne (fun z => by omega), sU_ne (fun z => by omega)]
      have r93_1 : W 93 1 = M 93 1 := by rw [hW, sU_ne (fun z => by omega), sU_ne (fun z => by omega), sU_ne (fun z => by omega), sU_ne (fun z => by omega), sU_ne (fun z => by omega)]
      have r93_2 : W 93 2 = M 93 2 := by rw [hW, sU_ne (fun z => by omega), sU_ne (fun z => by omega), sU_ne (fun z => by omega), sU_ne (fun z => by omega), sU_ne (fun z => by omega)]
      have r93_4 : W 93 4 = M 93 4 := by rw [hW, sU_ne (fun z => by omega), sU_ne (fun z => by omega), sU_ne (fun z => by omega), sU_ne (fun z => by omega), sU_ne (fun z => by omega)]
      have r93_6 : W 93 6 = M 93 6 := by rw [hW, sU_ne (fun z => by omega), sU_ne (fun z => by omega), sU_ne (fun z => by omega), sU_ne (fun z => by omega), sU_ne (fun z => by omega)]
      have r115_0 : W 115 0 = M 115 0 := by rw [hW, sU_ne (fun z => by omega), sU_ne (fun z => by omega), sU_ne (fun z => by omega), sU_ne (fun z => by omega), sU_ne (fun z => by omega)]
      have r116_0 : W 116 0 = M 116 0 := by rw [hW, sU_ne (fun z => by omega), sU_ne (fun z => by omega), sU_ne (fun z => by omega), sU_ne (fun z => by omega), sU_ne (fun z => by omega)]
      have c101 : ∀ k, W 101 k = M 101 k := fun k => by rw [hW, sU_ne (fun z => by omega), sU_ne (fun z => by omega), sU_ne (fun z => by omega), sU_ne (fun z => by omega), sU_ne (fun z => by omega)]
      have c122 : ∀ k, W 122 k = M 122 k := fun k => by rw [hW, sU_ne (fun z => by omega), sU_ne (fun z => by omega), sU_ne (fun z => by omega), sU_ne (fun z => by omega), sU_ne (fun z => by omega)]
      have c123 : ∀ k, W 123 k = M 123 k := fun k => by rw [hW, sU_ne (fun z => by omega), sU_ne (fun z => by omega), sU_ne (fun z => by omega), sU_ne (fun z => by omega), sU_ne (fun z => by omega)]
      have c119 : ∀ k, W 119 k = M 119 k := fun k => by rw [hW, sU_ne (fun z => by omega), sU_ne (fun z => by omega), sU_ne (fun z => by omega), sU_ne (fun z => by omega), sU_ne (fun z => by omega)]
      have c124 : ∀ k, W 124 k = M 124 k := fun k => by rw [hW, sU_ne (fun z => by omega), sU_ne (fun z => by omega), sU_ne (fun z => by omega), sU_ne (fun z => by omega), sU_ne (fun z => by omega)]
      intro h h1
      rw [r91_895, h0] at h1
      omega
    have k_xCU : xCU W := by
      rw [hW]
      exact (uxCU rfl (uxCU rfl (uxCU rfl (uxCU rfl (uxCU rfl hI.2.2.2.2.2.2.2.2.2.2.2.2.2.2.2.1)))))
    have k_xG2 : xG2 W := by
      rw [hW]
      exact (uxG2 rfl (uxG2 rfl (uxG2 rfl (uxG2 rfl (uxG2 rfl hI.2.2.2.2.2.2.2.2.2.2.2.2.2.2.2.2.1)))))
    have k_xG3 : xG3 W := by
      rw [hW]
      exact (uxG3 rfl (uxG3 rfl (uxG3 rfl (uxG3 rfl (uxG3 rfl hI.2.2.2.2.2.2.2.2.2.2.2.2.2.2.2.2.2.1)))))
    have k_xG4 : xG4 W := by
      rw [hW]
      exact (uxG4 rfl (uxG4 rfl (uxG4 rfl (uxG4 rfl (uxG4 rfl hI.2.2.2.2.2.2.2.2.2.2.2.2.2.2.2.2.2.2.1)))))
    have k_xG5 : xG5 W := by
      rw [hW]
      exact (uxG5 rfl (uxG5 rfl (uxG5 rfl (uxG5 rfl (uxG5 rfl hI.2.2.2.2.2.2.2.2.2.2.2.2.2.2.2.2.2.2.2.1)))))
    have k_xG6 : xG6 W := by
      rw [hW]
      exact (uxG6 rfl (uxG6 rfl (uxG6 rfl (uxG6 rfl (uxG6 rfl hI.2.2.2.2.2.2.2.2.2.2.2.2.2.2.2.2.2.2.2.2.1)))))
    have k_XC : XC W := by
      rw [hW]
      exact (uXC rfl (uXC rfl (uXC rfl (uXC rfl (uXC rfl hI.2.2.2.2.2.2.2.2.2.2.2.2.2.2.2.2.2.2.2.2.2)))))
    have kXB : XB W := ⟨k_xN1, k_xN2, k_xN3, k_xN4, k_xN5, k_xN6, k_xH1, k_xK1, k_xC1, k_xRW, k_xWT, k_xCU, k_xG2, k_xG3, k_xG4, k_xG5, k_xG6, k_XC⟩
    exact ⟨base, k2, k3, kXA, kXB⟩
-- wNew
def xr_128 : qRu := (9, [[(1, 1), (-1, 6)], [(-1, 1), (1, 6)], [(1, 2), (-1, 7)], [(-1, 2), (1, 7)], [(1, 4), (-1, 8)], [(-1, 4), (1, 8)], [(1, 3)], [(9, 0), (-1, 3)]], [(91, 900, [(1, 0)]), (91, 901, [(1, 1)]), (91, 902, [(1, 2)]), (91, 903, [(1, 3)]), (91, 904, [(1, 4)]), (91, 905, [(1, 5)]), (91, 888, [(1, 0)]), (91, 886, [(1, 6)]), (91, 887, [(1, 7)]), (91, 892, [(1, 8)])], [], [(91, 894, [(1, 3)]), (91, 895, [(1, 5)])], [])
theorem xo_128 : qRok xr_128 := by
  intro ρ M h0 hf hm hI
  have f0 := hf [(1, 1), (-1, 6)] (by decide)
  have f1 := hf [(-1, 1), (1, 6)] (by decide)
  have f2 := hf [(1, 2), (-1, 7)] (by decide)
  have f3 := hf [(-1, 2), (1, 7)] (by decide)
  have f4 := hf [(1, 4), (-1, 8)] (by decide)
  have f5 := hf [(-1, 4), (1, 8)] (by decide)
  have f6 := hf [(1, 3)] (by decide)
  have f7 := hf [(9, 0), (-1, 3)] (by decide)
  simp only [qD, h0] at f0 f1 f2 f3 f4 f5 f6 f7
  have m0 : M 91 900 = 1 * ρ 0 + 0 := hm (91, 900, [(1, 0)]) (by decide)
  have m1 : M 91 901 = 1 * ρ 1 + 0 := hm (91, 901, [(1, 1)]) (by decide)
  have m2 : M 91 902 = 1 * ρ 2 + 0 := hm (91, 902, [(1, 2)]) (by decide)
  have m3 : M 91 903 = 1 * ρ 3 + 0 := hm (91, 903, [(1, 3)]) (by decide)
  have m4 : M 91 904 = 1 * ρ 4 + 0 := hm (91, 904, [(1, 4)]) (by decide)
  have m5 : M 91 905 = 1 * ρ 5 + 0 := hm (91, 905, [(1, 5)]) (by decide)
  have m6 : M 91 888 = 1 * ρ 0 + 0 := hm (91, 888, [(1, 0)]) (by decide)
  have m7 : M 91 886 = 1 * ρ 6 + 0 := hm (91, 886, [(1, 6)]) (by decide)
  have m8 : M 91 887 = 1 * ρ 7 + 0 := hm (91, 887, [(1, 7)]) (by decide)
  have m9 : M 91 892 = 1 * ρ 8 + 0 := hm (91, 892, [(1, 8)]) (by decide)
  simp only [h0] at m0 m6
  have qxC1 := hI.2.2.2.2.2.2.2.2.2.2.2.2.1
  have qxWT := hI.2.2.2.2.2.2.2.2.2.2.2.2.2.2.1
  refine ⟨ρ, fun _ _ => rfl, fun f h => ?_, ?_⟩
  · exact nomatch h
  · show sI (sU (sU M 91 894 (1 * ρ 3 + 0)) 91 895 (1 * ρ 5 + 0))
    obtain ⟨W, hW⟩ : ∃ W, W = (sU (sU M 91 894 (1 * ρ 3 + 0)) 91 895 (1 * ρ 5 + 0)) := ⟨_, rfl⟩
    rw [← hW]
    have base : sI0 W := by
      rw [hW]
      exact (si_u0 (si_u0 hI.1 (fun r hr => by cases hr)) (fun r hr => by cases hr))
    have k2 : XI2 W := by
      rw [hW]
      exact (xi2_u rfl (xi2_u rfl hI.2.1))
    have k3 : XI3 W := by
      rw [hW]
      exact (xi3_u rfl (xi3_u rfl hI.2.2.1))
    have kXA : XA W := by
      rw [hW]
      exact (uXA rfl (uXA rfl hI.2.2.2.1))
    have k_xN1 : xN1 W := by
      rw [hW]
      exact (uxN1 rfl (uxN1 rfl hI.2.2.2.2.1))
    have k_xN2 : xN2 W := by
      rw [hW]
      exact (uxN2 rfl (uxN2 rfl hI.2.2.2.2.2.1))
    have k_xN3 : xN3 W := by
      rw [hW]
      exact (uxN3 rfl (uxN3 rfl hI.2.2.2.2.2.2.1))
    have k_xN4 : xN4 W := by
      rw [hW]
      exact (uxN4 rfl (uxN4 rfl hI.2.2.2.2.2.2.2.1))
    have k_xN5 : xN5 W := by
      rw [hW]
      exact (uxN5 rfl (uxN5 rfl hI.2.2.2.2.2.2.2.2.1))
    have k_xN6 : xN6 W := by
      rw [hW]
      exact (uxN6 rfl (uxN6 rfl hI.2.2.2.2.2.2.2.2.2.1))
    have k_xH1 : xH1 W := by
      rw [hW]
      exact (uxH1 rfl (uxH1 rfl hI.2.2.2.2.2.2.2.2.2.2.1))
    have k_xK1 : xK1 W := by
      rw [hW]
      exact (uxK1 rfl (uxK1 rfl hI.2.2.2.2.2.2.2.2.2.2.2.1))
    have k_xC1 : xC1 W := by
      rw [hW]
      exact (uxC1 rfl (uxC1 rfl hI.2.2.2.2.2.2.2.2.2.2.2.2.1))
    have k_xRW : xRW W := by
      rw [hW]
      exact (uxRW rfl (uxRW rfl hI.2.2.2.2.2.2.2.2.2.2.2.2.2.1))
    have k_xWT : xWT W := by
      have r91_888 : W 91 888 = M 91 888 := by rw [hW, sU_ne (fun z => by omega), sU_ne (fun z => by omega)]
      have r91_886 : W 91 886 = M 91 886 := by rw [hW, sU_ne (fun z => by omega), sU_ne (fun z => by omega)]
      have r91_887 : W 91 887 = M 91 887 := by rw [hW, sU_ne (fun z => by omega), sU_ne (fun z => by omega)]
      have r91_892 : W 91 892 = M 91 892 := by rw [hW, sU_ne (fun z => by omega), sU_ne (fun z => by omega)]
      have r91_894 : W 91 894 = 1 * ρ 3 + 0 := by rw [hW, sU_ne (fun z => by omega), sU_at]
      have r91_895 : W 91 895 = 1 * ρ 5 + 0 := by rw [hW, sU_at]
      have r93_0 : W 93 0 = M 93 0 := by rw [hW, sU_ne (fun z => by omega), sU_ne (fun z => by omega)]
      have r93_1 : W 93 1 = M 93 1 := by rw [hW, sU_ne (fun z => by omega), sU_ne (fun z => by omega)]
      have r93_2 : W 93 2 = M 93 2 := by rw [hW, sU_ne (fun z => by omega), sU_ne (fun z => by omega)]
      have r93_4 : W 93 4 = M 93 4 := by rw [hW, sU_ne (fun z => by omega), sU_ne (fun z => by omega)]
      have r93_6 : W 93 6 = M 93 6 := by rw [hW, sU_ne (fun z => by omega), sU_ne (fun z => by omega)]
      have r115_0 : W 115 0 = M 115 0 := by rw [hW, sU_ne (fun z => by omega), sU_ne (fun z => by omega)]
      have r116_0 : W 116 0 = M 116 0 := by rw [hW, sU_ne (fun z => by omega), sU_ne (fun z => by omega)]
      have c101 : ∀ k, W 101 k = M 101 k := fun k => by rw [hW, sU_ne (fun z => by omega), sU_ne (fun z => by omega)]
      have c122 : ∀ k, W 122 k = M 122 k := fun k => by rw [hW, sU_ne (fun z => by omega), sU_ne (fun z => by omega)]
      have c123 : ∀ k, W 123 k = M 123 k := fun k => by rw [hW, sU_ne (fun z => by omega), sU_ne (fun z => by omega)]
      have c119 : ∀ k, W 119 k = M 119 k := fun k => by rw [hW, sU_ne (fun z => by omega), sU_ne (fun z => by omega)]
      have c124 : ∀ k, W 124 k = M 124 k := fun k => by rw [hW, sU_ne (fun z => by omega), sU_ne (fun z => by omega)]
      intro h h1
      rw [r91_886, r91_887, r91_892, r91_894, r91_895, xcb_c _ _ _ _ (xco_c r93_1 r93_2 r93_4 r93_6 c101 c122 r115_0 r116_0 c123 _ _ _) (c119 _) r93_0 (c124 _)]
      have ec := (qxC1 (by omega)).1
      refine ⟨by omega, by omega, ?_⟩
      rw [show M 91 886 = M 91 901 by omega, show M 91 887 = M 91 902 by omega, show M 91 892 = M 91 904 by omega, show 1 * ρ 3 + 0 = M 91 903 by omega, ← ec]
      omega
    have k_xCU : xCU W := by
      rw [hW]
      exact (uxCU rfl (uxCU rfl hI.2.2.2.2.2.2.2.2.2.2.2.2.2.2.2.1))
    have k_xG2 : xG2 W := by
      rw [hW]
      exact (uxG2 rfl (uxG2 rfl hI.2.2.2.2.2.2.2.2.2.2.2.2.2.2.2.2.1))
    have k_xG3 : xG3 W := by
      rw [hW]
      exact (uxG3 rfl (uxG3 rfl hI.2.2.2.2.2.2.2.2.2.2.2.2.2.2.2.2.2.1))
    have k_xG4 : xG4 W := by
      rw [hW]
      exact (uxG4 rfl (uxG4 rfl hI.2.2.2.2.2.2.2.2.2.2.2.2.2.2.2.2.2.2.1))
    have k_xG5 : xG5 W := by
      rw [hW]
      exact (uxG5 rfl (uxG5 rfl hI.2.2.2.2.2.2.2.2.2.2.2.2.2.2.2.2.2.2.2.1))
    have k_xG6 : xG6 W := by
      rw [hW]
      exact (uxG6 rfl (uxG6 rfl hI.2.2.2.2.2.2.2.2.2.2.2.2.2.2.2.2.2.2.2.2.1))
    have k_XC : XC W := by
      rw [hW]
      exact (uXC rfl (uXC rfl hI.2.2.2.2.2.2.2.2.2.2.2.2.2.2.2.2.2.2.2.2.2))
    have kXB : XB W := ⟨k_xN1, k_xN2, k_xN3, k_xN4, k_xN5, k_xN6, k_xH1, k_xK1, k_xC1, k_xRW, k_xWT, k_xCU, k_xG2, k_xG3, k_xG4, k_xG5, k_xG6, k_XC⟩
    exact ⟨base, k2, k3, kXA, kXB⟩
-- rowW
def xr_129 : qRu := (8, [[(1, 2), (-1, 7)], [(-1, 2), (1, 7)], [(-1, 0), (-1, 3), (1, 5)], [(1, 0), (1, 3), (-1, 5)], [(-1, 4), (1, 6)], [(1, 4), (-1, 6)], [(1, 1), (-10, 3), (-1, 4)], [(-1, 1), (10, 3), (1, 4)], [(1, 3)], [(1, 4)], [(9, 0), (-1, 4)], [(1, 2)], [(1000, 0), (-1, 2)]], [(91, 888, [(1, 0)]), (91, 889, [(1, 0)]), (91, 886, [(1, 3)]), (91, 887, [(1, 4)]), (91, 890, [(1, 5)]), (91, 893, [(1, 6)]), (91, 895, [(1, 7)])], [(124, [(1, 1)], [(1, 2)])], [(91, 893, [(1, 6), (1, 0)]), (91, 888, []), (91, 900, []), (91, 884, [])], [])
theorem xo_129 : qRok xr_129 := by
  intro ρ M h0 hf hm hI
  have f0 := hf [(1, 2), (-1, 7)] (by decide)
  have f1 := hf [(-1, 2), (1, 7)] (by decide)
  have f2 := hf [(-1, 0), (-1, 3), (1, 5)] (by decide)
  have f3 := hf [(1, 0), (1, 3), (-1, 5)] (by decide)
  have f4 := hf [(-1, 4), (1, 6)] (by decide)
  have f5 := hf [(1, 4), (-1, 6)] (by decide)
  have f6 := hf [(1, 1), (-10, 3), (-1, 4)] (by decide)
  have f7 := hf [(-1, 1), (10, 3), (1, 4)] (by decide)
  have f8 := hf [(1, 3)] (by decide)
  have f9 := hf [(1, 4)] (by decide)
  have f10 := hf [(9, 0), (-1, 4)] (by decide)
  have f11 := hf [(1, 2)] (by decide)
  have f12 := hf [(1000, 0), (-1, 2)] (by decide)
  simp only [qD, h0] at f0 f1 f2 f3 f4 f5 f6 f7 f8 f9 f10 f11 f12
  have m0 : M 91 888 = 1 * ρ 0 + 0 := hm (91, 888, [(1, 0)]) (by decide)
  have m1 : M 91 889 = 1 * ρ 0 + 0 := hm (91, 889, [(1, 0)]) (by decide)
  have m2 : M 91 886 = 1 * ρ 3 + 0 := hm (91, 886, [(1, 3)]) (by decide)
  have m3 : M 91 887 = 1 * ρ 4 + 0 := hm (91, 887, [(1, 4)]) (by decide)
  have m4 : M 91 890 = 1 * ρ 5 + 0 := hm (91, 890, [(1, 5)]) (by decide)
  have m5 : M 91 893 = 1 * ρ 6 + 0 := hm (91, 893, [(1, 6)]) (by decide)
  have m6 : M 91 895 = 1 * ρ 7 + 0 := hm (91, 895, [(1, 7)]) (by decide)
  simp only [h0] at m0 m1
  have qxRW := hI.2.2.2.2.2.2.2.2.2.2.2.2.2.1
  have qxWT := hI.2.2.2.2.2.2.2.2.2.2.2.2.2.2.1
  refine ⟨ρ, fun _ _ => rfl, fun f h => ?_, ?_⟩
  · exact nomatch h
  · show sI (sU (sU (sU (sU (sU M 124 (1 * ρ 1 + 0 : Int).toNat (1 * ρ 2 + 0)) 91 893 (1 * ρ 6 + (1 * ρ 0 + 0))) 91 888 (0)) 91 900 (0)) 91 884 (0))
    obtain ⟨W, hW⟩ : ∃ W, W = (sU (sU (sU (sU (sU M 124 (1 * ρ 1 + 0).toNat (1 * ρ 2 + 0)) 91 893 (1 * ρ 6 + (1 * ρ 0 + 0))) 91 888 (0)) 91 900 (0)) 91 884 (0)) := ⟨_, rfl⟩
    rw [← hW]
    have base : sI0 W := by
      rw [hW]
      exact (si_u0 (si_u0 (si_u0 (si_u0 (si_u0 hI.1 (fun r hr => by rw [xt_124 hr]; exact ⟨by show (0 : Int) ≤ _; omega, by show _ ≤ (1000 : Int); omega⟩)) (fun r hr => by cases hr)) (fun r hr => by cases hr)) (fun r hr => by cases hr)) (fun r hr => by cases hr))
    have k2 : XI2 W := by
      rw [hW]
      exact (xi2_u rfl (xi2_u rfl (xi2_u rfl (xi2_u rfl (xi2_u (sinc_ok rfl _) hI.2.1)))))
    have k3 : XI3 W := by
      rw [hW]
      exact (xi3_u rfl (xi3_u rfl (xi3_u rfl (xi3_u rfl (xi3_u (sinc_ok rfl _) hI.2.2.1)))))
    have kXA : XA W := by
      rw [hW]
      exact (uXA rfl (uXA rfl (uXA rfl (uXA rfl (uXA (sinc_ok rfl _) hI.2.2.2.1)))))
    have k_xN1 : xN1 W := by
      rw [hW]
      exact (uxN1 rfl (uxN1 rfl (uxN1 rfl (uxN1 rfl (uxN1 (sinc_ok rfl _) hI.2.2.2.2.1)))))
    have k_xN2 : xN2 W := by
      rw [hW]
      exact (uxN2 rfl (uxN2 rfl (uxN2 rfl (uxN2 rfl (uxN2 (sinc_ok rfl _) hI.2.2.2.2.2.1)))))
    have k_xN3 : xN3 W := by
      rw [hW]
      exact (uxN3 rfl (uxN3 rfl (uxN3 rfl (uxN3 rfl (uxN3 (sinc_ok rfl _) hI.2.2.2.2.2.2.1)))))
    have k_xN4 : xN4 W := by
      rw [hW]
      exact (uxN4 rfl (uxN4 rfl (uxN4 rfl (uxN4 rfl (uxN4 (sinc_ok rfl _) hI.2.2.2.2.2.2.2.1)))))
    have k_xN5 : xN5 W := by
      rw [hW]
      exact (uxN5 rfl (uxN5 rfl (uxN5 rfl (uxN5 rfl (uxN5 (sinc_ok rfl _) hI.2.2.2.2.2.2.2.2.1)))))
    have k_xN6 : xN6 W := by
      rw [hW]
      exact (uxN6 rfl (uxN6 rfl (uxN6 rfl (uxN6 rfl (uxN6 (sinc_ok rfl _) hI.2.2.2.2.2.2.2.2.2.1)))))
    have k_xH1 : xH1 W := by
      rw [hW]
      exact (uxH1 rfl (uxH1 rfl (uxH1 rfl (uxH1 rfl (uxH1 (sinc_ok rfl _) hI.2.2.2.2.2.2.2.2.2.2.1)))))
    have k_xK1 : xK1 W := by
      rw [hW]
      exact (uxK1 rfl (uxK1 rfl (uxK1 rfl (uxK1 rfl (uxK1 (sinc_ok rfl _) hI.2.2.2.2.2.2.2.2.2.2.2.1)))))
    have k_xC1 : xC1 W := by
      have r : W 91 900 = 0 := by rw [hW, sU_ne (fun z => by omega), sU_at]
      intro h
      rw [r] at h
      omega
    have k_xRW : xRW W := by
      have r91_889 : W 91 889 = M 91 889 := by rw [hW, sU_ne (fun z => by omega), sU_ne (fun z => by omega), sU_ne (fun z => by omega), sU_ne (fun z => by omega), sU_ne (fun z => by omega)]
      have r91_890 : W 91 890 = M 91 890 := by rw [hW, sU_ne (fun z => by omega), sU_ne (fun z => by omega), sU_ne (fun z => by omega), sU_ne (fun z => by omega), sU_ne (fun z => by omega)]
      have r91_892 : W 91 892 = M 91 892 := by rw [hW, sU_ne (fun z => by omega), sU_ne (fun z => by omega), sU_ne (fun z => by omega), sU_ne (fun z => by omega), sU_ne (fun z => by omega)]
      have r91_893 : W 91 893 = 1 * ρ 6 + (1 * ρ 0 + 0) := by rw [hW, sU_ne (fun z => by omega), sU_ne (fun z => by omega), sU_ne (fun z => by omega), sU_at]
      have r93_0 : W 93 0 = M 93 0 := by rw [hW, sU_ne (fun z => by omega), sU_ne (fun z => by omega), sU_ne (fun z => by omega), sU_ne (fun z => by omega), sU_ne (fun z => by omega)]
      have r93_1 : W 93 1 = M 93 1 := by rw [hW, sU_ne (fun z => by omega), sU_ne (fun z => by omega), sU_ne (fun z => by omega), sU_ne (fun z => by omega), sU_ne (fun z => by omega)]
      have r93_2 : W 93 2 = M 93 2 := by rw [hW, sU_ne (fun z => by omega), sU_ne (fun z => by omega), sU_ne (fun z => by omega), sU_ne (fun z => by omega), sU_ne (fun z => by omega)]
      have r93_4 : W 93 4 = M 93 4 := by rw [hW, sU_ne (fun z => by omega), sU_ne (fun z => by omega), sU_ne (fun z => by omega), sU_ne (fun z => by omega), sU_ne (fun z => by omega)]
      have r93_6 : W 93 6 = M 93 6 := by rw [hW, sU_ne (fun z => by omega), sU_ne (fun z => by omega), sU_ne (fun z => by omega), sU_ne (fun z => by omega), sU_ne (fun z => by omega)]
      have r115_0 : W 115 0 = M 115 0 := by rw [hW, sU_ne (fun z => by omega), sU_ne (fun z => by omega), sU_ne (fun z => by omega), sU_ne (fun z => by omega), sU_ne (fun z => by omega)]
      have r116_0 : W 116 0 = M 116 0 := by rw [hW, sU_ne (fun z => by omega), sU_ne (fun z => by omega), sU_ne (fun z => by omega), sU_ne (fun z => by omega), sU_ne (fun z => by omega)]
      have c101 : ∀ k, W 101 k = M 101 k := fun k => by rw [hW, sU_ne (fun z => by omega), sU_ne (fun z => by omega), sU_ne (fun z => by omega), sU_ne (fun z => by omega), sU_ne (fun z => by omega)]
      have c122 : ∀ k, W 122 k = M 122 k := fun k => by rw [hW, sU_ne (fun z => by omega), sU_ne (fun z => by omega), sU_ne (fun z => by omega), sU_ne (fun z => by omega), sU_ne (fun z => by omega)]
      have c123 : ∀ k, W 123 k = M 123 k := fun k => by rw [hW, sU_ne (fun z => by omega), sU_ne (fun z => by omega), sU_ne (fun z => by omega), sU_ne (fun z => by omega), sU_ne (fun z => by omega)]
      have c119 : ∀ k, W 119 k = M 119 k := fun k => by rw [hW, sU_ne (fun z => by omega), sU_ne (fun z => by omega), sU_ne (fun z => by omega), sU_ne (fun z => by omega), sU_ne (fun z => by omega)]
      have c124 : ∀ k : Nat, k ≠ (1 * ρ 1 + 0).toNat → W 124 k = M 124 k := fun k hk => by rw [hW, sU_ne (fun z => by omega), sU_ne (fun z => by omega), sU_ne (fun z => by omega), sU_ne (fun z => by omega), sU_ne (fun z => by omega)]
      have a124 : W 124 (1 * ρ 1 + 0).toNat = 1 * ρ 2 + 0 := by rw [hW, sU_ne (fun z => by omega), sU_ne (fun z => by omega), sU_ne (fun z => by omega), sU_ne (fun z => by omega), sU_at]
      intro h b had h1 h2 h3 h4
      rw [r91_890, r91_893, h0] at h3
      rw [r93_0] at h2
      rw [r91_892]
      have hO : ∀ st b fr, xcO W st b fr = xcO M st b fr := fun st b fr => xco_c r93_1 r93_2 r93_4 r93_6 c101 c122 r115_0 r116_0 c123 st b fr
      by_cases hc : 10 * b + had = (1 * ρ 1 + 0).toNat
      · rw [hc, a124] at h4 ⊢
        have eb : b = (ρ 3).toNat := by omega
        have eh : had = (ρ 4).toNat := by omega
        have ew := qxWT (by omega) (by omega)
        refine ⟨(M 91 894).toNat, by omega, ?_⟩
        rw [xcb_c _ _ _ _ (hO _ _ _) (c119 _) r93_0 (c124 _ (by omega)), show ((b : Nat) : Int) = M 91 886 by omega, show ((had : Nat) : Int) = M 91 887 by omega, show (((M 91 894).toNat : Nat) : Int) = M 91 894 by omega, ew.2.2]
        omega
      · rw [c124 _ hc] at h4 ⊢
        obtain ⟨st, e1, e2⟩ := qxRW (by omega) b had h1 h2 (by omega) h4
        refine ⟨st, e1, ?_⟩
        rw [xcb_c _ _ _ _ (hO _ _ _) (c119 _) r93_0 (c124 _ (by omega))]
        exact e2
    have k_xWT : xWT W := by
      have r : W 91 888 = 0 := by rw [hW, sU_ne (fun z => by omega), sU_ne (fun z => by omega), sU_at]
      intro h
      rw [r] at h
      omega
    have k_xCU : xCU W := by
      have r : W 91 884 = 0 := by rw [hW, sU_at]
      intro h
      rw [r] at h
      omega
    have k_xG2 : xG2 W := by
      rw [hW]
      exact (uxG2 rfl (uxG2 rfl (uxG2 rfl (uxG2 rfl (uxG2 (sinc_ok rfl _) hI.2.2.2.2.2.2.2.2.2.2.2.2.2.2.2.2.1)))))
    have k_xG3 : xG3 W := by
      rw [hW]
      exact (uxG3 rfl (uxG3 rfl (uxG3 rfl (uxG3 rfl (uxG3 (sinc_ok rfl _) hI.2.2.2.2.2.2.2.2.2.2.2.2.2.2.2.2.2.1)))))
    have k_xG4 : xG4 W := by
      rw [hW]
      exact (uxG4 rfl (uxG4 rfl (uxG4 rfl (uxG4 rfl (uxG4 (sinc_ok rfl _) hI.2.2.2.2.2.2.2.2.2.2.2.2.2.2.2.2.2.2.1)))))
    have k_xG5 : xG5 W := by
      rw [hW]
      exact (uxG5 rfl (uxG5 rfl (uxG5 rfl (uxG5 rfl (uxG5 (sinc_ok rfl _) hI.2.2.2.2.2.2.2.2.2.2.2.2.2.2.2.2.2.2.2.1)))))
    have k_xG6 : xG6 W := by
      rw [hW]
      exact (uxG6 rfl (uxG6 rfl (uxG6 rfl (uxG6 rfl (uxG6 (sinc_ok rfl _) hI.2.2.2.2.2.2.2.2.2.2.2.2.2.2.2.2.2.2.2.2.1)))))
    have k_XC : XC W := by
      rw [hW]
      exact (uXC rfl (uXC rfl (uXC rfl (uXC rfl (uXC (sinc_ok rfl _) hI.2.2.2.2.2.2.2.2.2.2.2.2.2.2.2.2.2.2.2.2.2)))))
    have kXB : XB W := ⟨k_xN1, k_xN2, k_xN3, k_xN4, k_xN5, k_xN6, k_xH1, k_xK1, k_xC1, k_xRW, k_xWT, k_xCU, k_xG2, k_xG3, k_xG4, k_xG5, k_xG6, k_XC⟩
    exact ⟨base, k2, k3, kXA, kXB⟩
-- rowNext
def xr_130 : qRu := (3, [[(-10, 0), (1, 2)], [(10, 0), (-1, 2)]], [(91, 890, [(1, 1)]), (91, 893, [(1, 2)])], [], [(91, 890, [(1, 1), (-1, 0)]), (91, 893, [])], [])
theorem xo_130 : qRok xr_130 := by
  intro ρ M h0 hf hm hI
  have f0 := hf [(-10, 0), (1, 2)] (by decide)
  have f1 := hf [(10, 0), (-1, 2)] (by decide)
  simp only [qD, h0] at f0 f1
  have m0 : M 91 890 = 1 * ρ 1 + 0 := hm (91, 890, [(1, 1)]) (by decide)
  have m1 : M 91 893 = 1 * ρ 2 + 0 := hm (91, 893, [(1, 2)]) (by decide)
  have qxRW := hI.2.2.2.2.2.2.2.2.2.2.2.2.2.1
  refine ⟨ρ, fun _ _ => rfl, fun f h => ?_, ?_⟩
  · exact nomatch h
  · show sI (sU (sU M 91 890 (1 * ρ 1 + (-1 * ρ 0 + 0))) 91 893 (0))
    obtain ⟨W, hW⟩ : ∃ W, W = (sU (sU M 91 890 (1 * ρ 1 + (-1 * ρ 0 + 0))) 91 893 (0)) := ⟨_, rfl⟩
    rw [← hW]
    have base : sI0 W := by
      rw [hW]
      exact (si_u0 (si_u0 hI.1 (fun r hr => by cases hr)) (fun r hr => by cases hr))
    have k2 : XI2 W := by
      rw [hW]
      exact (xi2_u rfl (xi2_u rfl hI.2.1))
    have k3 : XI3 W := by
      rw [hW]
      exact (xi3_u rfl (xi3_u rfl hI.2.2.1))
    have kXA : XA W := by
      rw [hW]
      exact (uXA rfl (uXA rfl hI.2.2.2.1))
    have k_xN1 : xN1 W := by
      rw [hW]
      exact (uxN1 rfl (uxN1 rfl hI.2.2.2.2.1))
    have k_xN2 : xN2 W := by
      rw [hW]
      exact (uxN2 rfl (uxN2 rfl hI.2.2.2.2.2.1))
    have k_xN3 : xN3 W := by
      rw [hW]
      exact (uxN3 rfl (uxN3 rfl hI.2.2.2.2.2.2.1))
    have k_xN4 : xN4 W := by
      rw [hW]
      exact (uxN4 rfl (uxN4 rfl hI.2.2.2.2.2.2.2.1))
    have k_xN5 : xN5 W := by
      rw [hW]
      exact (uxN5 rfl (uxN5 rfl hI.2.2.2.2.2.2.2.2.1))
    have k_xN6 : xN6 W := by
      rw [hW]
      exact (uxN6 rfl (uxN6 rfl hI.2.2.2.2.2.2.2.2.2.1))
    have k_xH1 : xH1 W := by
      rw [hW]
      exact (uxH1 rfl (uxH1 rfl hI.2.2.2.2.2.2.2.2.2.2.1))
    have k_xK1 : xK1 W := by
      rw [hW]
      exact (uxK1 rfl (uxK1 rfl hI.2.2.2.2.2.2.2.2.2.2.2.1))
    have k_xC1 : xC1 W := by
      rw [hW]
      exact (uxC1 rfl (uxC1 rfl hI.2.2.2.2.2.2.2.2.2.2.2.2.1))
    have k_xRW : xRW W := by
      have r91_889 : W 91 889 = M 91 889 := by rw [hW, sU_ne (fun z => by omega), sU_ne (fun z => by omega)]
      have r91_890 : W 91 890 = 1 * ρ 1 + (-1 * ρ 0 + 0) := by rw [hW, sU_ne (fun z => by omega), sU_at]
      have r91_892 : W 91 892 = M 91 892 := by rw [hW, sU_ne (fun z => by omega), sU_ne (fun z => by omega)]
      have r91_893 : W 91 893 = 0 := by rw [hW, sU_at]
      have r93_0 : W 93 0 = M 93 0 := by rw [hW, sU_ne (fun z => by omega), sU_ne (fun z => by omega)]
      have r93_1 : W 93 1 = M 93 1 := by rw [hW, sU_ne (fun z => by omega), sU_ne (fun z => by omega)]
      have r93_2 : W 93 2 = M 93 2 := by rw [hW, sU_ne (fun z => by omega), sU_ne (fun z => by omega)]
      have r93_4 : W 93 4 = M 93 4 := by rw [hW, sU_ne (fun z => by omega), sU_ne (fun z => by omega)]
      have r93_6 : W 93 6 = M 93 6 := by rw [hW, sU_ne (fun z => by omega), sU_ne (fun z => by omega)]
      have r115_0 : W 115 0 = M 115 0 := by rw [hW, sU_ne (fun z => by omega), sU_ne (fun z => by omega)]
      have r116_0 : W 116 0 = M 116 0 := by rw [hW, sU_ne (fun z => by omega), sU_ne (fun z => by omega)]
      have c101 : ∀ k, W 101 k = M 101 k := fun k => by rw [hW, sU_ne (fun z => by omega), sU_ne (fun z => by omega)]
      have c122 : ∀ k, W 122 k = M 122 k := fun k => by rw [hW, sU_ne (fun z => by omega), sU_ne (fun z => by omega)]
      have c123 : ∀ k, W 123 k = M 123 k := fun k => by rw [hW, sU_ne (fun z => by omega), sU_ne (fun z => by omega)]
      have c119 : ∀ k, W 119 k = M 119 k := fun k => by rw [hW, sU_ne (fun z => by omega), sU_ne (fun z => by omega)]
      have c124 : ∀ k, W 124 k = M 124 k := fun k => by rw [hW, sU_ne (fun z => by omega), sU_ne (fun z => by omega)]
      intro h b had h1 h2 h3 h4
      rw [r91_889] at h
      rw [r91_890, r91_893, h0] at h3
      rw [r93_0] at h2
      rw [c124] at h4 ⊢
      rw [r91_892]
      obtain ⟨st, e1, e2⟩ := qxRW h b had h1 h2 (by omega) h4
      refine ⟨st, e1, ?_⟩
      rw [xcb_c _ _ _ _ (xco_c r93_1 r93_2 r93_4 r93_6 c101 c122 r115_0 r116_0 c123 _ _ _) (c119 _) r93_0 (c124 _)]
      exact e2
    have k_xWT : xWT W := by
      rw [hW]
      exact (uxWT rfl (uxWT rfl hI.2.2.2.2.2.2.2.2.2.2.2.2.2.2.1))
    have k_xCU : xCU W := by
      rw [hW]
      exact (uxCU rfl (uxCU rfl hI.2.2.2.2.2.2.2.2.2.2.2.2.2.2.2.1))
    have k_xG2 : xG2 W := by
      rw [hW]
      exact (uxG2 rfl (uxG2 rfl hI.2.2.2.2.2.2.2.2.2.2.2.2.2.2.2.2.1))
    have k_xG3 : xG3 W := by
      rw [hW]
      exact (uxG3 rfl (uxG3 rfl hI.2.2.2.2.2.2.2.2.2.2.2.2.2.2.2.2.2.1))
    have k_xG4 : xG4 W := by
      rw [hW]
      exact (uxG4 rfl (uxG4 rfl hI.2.2.2.2.2.2.2.2.2.2.2.2.2.2.2.2.2.2.1))
    have k_xG5 : xG5 W := by
      rw [hW]
      exact (uxG5 rfl (uxG5 rfl hI.2.2.2.2.2.2.2.2.2.2.2.2.2.2.2.2.2.2.2.1))
    have k_xG6 : xG6 W := by
      rw [hW]
      exact (uxG6 rfl (uxG6 rfl hI.2.2.2.2.2.2.2.2.2.2.2.2.2.2.2.2.2.2.2.2.1))
    have k_XC : XC W := by
      rw [hW]
      exact (uXC rfl (uXC rfl hI.2.2.2.2.2.2.2.2.2.2.2.2.2.2.2.2.2.2.2.2.2))
    have kXB : XB W := ⟨k_xN1, k_xN2, k_xN3, k_xN4, k_xN5, k_xN6, k_xH1, k_xK1, k_xC1, k_xRW, k_xWT, k_xCU, k_xG2, k_xG3, k_xG4, k_xG5, k_xG6, k_XC⟩
    exact ⟨base, k2, k3, kXA, kXB⟩
-- curSet
def xr_131 : qRu := (3, [[(10, 1), (1, 2)], [(89, 0), (-10, 1), (-1, 2)]], [], [], [(91, 884, [(1, 0)]), (91, 881, [(1, 1)]), (91, 882, [(1, 2)]), (91, 883, [(1, 3)])], [[(1, 3)], [(1000, 0), (-1, 3)]])
theorem xo_131 : qRok xr_131 := by
  intro ρ M h0 hf hm hI
  have f0 := hf [(10, 1), (1, 2)] (by decide)
  have f1 := hf [(89, 0), (-10, 1), (-1, 2)] (by decide)
  simp only [qD, h0] at f0 f1
  have qxCU := hI.2.2.2.2.2.2.2.2.2.2.2.2.2.2.2.1
  have hv : (0 : Int) ≤ M 124 (10 * (1 * ρ 1 + 0) + (1 * ρ 2 + 0)).toNat ∧ M 124 (10 * (1 * ρ 1 + 0) + (1 * ρ 2 + 0)).toNat ≤ 1000 := hI.1 124 _ (0, 1000) (xs_124 (by omega))
  refine ⟨fun a => cond (Nat.blt a 3) (ρ a) (([M 124 (10 * (1 * ρ 1 + 0) + (1 * ρ 2 + 0)).toNat] : List Int).getD (a - 3) 0), fun a ha => ?_, fun f h => ?_, ?_⟩
  · show cond (Nat.blt a 3) (ρ a) _ = ρ a
    rw [show Nat.blt a 3 = true from Nat.ble_eq_true_of_le ha]; rfl
  · have h : f ∈ ([[(1, 3)], [(1000, 0), (-1, 3)]] : List qF) := h
    simp only [List.mem_cons, List.not_mem_nil, or_false] at h
    rcases h with rfl | rfl
    · show 0 ≤ 1 * (M 124 (10 * (1 * ρ 1 + 0) + (1 * ρ 2 + 0)).toNat) + 0
      (try rw [h0]); omega
    · show 0 ≤ 1000 * ρ 0 + (-1 * (M 124 (10 * (1 * ρ 1 + 0) + (1 * ρ 2 + 0)).toNat) + 0)
      (try rw [h0]); omega
  · show sI (sU (sU (sU (sU M 91 884 (1 * ρ 0 + 0)) 91 881 (1 * ρ 1 + 0)) 91 882 (1 * ρ 2 + 0)) 91 883 (1 * (M 124 (10 * (1 * ρ 1 + 0) + (1 * ρ 2 + 0)).toNat) + 0))
    obtain ⟨W, hW⟩ : ∃ W, W = (sU (sU (sU (sU M 91 884 (1 * ρ 0 + 0)) 91 881 (1 * ρ 1 + 0)) 91 882 (1 * ρ 2 + 0)) 91 883 (1 * (M 124 (10 * (1 * ρ 1 + 0) + (1 * ρ 2 + 0)).toNat) + 0)) := ⟨_, rfl⟩
    rw [← hW]
    have base : sI0 W := by
      rw [hW]
      exact (si_u0 (si_u0 (si_u0 (si_u0 hI.1 (fun r hr => by cases hr)) (fun r hr => by cases hr)) (fun r hr => by cases hr)) (fun r hr => by cases hr))
    have k2 : XI2 W := by
      rw [hW]
      exact (xi2_u rfl (xi2_u rfl (xi2_u rfl (xi2_u rfl hI.2.1))))
    have k3 : XI3 W := by
      rw [hW]
      exact (xi3_u rfl (xi3_u rfl (xi3_u rfl (xi3_u rfl hI.2.2.1))))
    have kXA : XA W := by
      rw [hW]
      exact (uXA rfl (uXA rfl (uXA rfl (uXA rfl hI.2.2.2.1))))
    have k_xN1 : xN1 W := by
      rw [hW]
      exact (uxN1 rfl (uxN1 rfl (uxN1 rfl (uxN1 rfl hI.2.2.2.2.1))))
    have k_xN2 : xN2 W := by
      rw [hW]
      exact (uxN2 rfl (uxN2 rfl (uxN2 rfl (uxN2 rfl hI.2.2.2.2.2.1))))
    have k_xN3 : xN3 W := by
      rw [hW]
      exact (uxN3 rfl (uxN3 rfl (uxN3 rfl (uxN3 rfl hI.2.2.2.2.2.2.1))))
    have k_xN4 : xN4 W := by
      rw [hW]
      exact (uxN4 rfl (uxN4 rfl (uxN4 rfl (uxN4 rfl hI.2.2.2.2.2.2.2.1))))
    have k_xN5 : xN5 W := by
      rw [hW]
      exact (uxN5 rfl (uxN5 rfl (uxN5 rfl (uxN5 rfl hI.2.2.2.2.2.2.2.2.1))))
    have k_xN6 : xN6 W := by
      rw [hW]
      exact (uxN6 rfl (uxN6 rfl (uxN6 rfl (uxN6 rfl hI.2.2.2.2.2.2.2.2.2.1))))
    have k_xH1 : xH1 W := by
      rw [hW]
      exact (uxH1 rfl (uxH1 rfl (uxH1 rfl (uxH1 rfl hI.2.2.2.2.2.2.2.2.2.2.1))))
    have k_xK1 : xK1 W := by
      rw [hW]
      exact (uxK1 rfl (uxK1 rfl (uxK1 rfl (uxK1 rfl hI.2.2.2.2.2.2.2.2.2.2.2.1))))
    have k_xC1 : xC1 W := by
      rw [hW]
      exact (uxC1 rfl (uxC1 rfl (uxC1 rfl (uxC1 rfl hI.2.2.2.2.2.2.2.2.2.2.2.2.1))))
    have k_xRW : xRW W := by
      rw [hW]
      exact (uxRW rfl (uxRW rfl (uxRW rfl (uxRW rfl hI.2.2.2.2.2.2.2.2.2.2.2.2.2.1))))
    have k_xWT : xWT W := by
      rw [hW]
      exact (uxWT rfl (uxWT rfl (uxWT rfl (uxWT rfl hI.2.2.2.2.2.2.2.2.2.2.2.2.2.2.1))))
    have k_xCU : xCU W := by
      have r91_884 : W 91 884 = 1 * ρ 0 + 0 := by rw [hW, sU_ne (fun z => by omega), sU_ne (fun z => by omega), sU_ne (fun z => by omega), sU_at]
      have r91_881 : W 91 881 = 1 * ρ 1 + 0 := by rw [hW, sU_ne (fun z => by omega), sU_ne (fun z => by omega), sU_at]
      have r91_882 : W 91 882 = 1 * ρ 2 + 0 := by rw [hW, sU_ne (fun z => by omega), sU_at]
      have r91_883 : W 91 883 = 1 * (M 124 (10 * (1 * ρ 1 + 0) + (1 * ρ 2 + 0)).toNat) + 0 := by rw [hW, sU_at]
      have c124 : ∀ k, W 124 k = M 124 k := fun k => by rw [hW, sU_ne (fun z => by omega), sU_ne (fun z => by omega), sU_ne (fun z => by omega), sU_ne (fun z => by omega)]
      intro h
      rw [r91_881, r91_882, r91_883, c124, x10]
    have k_xG2 : xG2 W := by
      rw [hW]
      exact (uxG2 rfl (uxG2 rfl (uxG2 rfl (uxG2 rfl hI.2.2.2.2.2.2.2.2.2.2.2.2.2.2.2.2.1))))
    have k_xG3 : xG3 W := by
      rw [hW]
      exact (uxG3 rfl (uxG3 rfl (uxG3 rfl (uxG3 rfl hI.2.2.2.2.2.2.2.2.2.2.2.2.2.2.2.2.2.1))))
    have k_xG4 : xG4 W := by
      rw [hW]
      exact (uxG4 rfl (uxG4 rfl (uxG4 rfl (uxG4 rfl hI.2.2.2.2.2.2.2.2.2.2.2.2.2.2.2.2.2.2.1))))
    have k_xG5 : xG5 W := by
      rw [hW]
      exact (uxG5 rfl (uxG5 rfl (uxG5 rfl (uxG5 rfl hI.2.2.2.2.2.2.2.2.2.2.2.2.2.2.2.2.2.2.2.1))))
    have k_xG6 : xG6 W := by
      rw [hW]
      exact (uxG6 rfl (uxG6 rfl (uxG6 rfl (uxG6 rfl hI.2.2.2.2.2.2.2.2.2.2.2.2.2.2.2.2.2.2.2.2.1))))
    have k_XC : XC W := by
      rw [hW]
      exact (uXC rfl (uXC rfl (uXC rfl (uXC rfl hI.2.2.2.2.2.2.2.2.2.2.2.2.2.2.2.2.2.2.2.2.2))))
    have kXB : XB W := ⟨k_xN1, k_xN2, k_xN3, k_xN4, k_xN5, k_xN6, k_xH1, k_xK1, k_xC1, k_xRW, k_xWT, k_xCU, k_xG2, k_xG3, k_xG4, k_xG5, k_xG6, k_XC⟩
    exact ⟨base, k2, k3, kXA, kXB⟩
-- curEq
def xr_132 : qRu := (6, [[(-10, 1), (-1, 2), (1, 4)], [(10, 1), (1, 2), (-1, 4)]], [(91, 884, [(1, 0)]), (91, 881, [(1, 1)]), (91, 882, [(1, 2)]), (91, 883, [(1, 3)]), (124, 1004, [(1, 5)])], [], [], [[(1, 3), (-1, 5)], [(-1, 3), (1, 5)]])
theorem xo_132 : qRok xr_132 := by
  intro ρ M h0 hf hm hI
  have f0 := hf [(-10, 1), (-1, 2), (1, 4)] (by decide)
  have f1 := hf [(10, 1), (1, 2), (-1, 4)] (by decide)
  simp only [qD, h0] at f0 f1
  have m0 : M 91 884 = 1 * ρ 0 + 0 := hm (91, 884, [(1, 0)]) (by decide)
  have m1 : M 91 881 = 1 * ρ 1 + 0 := hm (91, 881, [(1, 1)]) (by decide)
  have m2 : M 91 882 = 1 * ρ 2 + 0 := hm (91, 882, [(1, 2)]) (by decide)
  have m3 : M 91 883 = 1 * ρ 3 + 0 := hm (91, 883, [(1, 3)]) (by decide)
  have m4 : M 124 (zIx ρ (1000 + 4)) = 1 * ρ 5 + 0 := hm (124, 1004, [(1, 5)]) (by decide)
  rw [zix_p] at m4
  simp only [h0] at m0
  have qxCU := hI.2.2.2.2.2.2.2.2.2.2.2.2.2.2.2.1
  have ec := qxCU (by omega)
  rw [show (10 * M 91 881 + M 91 882).toNat = (ρ 4).toNat by omega] at ec
  refine ⟨ρ, fun _ _ => rfl, fun f h => ?_, ?_⟩
  · have h : f ∈ ([[(1, 3), (-1, 5)], [(-1, 3), (1, 5)]] : List qF) := h
    simp only [List.mem_cons, List.not_mem_nil, or_false] at h
    rcases h with rfl | rfl
    · show 0 ≤ 1 * ρ 3 + (-1 * ρ 5 + 0)
      (try rw [h0]); omega
    · show 0 ≤ -1 * ρ 3 + (1 * ρ 5 + 0)
      (try rw [h0]); omega
  · show sI M
    exact hI
-- pick
def xr_133 : qRu := (7, [[(1, 1)], [(1, 2)], [(9, 0), (-1, 2)], [(999, 0), (-1, 3)], [(-2, 0), (-1, 1), (1, 4)], [(1, 1), (-1, 5)]], [(91, 884, [(1, 0)]), (91, 881, [(1, 1)]), (91, 882, [(1, 2)]), (91, 883, [(1, 3)]), (93, 0, [(1, 4)]), (91, 889, [(1, 0)]), (91, 890, [(1, 5)]), (91, 892, [(1, 6)])], [], [(91, 888, [(1, 0)]), (91, 886, [(1, 1)]), (91, 887, [(1, 2)]), (91, 894, [(1, 7)]), (91, 895, [(1, 3)])], [[(1, 7)], [(9, 0), (-1, 7)]])
theorem xo_133 : qRok xr_133 := by
  intro ρ M h0 hf hm hI
  have f0 := hf [(1, 1)] (by decide)
  have f1 := hf [(1, 2)] (by decide)
  have f2 := hf [(9, 0), (-1, 2)] (by decide)
  have f3 := hf [(999, 0), (-1, 3)] (by decide)
  have f4 := hf [(-2, 0), (-1, 1), (1, 4)] (by decide)
  have f5 := hf [(1, 1), (-1, 5)] (by decide)
  simp only [qD, h0] at f0 f1 f2 f3 f4 f5
  have m0 : M 91 884 = 1 * ρ 0 + 0 := hm (91, 884, [(1, 0)]) (by decide)
  have m1 : M 91 881 = 1 * ρ 1 + 0 := hm (91, 881, [(1, 1)]) (by decide)
  have m2 : M 91 882 = 1 * ρ 2 + 0 := hm (91, 882, [(1, 2)]) (by decide)
  have m3 : M 91 883 = 1 * ρ 3 + 0 := hm (91, 883, [(1, 3)]) (by decide)
  have m4 : M 93 0 = 1 * ρ 4 + 0 := hm (93, 0, [(1, 4)]) (by decide)
  have m5 : M 91 889 = 1 * ρ 0 + 0 := hm (91, 889, [(1, 0)]) (by decide)
  have m6 : M 91 890 = 1 * ρ 5 + 0 := hm (91, 890, [(1, 5)]) (by decide)
  have m7 : M 91 892 = 1 * ρ 6 + 0 := hm (91, 892, [(1, 6)]) (by decide)
  simp only [h0] at m0 m5
  have qxRW := hI.2.2.2.2.2.2.2.2.2.2.2.2.2.1
  have qxWT := hI.2.2.2.2.2.2.2.2.2.2.2.2.2.2.1
  have qxCU := hI.2.2.2.2.2.2.2.2.2.2.2.2.2.2.2.1
  have ec := qxCU (by omega)
  rw [show (10 * M 91 881 + M 91 882).toNat = 10 * (ρ 1).toNat + (ρ 2).toNat by omega] at ec
  obtain ⟨w, hw1, hw2⟩ := qxRW (by omega) (ρ 1).toNat (ρ 2).toNat (by omega) (by omega) (Or.inl (by omega)) (by omega)
  refine ⟨fun a => cond (Nat.blt a 7) (ρ a) (([(w : Int)] : List Int).getD (a - 7) 0), fun a ha => ?_, fun f h => ?_, ?_⟩
  · show cond (Nat.blt a 7) (ρ a) _ = ρ a
    rw [show Nat.blt a 7 = true from Nat.ble_eq_true_of_le ha]; rfl
  · have h : f ∈ ([[(1, 7)], [(9, 0), (-1, 7)]] : List qF) := h
    simp only [List.mem_cons, List.not_mem_nil, or_false] at h
    rcases h with rfl | rfl
    · show 0 ≤ 1 * ((w : Int)) + 0
      (try rw [h0]); omega
    · show 0 ≤ 9 * ρ 0 + (-1 * ((w : Int)) + 0)
      (try rw [h0]); omega
  · show sI (sU (sU (sU (sU (sU M 91 888 (1 * ρ 0 + 0)) 91 886 (1 * ρ 1 + 0)) 91 887 (1 * ρ 2 + 0)) 91 894 (1 * ((w : Int)) + 0)) 91 895 (1 * ρ 3 + 0))
    obtain ⟨W, hW⟩ : ∃ W, W = (sU (sU (sU (sU (sU M 91 888 (1 * ρ 0 + 0)) 91 886 (1 * ρ 1 + 0)) 91 887 (1 * ρ 2 + 0)) 91 894 (1 * ((w : Int)) + 0)) 91 895 (1 * ρ 3 + 0)) := ⟨_, rfl⟩
    rw [← hW]
    have base : sI0 W := by
      rw [hW]
      exact (si_u0 (si_u0 (si_u0 (si_u0 (si_u0 hI.1 (fun r hr => by cases hr)) (fun r hr => by cases hr)) (fun r hr => by cases hr)) (fun r hr => by cases hr)) (fun r hr => by cases hr))
    have k2 : XI2 W := by
      rw [hW]
      exact (xi2_u rfl (xi2_u rfl (xi2_u rfl (xi2_u rfl (xi2_u rfl hI.2.1)))))
    have k3 : XI3 W := by
      rw [hW]
      exact (xi3_u rfl (xi3_u rfl (xi3_u rfl (xi3_u rfl (xi3_u rfl hI.2.2.1)))))
    have kXA : XA W := by
      rw [hW]
      exact (uXA rfl (uXA rfl (uXA rfl (uXA rfl (uXA rfl hI.2.2.2.1)))))
    have k_xN1 : xN1 W := by
      rw [hW]
      exact (uxN1 rfl (uxN1 rfl (uxN1 rfl (uxN1 rfl (uxN1 rfl hI.2.2.2.2.1)))))
    have k_xN2 : xN2 W := by
      rw [hW]
      exact (uxN2 rfl (uxN2 rfl (uxN2 rfl (uxN2 rfl (uxN2 rfl hI.2.2.2.2.2.1)))))
    have k_xN3 : xN3 W := by
      rw [hW]
      exact (uxN3 rfl (uxN3 rfl (uxN3 rfl (uxN3 rfl (uxN3 rfl hI.2.2.2.2.2.2.1)))))
    have k_xN4 : xN4 W := by
      rw [hW]
      exact (uxN4 rfl (uxN4 rfl (uxN4 rfl (uxN4 rfl (uxN4 rfl hI.2.2.2.2.2.2.2.1)))))
    have k_xN5 : xN5 W := by
      rw [hW]
      exact (uxN5 rfl (uxN5 rfl (uxN5 rfl (uxN5 rfl (uxN5 rfl hI.2.2.2.2.2.2.2.2.1)))))
    have k_xN6 : xN6 W := by
      rw [hW]
      exact (uxN6 rfl (uxN6 rfl (uxN6 rfl (uxN6 rfl (uxN6 rfl hI.2.2.2.2.2.2.2.2.2.1)))))
    have k_xH1 : xH1 W := by
      rw [hW]
      exact (uxH1 rfl (uxH1 rfl (uxH1 rfl (uxH1 rfl (uxH1 rfl hI.2.2.2.2.2.2.2.2.2.2.1)))))
    have k_xK1 : xK1 W := by
      rw [hW]
      exact (uxK1 rfl (uxK1 rfl (uxK1 rfl (uxK1 rfl (uxK1 rfl hI.2.2.2.2.2.2.2.2.2.2.2.1)))))
    have k_xC1 : xC1 W := by
      rw [hW]
      exact (uxC1 rfl (uxC1 rfl (uxC1 rfl (uxC1 rfl (uxC1 rfl hI.2.2.2.2.2.2.2.2.2.2.2.2.1)))))
    have k_xRW : xRW W := by
      rw [hW]
      exact (uxRW rfl (uxRW rfl (uxRW rfl (uxRW rfl (uxRW rfl hI.2.2.2.2.2.2.2.2.2.2.2.2.2.1)))))
    have k_xWT : xWT W := by
      have r91_888 : W 91 888 = 1 * ρ 0 + 0 := by rw [hW, sU_ne (fun z => by omega), sU_ne (fun z => by omega), sU_ne (fun z => by omega), sU_ne (fun z => by omega), sU_at]
      have r91_886 : W 91 886 = 1 * ρ 1 + 0 := by rw [hW, sU_ne (fun z => by omega), sU_ne (fun z => by omega), sU_ne (fun z => by omega), sU_at]
      have r91_887 : W 91 887 = 1 * ρ 2 + 0 := by rw [hW, sU_ne (fun z => by omega), sU_ne (fun z => by omega), sU_at]
      have r91_892 : W 91 892 = M 91 892 := by rw [hW, sU_ne (fun z => by omega), sU_ne (fun z => by omega), sU_ne (fun z => by omega), sU_ne (fun z => by omega), sU_ne (fun z => by omega)]
      have r91_894 : W 91 894 = 1 * ((w : Int)) + 0 := by rw [hW, sU_ne (fun z => by omega), sU_at]
      have r91_895 : W 91 895 = 1 * ρ 3 + 0 := by rw [hW, sU_at]
      have r93_0 : W 93 0 = M 93 0 := by rw [hW, sU_ne (fun z => by omega), sU_ne (fun z => by omega), sU_ne (fun z => by omega), sU_ne (fun z => by omega), sU_ne (fun z => by omega)]
      have r93_1 : W 93 1 = M 93 1 := by rw [hW, sU_ne (fun z => by omega), sU_ne (fun z => by omega), sU_ne (fun z => by omega), sU_ne (fun z => by omega), sU_ne (fun z => by omega)]
      have r93_2 : W 93 2 = M 93 2 := by rw [hW, sU_ne (fun z => by omega), sU_ne (fun z => by omega), sU_ne (fun z => by omega), sU_ne (fun z => by omega), sU_ne (fun z => by omega)]
      have r93_4 : W 93 4 = M 93 4 := by rw [hW, sU_ne (fun z => by omega), sU_ne (fun z => by omega), sU_ne (fun z => by omega), sU_ne (fun z => by omega), sU_ne (fun z => by omega)]
      have r93_6 : W 93 6 = M 93 6 := by rw [hW, sU_ne (fun z => by omega), sU_ne (fun z => by omega), sU_ne (fun z => by omega), sU_ne (fun z => by omega), sU_ne (fun z => by omega)]
      have r115_0 : W 115 0 = M 115 0 := by rw [hW, sU_ne (fun z => by omega), sU_ne (fun z => by omega), sU_ne (fun z => by omega), sU_ne (fun z => by omega), sU_ne (fun z => by omega)]
      have r116_0 : W 116 0 = M 116 0 := by rw [hW, sU_ne (fun z => by omega), sU_ne (fun z => by omega), sU_ne (fun z => by omega), sU_ne (fun z => by omega), sU_ne (fun z => by omega)]
      have c101 : ∀ k, W 101 k = M 101 k := fun k => by rw [hW, sU_ne (fun z => by omega), sU_ne (fun z => by omega), sU_ne (fun z => by omega), sU_ne (fun z => by omega), sU_ne (fun z => by omega)]
      have c122 : ∀ k, W 122 k = M 122 k := fun k => by rw [hW, sU_ne (fun z => by omega), sU_ne (fun z => by omega), sU_ne (fun z => by omega), sU_ne (fun z => by omega), sU_ne (fun z => by omega)]
      have c123 : ∀ k, W 123 k = M 123 k := fun k => by rw [hW, sU_ne (fun z => by omega), sU_ne (fun z => by omega), sU_ne (fun z => by omega), sU_ne (fun z => by omega), sU_ne (fun z => by omega)]
      have c119 : ∀ k, W 119 k = M 119 k := fun k => by rw [hW, sU_ne (fun z => by omega), sU_ne (fun z => by omega), sU_ne (fun z => by omega), sU_ne (fun z => by omega), sU_ne (fun z => by omega)]
      have c124 : ∀ k, W 124 k = M 124 k := fun k => by rw [hW, sU_ne (fun z => by omega), sU_ne (fun z => by omega), sU_ne (fun z => by omega), sU_ne (fun z => by omega), sU_ne (fun z => by omega)]
      intro h h1
      rw [r91_886, r91_887, r91_892, r91_894, r91_895, x10, xcb_c _ _ _ _ (xco_c r93_1 r93_2 r93_4 r93_6 c101 c122 r115_0 r116_0 c123 _ _ _) (c119 _) r93_0 (c124 _)]
      refine ⟨by omega, by omega, ?_⟩
      rw [show 1 * ρ 1 + 0 = (((ρ 1).toNat : Nat) : Int) by omega, show 1 * ρ 2 + 0 = (((ρ 2).toNat : Nat) : Int) by omega, hw2]
      omega
    have k_xCU : xCU W := by
      rw [hW]
      exact (uxCU rfl (uxCU rfl (uxCU rfl (uxCU rfl (uxCU rfl hI.2.2.2.2.2.2.2.2.2.2.2.2.2.2.2.1)))))
    have k_xG2 : xG2 W := by
      rw [hW]
      exact (uxG2 rfl (uxG2 rfl (uxG2 rfl (uxG2 rfl (uxG2 rfl hI.2.2.2.2.2.2.2.2.2.2.2.2.2.2.2.2.1)))))
    have k_xG3 : xG3 W := by
      rw [hW]
      exact (uxG3 rfl (uxG3 rfl (uxG3 rfl (uxG3 rfl (uxG3 rfl hI.2.2.2.2.2.2.2.2.2.2.2.2.2.2.2.2.2.1)))))
    have k_xG4 : xG4 W := by
      rw [hW]
      exact (uxG4 rfl (uxG4 rfl (uxG4 rfl (uxG4 rfl (uxG4 rfl hI.2.2.2.2.2.2.2.2.2.2.2.2.2.2.2.2.2.2.1)))))
    have k_xG5 : xG5 W := by
      rw [hW]
      exact (uxG5 rfl (uxG5 rfl (uxG5 rfl (uxG5 rfl (uxG5 rfl hI.2.2.2.2.2.2.2.2.2.2.2.2.2.2.2.2.2.2.2.1)))))
    have k_xG6 : xG6 W := by
      rw [hW]
      exact (uxG6 rfl (uxG6 rfl (uxG6 rfl (uxG6 rfl (uxG6 rfl hI.2.2.2.2.2.2.2.2.2.2.2.2.2.2.2.2.2.2.2.2.1)))))
    have k_XC : XC W := by
      rw [hW]
      exact (uXC rfl (uXC rfl (uXC rfl (uXC rfl (uXC rfl hI.2.2.2.2.2.2.2.2.2.2.2.2.2.2.2.2.2.2.2.2.2)))))
    have kXB : XB W := ⟨k_xN1, k_xN2, k_xN3, k_xN4, k_xN5, k_xN6, k_xH1, k_xK1, k_xC1, k_xRW, k_xWT, k_xCU, k_xG2, k_xG3, k_xG4, k_xG5, k_xG6, k_XC⟩
    exact ⟨base, k2, k3, kXA, kXB⟩
-- notWu
def xr_134 : qRu := (12, [[(1, 1), (-1, 6)], [(-1, 1), (1, 6)], [(1, 2), (-1, 7)], [(-1, 2), (1, 7)], [(1, 4), (-1, 8)], [(-1, 4), (1, 8)], [(-1, 0), (1, 5), (-1, 11)], [(999, 0), (-1, 11)], [(-1, 3), (1, 10)]], [(91, 900, [(1, 0)]), (91, 901, [(1, 1)]), (91, 902, [(1, 2)]), (91, 903, [(1, 3)]), (91, 904, [(1, 4)]), (91, 905, [(1, 5)]), (91, 888, [(1, 0)]), (91, 886, [(1, 6)]), (91, 887, [(1, 7)]), (91, 892, [(1, 8)]), (91, 894, [(1, 10)]), (91, 895, [(1, 11)])], [], [], [[(-1, 0), (-1, 3), (1, 10)]])
theorem xo_134 : qRok xr_134 := by
  intro ρ M h0 hf hm hI
  have f0 := hf [(1, 1), (-1, 6)] (by decide)
  have f1 := hf [(-1, 1), (1, 6)] (by decide)
  have f2 := hf [(1, 2), (-1, 7)] (by decide)
  have f3 := hf [(-1, 2), (1, 7)] (by decide)
  have f4 := hf [(1, 4), (-1, 8)] (by decide)
  have f5 := hf [(-1, 4), (1, 8)] (by decide)
  have f6 := hf [(-1, 0), (1, 5), (-1, 11)] (by decide)
  have f7 := hf [(999, 0), (-1, 11)] (by decide)
  have f8 := hf [(-1, 3), (1, 10)] (by decide)
  simp only [qD, h0] at f0 f1 f2 f3 f4 f5 f6 f7 f8
  have m0 : M 91 900 = 1 * ρ 0 + 0 := hm (91, 900, [(1, 0)]) (by decide)
  have m1 : M 91 901 = 1 * ρ 1 + 0 := hm (91, 901, [(1, 1)]) (by decide)
  have m2 : M 91 902 = 1 * ρ 2 + 0 := hm (91, 902, [(1, 2)]) (by decide)
  have m3 : M 91 903 = 1 * ρ 3 + 0 := hm (91, 903, [(1, 3)]) (by decide)
  have m4 : M 91 904 = 1 * ρ 4 + 0 := hm (91, 904, [(1, 4)]) (by decide)
  have m5 : M 91 905 = 1 * ρ 5 + 0 := hm (91, 905, [(1, 5)]) (by decide)
  have m6 : M 91 888 = 1 * ρ 0 + 0 := hm (91, 888, [(1, 0)]) (by decide)
  have m7 : M 91 886 = 1 * ρ 6 + 0 := hm (91, 886, [(1, 6)]) (by decide)
  have m8 : M 91 887 = 1 * ρ 7 + 0 := hm (91, 887, [(1, 7)]) (by decide)
  have m9 : M 91 892 = 1 * ρ 8 + 0 := hm (91, 892, [(1, 8)]) (by decide)
  have m10 : M 91 894 = 1 * ρ 10 + 0 := hm (91, 894, [(1, 10)]) (by decide)
  have m11 : M 91 895 = 1 * ρ 11 + 0 := hm (91, 895, [(1, 11)]) (by decide)
  simp only [h0] at m0 m6
  have qxC1 := hI.2.2.2.2.2.2.2.2.2.2.2.2.1
  have qxWT := hI.2.2.2.2.2.2.2.2.2.2.2.2.2.2.1
  have ec := (qxC1 (by omega)).1
  have ew := (qxWT (by omega) (by omega)).2.2
  have hne : ρ 10 ≠ ρ 3 := by
    intro hc
    rw [show M 91 886 = M 91 901 by omega, show M 91 887 = M 91 902 by omega, show M 91 892 = M 91 904 by omega, show M 91 894 = M 91 903 by omega, ← ec] at ew
    omega
  refine ⟨ρ, fun _ _ => rfl, fun f h => ?_, ?_⟩
  · have h : f ∈ ([[(-1, 0), (-1, 3), (1, 10)]] : List qF) := h
    simp only [List.mem_cons, List.not_mem_nil, or_false] at h
    rcases h with rfl
    · show 0 ≤ -1 * ρ 0 + (-1 * ρ 3 + (1 * ρ 10 + 0))
      (try rw [h0]); omega
  · show sI M
    exact hI
-- notWd
def xr_135 : qRu := (12, [[(1, 1), (-1, 6)], [(-1, 1), (1, 6)], [(1, 2), (-1, 7)], [(-1, 2), (1, 7)], [(1, 4), (-1, 8)], [(-1, 4), (1, 8)], [(-1, 0), (-1, 5), (1, 11)], [(999, 0), (-1, 11)], [(-1, 3), (1, 10)]], [(91, 900, [(1, 0)]), (91, 901, [(1, 1)]), (91, 902, [(1, 2)]), (91, 903, [(1, 3)]), (91, 904, [(1, 4)]), (91, 905, [(1, 5)]), (91, 888, [(1, 0)]), (91, 886, [(1, 6)]), (91, 887, [(1, 7)]), (91, 892, [(1, 8)]), (91, 894, [(1, 10)]), (91, 895, [(1, 11)])], [], [], [[(-1, 0), (-1, 3), (1, 10)]])
theorem xo_135 : qRok xr_135 := by
  intro ρ M h0 hf hm hI
  have f0 := hf [(1, 1), (-1, 6)] (by decide)
  have f1 := hf [(-1, 1), (1, 6)] (by decide)
  have f2 := hf [(1, 2), (-1, 7)] (by decide)
  have f3 := hf [(-1, 2), (1, 7)] (by decide)
  have f4 := hf [(1, 4), (-1, 8)] (by decide)
  have f5 := hf [(-1, 4), (1, 8)] (by decide)
  have f6 := hf [(-1, 0), (-1, 5), (1, 11)] (by decide)
  have f7 := hf [(999, 0), (-1, 11)] (by decide)
  have f8 := hf [(-1, 3), (1, 10)] (by decide)
  simp only [qD, h0] at f0 f1 f2 f3 f4 f5 f6 f7 f8
  have m0 : M 91 900 = 1 * ρ 0 + 0 := hm (91, 900, [(1, 0)]) (by decide)
  have m1 : M 91 901 = 1 * ρ 1 + 0 := hm (91, 901, [(1, 1)]) (by decide)
  have m2 : M 91 902 = 1 * ρ 2 + 0 := hm (91, 902, [(1, 2)]) (by decide)
  have m3 : M 91 903 = 1 * ρ 3 + 0 := hm (91, 903, [(1, 3)]) (by decide)
  have m4 : M 91 904 = 1 * ρ 4 + 0 := hm (91, 904, [(1, 4)]) (by decide)
  have m5 : M 91 905 = 1 * ρ 5 + 0 := hm (91, 905, [(1, 5)]) (by decide)
  have m6 : M 91 888 = 1 * ρ 0 + 0 := hm (91, 888, [(1, 0)]) (by decide)
  have m7 : M 91 886 = 1 * ρ 6 + 0 := hm (91, 886, [(1, 6)]) (by decide)
  have m8 : M 91 887 = 1 * ρ 7 + 0 := hm (91, 887, [(1, 7)]) (by decide)
  have m9 : M 91 892 = 1 * ρ 8 + 0 := hm (91, 892, [(1, 8)]) (by decide)
  have m10 : M 91 894 = 1 * ρ 10 + 0 := hm (91, 894, [(1, 10)]) (by decide)
  have m11 : M 91 895 = 1 * ρ 11 + 0 := hm (91, 895, [(1, 11)]) (by decide)
  simp only [h0] at m0 m6
  have qxC1 := hI.2.2.2.2.2.2.2.2.2.2.2.2.1
  have qxWT := hI.2.2.2.2.2.2.2.2.2.2.2.2.2.2.1
  have ec := (qxC1 (by omega)).1
  have ew := (qxWT (by omega) (by omega)).2.2
  have hne : ρ 10 ≠ ρ 3 := by
    intro hc
    rw [show M 91 886 = M 91 901 by omega, show M 91 887 = M 91 902 by omega, show M 91 892 = M 91 904 by omega, show M 91 894 = M 91 903 by omega, ← ec] at ew
    omega
  refine ⟨ρ, fun _ _ => rfl, fun f h => ?_, ?_⟩
  · have h : f ∈ ([[(-1, 0), (-1, 3), (1, 10)]] : List qF) := h
    simp only [List.mem_cons, List.not_mem_nil, or_false] at h
    rcases h with rfl
    · show 0 ≤ -1 * ρ 0 + (-1 * ρ 3 + (1 * ρ 10 + 0))
      (try rw [h0]); omega
  · show sI M
    exact hI
-- nextFin
def xr_136 : qRu := (7, [[(1, 1)], [(1, 3)], [(9, 0), (-1, 3)], [(999, 0), (-1, 5)], [(-3, 0), (-1, 1), (1, 6)], [(9, 0), (-1, 6)]], [(91, 900, [(1, 0)]), (91, 901, [(1, 1)]), (91, 902, [(1, 2)]), (91, 903, [(1, 3)]), (91, 904, [(1, 4)]), (91, 905, [(1, 5)]), (93, 0, [(1, 6)])], [], [(91, 884, [(1, 0)]), (91, 881, [(1, 1), (1, 0)]), (91, 882, [(1, 3)]), (91, 883, [(1, 7)])], [[(1, 7)], [(1, 5), (-1, 7)]])
theorem xo_136 : qRok xr_136 := by
  intro ρ M h0 hf hm hI
  have f0 := hf [(1, 1)] (by decide)
  have f1 := hf [(1, 3)] (by decide)
  have f2 := hf [(9, 0), (-1, 3)] (by decide)
  have f3 := hf [(999, 0), (-1, 5)] (by decide)
  have f4 := hf [(-3, 0), (-1, 1), (1, 6)] (by decide)
  have f5 := hf [(9, 0), (-1, 6)] (by decide)
  simp only [qD, h0] at f0 f1 f2 f3 f4 f5
  have m0 : M 91 900 = 1 * ρ 0 + 0 := hm (91, 900, [(1, 0)]) (by decide)
  have m1 : M 91 901 = 1 * ρ 1 + 0 := hm (91, 901, [(1, 1)]) (by decide)
  have m2 : M 91 902 = 1 * ρ 2 + 0 := hm (91, 902, [(1, 2)]) (by decide)
  have m3 : M 91 903 = 1 * ρ 3 + 0 := hm (91, 903, [(1, 3)]) (by decide)
  have m4 : M 91 904 = 1 * ρ 4 + 0 := hm (91, 904, [(1, 4)]) (by decide)
  have m5 : M 91 905 = 1 * ρ 5 + 0 := hm (91, 905, [(1, 5)]) (by decide)
  have m6 : M 93 0 = 1 * ρ 6 + 0 := hm (93, 0, [(1, 6)]) (by decide)
  simp only [h0] at m0
  have qxC1 := hI.2.2.2.2.2.2.2.2.2.2.2.2.1
  have qxCU := hI.2.2.2.2.2.2.2.2.2.2.2.2.2.2.2.1
  have hv : (0 : Int) ≤ M 124 (10 * (1 * ρ 1 + (1 * 1 + 0)) + (1 * ρ 3 + 0)).toNat ∧ M 124 (10 * (1 * ρ 1 + (1 * 1 + 0)) + (1 * ρ 3 + 0)).toNat ≤ 1000 := hI.1 124 _ (0, 1000) (xs_124 (by omega))
  have ec := (qxC1 (by omega)).1
  unfold xcB at ec
  have hx1 : xe1 (M 91 902) (M 91 903) = 0 ∨ xe1 (M 91 902) (M 91 903) = 1 := by
    unfold xe1
    split
    · exact Or.inl rfl
    · exact Or.inr rfl
  have hx2 : xe2 M (M 91 901) (M 91 903) = M 124 (10 * (1 * ρ 1 + (1 * 1 + 0)) + (1 * ρ 3 + 0)).toNat := by
    unfold xe2
    rw [if_neg (by omega)]
    congr 1
    omega
  have hle : M 124 (10 * (1 * ρ 1 + (1 * 1 + 0)) + (1 * ρ 3 + 0)).toNat ≤ M 91 905 := by
    split at ec
    · omega
    · omega
  refine ⟨fun a => cond (Nat.blt a 7) (ρ a) (([M 124 (10 * (1 * ρ 1 + (1 * 1 + 0)) + (1 * ρ 3 + 0)).toNat] : List Int).getD (a - 7) 0), fun a ha => ?_, fun f h => ?_, ?_⟩
  · show cond (Nat.blt a 7) (ρ a) _ = ρ a
    rw [show Nat.blt a 7 = true from Nat.ble_eq_true_of_le ha]; rfl
  · have h : f ∈ ([[(1, 7)], [(1, 5), (-1, 7)]] : List qF) := h
    simp only [List.mem_cons, List.not_mem_nil, or_false] at h
    rcases h with rfl | rfl
    · show 0 ≤ 1 * (M 124 (10 * (1 * ρ 1 + (1 * 1 + 0)) + (1 * ρ 3 + 0)).toNat) + 0
      (try rw [h0]); omega
    · show 0 ≤ 1 * ρ 5 + (-1 * (M 124 (10 * (1 * ρ 1 + (1 * 1 + 0)) + (1 * ρ 3 + 0)).toNat) + 0)
      (try rw [h0]); omega
  · show sI (sU (sU (sU (sU M 91 884 (1 * ρ 0 + 0)) 91 881 (1 * ρ 1 + (1 * ρ 0 + 0))) 91 882 (1 * ρ 3 + 0)) 91 883 (1 * (M 124 (10 * (1 * ρ 1 + (1 * 1 + 0)) + (1 * ρ 3 + 0)).toNat) + 0))
    obtain ⟨W, hW⟩ : ∃ W, W = (sU (sU (sU (sU M 91 884 (1 * ρ 0 + 0)) 91 881 (1 * ρ 1 + (1 * ρ 0 + 0))) 91 882 (1 * ρ 3 + 0)) 91 883 (1 * (M 124 (10 * (1 * ρ 1 + (1 * 1 + 0)) + (1 * ρ 3 + 0)).toNat) + 0)) := ⟨_, rfl⟩
    rw [← hW]
    have base : sI0 W := by
      rw [hW]
      exact (si_u0 (si_u0 (si_u0 (si_u0 hI.1 (fun r hr => by cases hr)) (fun r hr => by cases hr)) (fun r hr => by cases hr)) (fun r hr => by cases hr))
    have k2 : XI2 W := by
      rw [hW]
      exact (xi2_u rfl (xi2_u rfl (xi2_u rfl (xi2_u rfl hI.2.1))))
    have k3 : XI3 W := by
      rw [hW]
      exact (xi3_u rfl (xi3_u rfl (xi3_u rfl (xi3_u rfl hI.2.2.1))))
    have kXA : XA W := by
      rw [hW]
      exact (uXA rfl (uXA rfl (uXA rfl (uXA rfl hI.2.2.2.1))))
    have k_xN1 : xN1 W := by
      rw [hW]
      exact (uxN1 rfl (uxN1 rfl (uxN1 rfl (uxN1 rfl hI.2.2.2.2.1))))
    have k_xN2 : xN2 W := by
      rw [hW]
      exact (uxN2 rfl (uxN2 rfl (uxN2 rfl (uxN2 rfl hI.2.2.2.2.2.1))))
    have k_xN3 : xN3 W := by
      rw [hW]
      exact (uxN3 rfl (uxN3 rfl (uxN3 rfl (uxN3 rfl hI.2.2.2.2.2.2.1))))
    have k_xN4 : xN4 W := by
      rw [hW]
      exact (uxN4 rfl (uxN4 rfl (uxN4 rfl (uxN4 rfl hI.2.2.2.2.2.2.2.1))))
    have k_xN5 : xN5 W := by
      rw [hW]
      exact (uxN5 rfl (uxN5 rfl (uxN5 rfl (uxN5 rfl hI.2.2.2.2.2.2.2.2.1))))
    have k_xN6 : xN6 W := by
      rw [hW]
      exact (uxN6 rfl (uxN6 rfl (uxN6 rfl (uxN6 rfl hI.2.2.2.2.2.2.2.2.2.1))))
    have k_xH1 : xH1 W := by
      rw [hW]
      exact (uxH1 rfl (uxH1 rfl (uxH1 rfl (uxH1 rfl hI.2.2.2.2.2.2.2.2.2.2.1))))
    have k_xK1 : xK1 W := by
      rw [hW]
      exact (uxK1 rfl (uxK1 rfl (uxK1 rfl (uxK1 rfl hI.2.2.2.2.2.2.2.2.2.2.2.1))))
    have k_xC1 : xC1 W := by
      rw [hW]
      exact (uxC1 rfl (uxC1 rfl (uxC1 rfl (uxC1 rfl hI.2.2.2.2.2.2.2.2.2.2.2.2.1))))
    have k_xRW : xRW W := by
      rw [hW]
      exact (uxRW rfl (uxRW rfl (uxRW rfl (uxRW rfl hI.2.2.2.2.2.2.2.2.2.2.2.2.2.1))))
    have k_xWT : xWT W := by
      rw [hW]
      exact (uxWT rfl (uxWT rfl (uxWT rfl (uxWT rfl hI.2.2.2.2.2.2.2.2.2.2.2.2.2.2.1))))
    have k_xCU : xCU W := by
      have r91_884 : W 91 884 = 1 * ρ 0 + 0 := by rw [hW, sU_ne (fun z => by omega), sU_ne (fun z => by omega), sU_ne (fun z => by omega), sU_at]
      have r91_881 : W 91 881 = 1 * ρ 1 + (1 * ρ 0 + 0) := by rw [hW, sU_ne (fun z => by omega), sU_ne (fun z => by omega), sU_at]
      have r91_882 : W 91 882 = 1 * ρ 3 + 0 := by rw [hW, sU_ne (fun z => by omega), sU_at]
      have r91_883 : W 91 883 = 1 * (M 124 (10 * (1 * ρ 1 + (1 * 1 + 0)) + (1 * ρ 3 + 0)).toNat) + 0 := by rw [hW, sU_at]
      have c124 : ∀ k, W 124 k = M 124 k := fun k => by rw [hW, sU_ne (fun z => by omega), sU_ne (fun z => by omega), sU_ne (fun z => by omega), sU_ne (fun z => by omega)]
      intro h
      rw [r91_881, r91_882, r91_883, c124, x10, h0]
    have k_xG2 : xG2 W := by
      rw [hW]
      exact (uxG2 rfl (uxG2 rfl (uxG2 rfl (uxG2 rfl hI.2.2.2.2.2.2.2.2.2.2.2.2.2.2.2.2.1))))
    have k_xG3 : xG3 W := by
      rw [hW]
      exact (uxG3 rfl (uxG3 rfl (uxG3 rfl (uxG3 rfl hI.2.2.2.2.2.2.2.2.2.2.2.2.2.2.2.2.2.1))))
    have k_xG4 : xG4 W := by
      rw [hW]
      exact (uxG4 rfl (uxG4 rfl (uxG4 rfl (uxG4 rfl hI.2.2.2.2.2.2.2.2.2.2.2.2.2.2.2.2.2.2.1))))
    have k_xG5 : xG5 W := by
      rw [hW]
      exact (uxG5 rfl (uxG5 rfl (uxG5 rfl (uxG5 rfl hI.2.2.2.2.2.2.2.2.2.2.2.2.2.2.2.2.2.2.2.1))))
    have k_xG6 : xG6 W := by
      rw [hW]
      exact (uxG6 rfl (uxG6 rfl (uxG6 rfl (uxG6 rfl hI.2.2.2.2.2.2.2.2.2.2.2.2.2.2.2.2.2.2.2.2.1))))
    have k_XC : XC W := by
      rw [hW]
      exact (uXC rfl (uXC rfl (uXC rfl (uXC rfl hI.2.2.2.2.2.2.2.2.2.2.2.2.2.2.2.2.2.2.2.2.2))))
    have kXB : XB W := ⟨k_xN1, k_xN2, k_xN3, k_xN4, k_xN5, k_xN6, k_xH1, k_xK1, k_xC1, k_xRW, k_xWT, k_xCU, k_xG2, k_xG3, k_xG4, k_xG5, k_xG6, k_XC⟩
    exact ⟨base, k2, k3, kXA, kXB⟩
