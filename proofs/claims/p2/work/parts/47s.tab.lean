/-! THE RULES, one by one. -/
def xr_1 : qRu := (4, [[(1, 1), (-1, 3)], [(71, 0), (-1, 1)], [(1, 1)], [(1, 2)], [(41, 0), (-1, 2)], [(1, 3)]], [(54, 2, [(1, 3)])], [(55, [(1, 1)], [(1, 2)])], [], [])
def xr_2 : qRu := (4, [[(-6, 0), (1, 3)], [(6, 0), (-1, 3)], [(1, 1)], [(71, 0), (-1, 1)]], [(54, 2, [(1, 1)]), (54, 998, [(1, 2)]), (55, 1001, [(1, 3)])], [(54, [(2, 0)], [(1, 0), (1, 1)])], [(54, 998, [(1, 0), (1, 2)]), (54, 997, [(1, 2)])], [])
def xr_3 : qRu := (4, [[(-7, 0), (1, 3)], [(1, 1)], [(71, 0), (-1, 1)]], [(54, 2, [(1, 1)]), (54, 998, [(1, 2)]), (55, 1001, [(1, 3)])], [(54, [(2, 0)], [(1, 0), (1, 1)])], [(54, 998, [(1, 2)]), (54, 997, [(1, 2)])], [])
def xr_4 : qRu := (4, [[(5, 0), (-1, 3)], [(1, 1)], [(71, 0), (-1, 1)]], [(54, 2, [(1, 1)]), (54, 998, [(1, 2)]), (55, 1001, [(1, 3)])], [(54, [(2, 0)], [(1, 0), (1, 1)])], [(54, 998, [(1, 2)]), (54, 997, [(1, 2)])], [])
def xr_5 : qRu := (3, [[(-1, 0), (1, 1)], [(72, 0), (-1, 1)]], [(54, 2, [(1, 1)]), (54, 997, [(1, 2)])], [(54, [(2, 0)], [(-1, 0), (1, 1)])], [(54, 998, [(1, 2)]), (54, 997, [(1, 3)])], [])
def xr_6 : qRu := (1, [], [], [(54, [(2, 0)], [])], [(54, 998, []), (54, 997, [])], [])
def xr_7 : qRu := (3, [[(1, 1)]], [(54, 2, [(1, 1)]), (54, 998, [(1, 2)])], [], [], [[(1, 1), (-1, 2)], [(1, 2)]])
def xr_8 : qRu := (6, [[(-1, 0), (1, 1), (-1, 4)], [(1, 0), (-1, 1), (1, 4)], [(-1, 0), (1, 1)], [(-7, 0), (1, 5)]], [(54, 2, [(1, 1)]), (54, 998, [(1, 2)]), (54, 997, [(1, 3)]), (55, 1004, [(1, 5)])], [], [], [[(1, 2), (-1, 3)], [(-1, 2), (1, 3)]])
def xr_9 : qRu := (6, [[(-1, 0), (1, 1), (-1, 4)], [(1, 0), (-1, 1), (1, 4)], [(-1, 0), (1, 1)], [(5, 0), (-1, 5)]], [(54, 2, [(1, 1)]), (54, 998, [(1, 2)]), (54, 997, [(1, 3)]), (55, 1004, [(1, 5)])], [], [], [[(1, 2), (-1, 3)], [(-1, 2), (1, 3)]])
def xr_10 : qRu := (4, [[(-1, 0), (1, 1)]], [(54, 2, [(1, 1)]), (54, 998, [(1, 2)]), (54, 997, [(1, 3)])], [], [], [[(1, 2), (-1, 3)], [(1, 0), (-1, 2), (1, 3)]])
theorem xc_ge {M M' : sM} {x : Nat} (h : ∀ k, k < x → M' 55 k = M 55 k) : ∀ t, t ≤ x → xC M' t = xC M t
  | 0, _ => rfl
  | t + 1, ht => by
    show xC M' t + (if M' 55 t = 6 then 1 else 0) = xC M t + (if M 55 t = 6 then 1 else 0)
    rw [xc_ge h t (by omega), h t (by omega)]
theorem xc_b (M : sM) : ∀ t : Nat, 0 ≤ xC M t ∧ xC M t ≤ t
  | 0 => ⟨Int.le_refl 0, Int.le_refl 0⟩
  | t + 1 => by
    have h := xc_b M t
    show 0 ≤ xC M t + (if M 55 t = 6 then 1 else 0) ∧ xC M t + (if M 55 t = 6 then 1 else 0) ≤ ((t + 1 : Nat) : Int)
    split <;> omega
theorem xc_s (M : sM) (t : Nat) : xC M (t + 1) = xC M t + (if M 55 t = 6 then 1 else 0) := rfl
theorem zix_p {ρ : Nat → Int} {k : Nat} : zIx ρ (1000 + k) = (ρ k).toNat := by
  unfold zIx
  have hb0 : Nat.blt (1000 + k) 1000 = false := by
    cases hb0 : Nat.blt (1000 + k) 1000 with
    | false => rfl
    | true => have := zblt hb0; omega
  rw [hb0]
  show (ρ (1000 + k - 1000)).toNat = _
  rw [show 1000 + k - 1000 = k by omega]
/-- the ghost places of 54 are written -/
theorem xg_54 {M : sM} {k : Nat} {v : Int} (hk : k = 998 ∨ k = 997) (h : sI0 M) : sI0 (sU M 54 k v) := si_u0 h (fun r hr => by rcases hk with rfl | rfl <;> cases hr)
theorem xr_top {M : sM} {t g h : Int} (hI : sI M) (ht0 : 0 ≤ t) (ht1 : t ≤ 72) (hg : g = xC M t.toNat) (hh : h = xC M (t.toNat - 1)) : sI (sU (sU (sU M 54 2 t) 54 998 g) 54 997 h) := by
  refine ⟨xg_54 (Or.inr rfl) (xg_54 (Or.inl rfl) (si_u0 hI.1 (fun r hr => ?_))), ?_⟩
  · have hr : some ((0 : Int), (72 : Int)) = some r := hr
    cases hr
    exact ⟨ht0, ht1⟩
  · have h55 : ∀ k, sU (sU (sU M 54 2 t) 54 998 g) 54 997 h 55 k = M 55 k := fun k => by
      rw [sU_ne (fun z => by omega), sU_ne (fun z => by omega), sU_ne (fun z => by omega)]
    have h2 : sU (sU (sU M 54 2 t) 54 998 g) 54 997 h 54 2 = t := by
      rw [sU_ne (fun z => by omega), sU_ne (fun z => by omega), sU_at]
    have h98 : sU (sU (sU M 54 2 t) 54 998 g) 54 997 h 54 998 = g := by
      rw [sU_ne (fun z => by omega), sU_at]
    refine ⟨?_, xi3_congr (fun o k _ ho => by rw [sU_ne (fun z => by omega), sU_ne (fun z => by omega), sU_ne (fun z => by omega)]) hI.2.2⟩
    unfold XI2
    rw [h2, h98, sU_at, xc_congr h55, xc_congr h55]
    exact ⟨hg, hh⟩
theorem xo_1 : qRok xr_1 := by
  intro ρ M h0 hf hm hI
  have f1 := hf [(1, 1), (-1, 3)] (by decide)
  have f2 := hf [(71, 0), (-1, 1)] (by decide)
  have f3 := hf [(1, 1)] (by decide)
  have f4 := hf [(1, 2)] (by decide)
  have f5 := hf [(41, 0), (-1, 2)] (by decide)
  simp only [qD, h0] at f1 f2 f3 f4 f5
  have m1 : M 54 2 = 1 * ρ 3 + 0 := hm (54, 2, [(1, 3)]) (by decide)
  refine ⟨ρ, fun _ _ => rfl, fun f h => (nomatch h), ?_⟩
  show sI (sU M 55 (1 * ρ 1 + 0).toNat (1 * ρ 2 + 0))
  refine ⟨si_u0 hI.1 (fun r hr => ?_), ?_⟩
  · have hlt : (1 * ρ 1 + 0).toNat < 72 := by omega
    have hr2 : sRg 55 (1 * ρ 1 + 0).toNat = some (0, 41) := by
      unfold sRg
      show cond (Nat.blt (1 * ρ 1 + 0).toNat 72) ((([some ((0 : Int), (41 : Int))] : List (Option (Int × Int)))[(1 * ρ 1 + 0).toNat % 1]?).getD none) none = _
      rw [show Nat.blt (1 * ρ 1 + 0).toNat 72 = true from Nat.ble_eq_true_of_le hlt, Nat.mod_one]
      rfl
    rw [hr2] at hr
    cases hr
    exact ⟨by show (0 : Int) ≤ _; omega, by show _ ≤ (41 : Int); omega⟩
  · refine ⟨?_, xi3_congr (fun o k _ ho => sU_ne (fun z => by omega)) hI.2.2⟩
    have hx := hI.2.1
    unfold XI2 at hx ⊢
    have e1 : sU M 55 (1 * ρ 1 + 0).toNat (1 * ρ 2 + 0) 54 2 = M 54 2 := sU_ne (fun z => by omega)
    have e2 : sU M 55 (1 * ρ 1 + 0).toNat (1 * ρ 2 + 0) 54 998 = M 54 998 := sU_ne (fun z => by omega)
    have e3 : sU M 55 (1 * ρ 1 + 0).toNat (1 * ρ 2 + 0) 54 997 = M 54 997 := sU_ne (fun z => by omega)
    have hc : ∀ t : Nat, t ≤ (1 * ρ 1 + 0).toNat → xC (sU M 55 (1 * ρ 1 + 0).toNat (1 * ρ 2 + 0)) t = xC M t := fun t => xc_ge (fun k hk => sU_ne (fun z => by omega)) t
    rw [e1, e2, e3, hc _ (by omega), hc _ (by omega)]
    exact hx
theorem xr_push {M : sM} {t g w : Int} (hI : sI M) (m1 : M 54 2 = t) (m2 : M 54 998 = g) (m3 : M 55 t.toNat = w) (h0 : 0 ≤ t) (h1 : t ≤ 71) : sI (sU (sU (sU M 54 2 (1 + t)) 54 998 (g + (if w = 6 then 1 else 0))) 54 997 g) := by
  have hx := hI.2.1.1
  rw [m1, m2] at hx
  refine xr_top hI (by omega) (by omega) ?_ ?_
  · rw [show (1 + t).toNat = t.toNat + 1 by omega, xc_s, m3, ← hx]
  · rw [show (1 + t).toNat - 1 = t.toNat by omega]
    exact hx
theorem xo_2 : qRok xr_2 := by
  intro ρ M h0 hf hm hI
  have f1 := hf [(-6, 0), (1, 3)] (by decide)
  have f2 := hf [(6, 0), (-1, 3)] (by decide)
  have f3 := hf [(1, 1)] (by decide)
  have f4 := hf [(71, 0), (-1, 1)] (by decide)
  simp only [qD, h0] at f1 f2 f3 f4
  have m1 : M 54 2 = 1 * ρ 1 + 0 := hm (54, 2, [(1, 1)]) (by decide)
  have m2 : M 54 998 = 1 * ρ 2 + 0 := hm (54, 998, [(1, 2)]) (by decide)
  have m3 : M 55 (zIx ρ (1000 + 1)) = 1 * ρ 3 + 0 := hm (55, 1001, [(1, 3)]) (by decide)
  rw [zix_p] at m3
  refine ⟨ρ, fun _ _ => rfl, fun f h => (nomatch h), ?_⟩
  have := xr_push (t := ρ 1) (g := ρ 2) (w := ρ 3) hI (by omega) (by omega) (by omega) (by omega) (by omega)
  rw [if_pos (by omega)] at this
  show sI (sU (sU (sU M 54 (2 * ρ 0 + 0).toNat (1 * ρ 0 + (1 * ρ 1 + 0))) 54 998 (1 * ρ 0 + (1 * ρ 2 + 0))) 54 997 (1 * ρ 2 + 0))
  rw [show (2 * ρ 0 + 0 : Int).toNat = 2 by rw [h0]; rfl, h0, show (1 * 1 + (1 * ρ 1 + 0) : Int) = 1 + ρ 1 by omega, show (1 * 1 + (1 * ρ 2 + 0) : Int) = ρ 2 + 1 by omega, show (1 * ρ 2 + 0 : Int) = ρ 2 by omega]
  exact this
theorem xo_3 : qRok xr_3 := by
  intro ρ M h0 hf hm hI
  have f1 := hf [(-7, 0), (1, 3)] (by decide)
  have f3 := hf [(1, 1)] (by decide)
  have f4 := hf [(71, 0), (-1, 1)] (by decide)
  simp only [qD, h0] at f1 f3 f4
  have m1 : M 54 2 = 1 * ρ 1 + 0 := hm (54, 2, [(1, 1)]) (by decide)
  have m2 : M 54 998 = 1 * ρ 2 + 0 := hm (54, 998, [(1, 2)]) (by decide)
  have m3 : M 55 (zIx ρ (1000 + 1)) = 1 * ρ 3 + 0 := hm (55, 1001, [(1, 3)]) (by decide)
  rw [zix_p] at m3
  refine ⟨ρ, fun _ _ => rfl, fun f h => (nomatch h), ?_⟩
  have := xr_push (t := ρ 1) (g := ρ 2) (w := ρ 3) hI (by omega) (by omega) (by omega) (by omega) (by omega)
  rw [if_neg (by omega)] at this
  show sI (sU (sU (sU M 54 (2 * ρ 0 + 0).toNat (1 * ρ 0 + (1 * ρ 1 + 0))) 54 998 (1 * ρ 2 + 0)) 54 997 (1 * ρ 2 + 0))
  rw [show (2 * ρ 0 + 0 : Int).toNat = 2 by rw [h0]; rfl, h0, show (1 * 1 + (1 * ρ 1 + 0) : Int) = 1 + ρ 1 by omega, show (1 * ρ 2 + 0 : Int) = ρ 2 by omega]
  rw [show ρ 2 + 0 = ρ 2 by omega] at this
  exact this
theorem xo_4 : qRok xr_4 := by
  intro ρ M h0 hf hm hI
  have f1 := hf [(5, 0), (-1, 3)] (by decide)
  have f3 := hf [(1, 1)] (by decide)
  have f4 := hf [(71, 0), (-1, 1)] (by decide)
  simp only [qD, h0] at f1 f3 f4
  have m1 : M 54 2 = 1 * ρ 1 + 0 := hm (54, 2, [(1, 1)]) (by decide)
  have m2 : M 54 998 = 1 * ρ 2 + 0 := hm (54, 998, [(1, 2)]) (by decide)
  have m3 : M 55 (zIx ρ (1000 + 1)) = 1 * ρ 3 + 0 := hm (55, 1001, [(1, 3)]) (by decide)
  rw [zix_p] at m3
  refine ⟨ρ, fun _ _ => rfl, fun f h => (nomatch h), ?_⟩
  have := xr_push (t := ρ 1) (g := ρ 2) (w := ρ 3) hI (by omega) (by omega) (by omega) (by omega) (by omega)
  rw [if_neg (by omega)] at this
  show sI (sU (sU (sU M 54 (2 * ρ 0 + 0).toNat (1 * ρ 0 + (1 * ρ 1 + 0))) 54 998 (1 * ρ 2 + 0)) 54 997 (1 * ρ 2 + 0))
  rw [show (2 * ρ 0 + 0 : Int).toNat = 2 by rw [h0]; rfl, h0, show (1 * 1 + (1 * ρ 1 + 0) : Int) = 1 + ρ 1 by omega, show (1 * ρ 2 + 0 : Int) = ρ 2 by omega]
  rw [show ρ 2 + 0 = ρ 2 by omega] at this
  exact this
theorem xo_5 : qRok xr_5 := by
  intro ρ M h0 hf hm hI
  have f1 := hf [(-1, 0), (1, 1)] (by decide)
  have f2 := hf [(72, 0), (-1, 1)] (by decide)
  simp only [qD, h0] at f1 f2
  have m1 : M 54 2 = 1 * ρ 1 + 0 := hm (54, 2, [(1, 1)]) (by decide)
  have m2 : M 54 997 = 1 * ρ 2 + 0 := hm (54, 997, [(1, 2)]) (by decide)
  have hx := hI.2.1.2
  rw [m1, m2] at hx
  refine ⟨fun a => cond (Nat.blt a 3) (ρ a) (xC M ((ρ 1 - 1).toNat - 1)), fun a ha => ?_, fun f h => (nomatch h), ?_⟩
  · show cond (Nat.blt a 3) (ρ a) _ = ρ a
    rw [show Nat.blt a 3 = true from Nat.ble_eq_true_of_le ha]; rfl
  · show sI (sU (sU (sU M 54 (2 * ρ 0 + 0).toNat (-1 * ρ 0 + (1 * ρ 1 + 0))) 54 998 (1 * ρ 2 + 0)) 54 997 (1 * xC M ((ρ 1 - 1).toNat - 1) + 0))
    rw [show (2 * ρ 0 + 0 : Int).toNat = 2 by rw [h0]; rfl, h0, show (-1 * 1 + (1 * ρ 1 + 0) : Int) = ρ 1 - 1 by omega, show (1 * xC M ((ρ 1 - 1).toNat - 1) + 0 : Int) = xC M ((ρ 1 - 1).toNat - 1) by omega]
    refine xr_top hI (by omega) (by omega) ?_ rfl
    rw [hx]
    congr 1
    omega
theorem xo_6 : qRok xr_6 := by
  intro ρ M h0 hf hm hI
  refine ⟨ρ, fun _ _ => rfl, fun f h => (nomatch h), ?_⟩
  show sI (sU (sU (sU M 54 (2 * ρ 0 + 0).toNat 0) 54 998 0) 54 997 0)
  rw [show (2 * ρ 0 + 0 : Int).toNat = 2 by rw [h0]; rfl]
  exact xr_top (t := 0) (g := 0) (h := 0) hI (by omega) (by omega) rfl rfl
theorem xo_7 : qRok xr_7 := by
  intro ρ M h0 hf hm hI
  have f1 := hf [(1, 1)] (by decide)
  simp only [qD] at f1
  have m1 : M 54 2 = 1 * ρ 1 + 0 := hm (54, 2, [(1, 1)]) (by decide)
  have m2 : M 54 998 = 1 * ρ 2 + 0 := hm (54, 998, [(1, 2)]) (by decide)
  have hx := hI.2.1.1
  rw [m1, m2] at hx
  have hb := xc_b M (1 * ρ 1 + 0).toNat
  refine ⟨ρ, fun _ _ => rfl, fun f h => ?_, hI⟩
  rcases List.mem_cons.mp h with rfl | h
  · show 0 ≤ 1 * ρ 1 + (-1 * ρ 2 + 0)
    omega
  · rcases List.mem_cons.mp h with rfl | h
    · show 0 ≤ 1 * ρ 2 + 0
      omega
    · cases h
theorem xr_below {M : sM} (hI : sI M) (h1 : 1 ≤ M 54 2) : M 54 998 = M 54 997 + (if M 55 (M 54 2 - 1).toNat = 6 then 1 else 0) := by
  have ha := hI.2.1.1
  have hb := hI.2.1.2
  rw [show (M 54 2).toNat = ((M 54 2).toNat - 1) + 1 by omega, xc_s, ← hb, show (M 54 2).toNat - 1 = (M 54 2 - 1).toNat by omega] at ha
  exact ha
theorem xo_8 : qRok xr_8 := by
  intro ρ M h0 hf hm hI
  have f1 := hf [(-1, 0), (1, 1), (-1, 4)] (by decide)
  have f2 := hf [(1, 0), (-1, 1), (1, 4)] (by decide)
  have f3 := hf [(-1, 0), (1, 1)] (by decide)
  have f4 := hf [(-7, 0), (1, 5)] (by decide)
  simp only [qD, h0] at f1 f2 f3 f4
  have m1 : M 54 2 = 1 * ρ 1 + 0 := hm (54, 2, [(1, 1)]) (by decide)
  have m2 : M 54 998 = 1 * ρ 2 + 0 := hm (54, 998, [(1, 2)]) (by decide)
  have m3 : M 54 997 = 1 * ρ 3 + 0 := hm (54, 997, [(1, 3)]) (by decide)
  have m4 : M 55 (zIx ρ (1000 + 4)) = 1 * ρ 5 + 0 := hm (55, 1004, [(1, 5)]) (by decide)
  rw [zix_p] at m4
  have hx := xr_below hI (by omega)
  rw [show (M 54 2 - 1).toNat = (ρ 4).toNat by omega, m4, if_neg (by omega)] at hx
  refine ⟨ρ, fun _ _ => rfl, fun f h => ?_, hI⟩
  rcases List.mem_cons.mp h with rfl | h
  · show 0 ≤ 1 * ρ 2 + (-1 * ρ 3 + 0)
    omega
  · rcases List.mem_cons.mp h with rfl | h
    · show 0 ≤ -1 * ρ 2 + (1 * ρ 3 + 0)
      omega
    · cases h
theorem xo_9 : qRok xr_9 := by
  intro ρ M h0 hf hm hI
  have f1 := hf [(-1, 0), (1, 1), (-1, 4)] (by decide)
  have f2 := hf [(1, 0), (-1, 1), (1, 4)] (by decide)
  have f3 := hf [(-1, 0), (1, 1)] (by decide)
  have f4 := hf [(5, 0), (-1, 5)] (by decide)
  simp only [qD, h0] at f1 f2 f3 f4
  have m1 : M 54 2 = 1 * ρ 1 + 0 := hm (54, 2, [(1, 1)]) (by decide)
  have m2 : M 54 998 = 1 * ρ 2 + 0 := hm (54, 998, [(1, 2)]) (by decide)
  have m3 : M 54 997 = 1 * ρ 3 + 0 := hm (54, 997, [(1, 3)]) (by decide)
  have m4 : M 55 (zIx ρ (1000 + 4)) = 1 * ρ 5 + 0 := hm (55, 1004, [(1, 5)]) (by decide)
  rw [zix_p] at m4
  have hx := xr_below hI (by omega)
  rw [show (M 54 2 - 1).toNat = (ρ 4).toNat by omega, m4, if_neg (by omega)] at hx
  refine ⟨ρ, fun _ _ => rfl, fun f h => ?_, hI⟩
  rcases List.mem_cons.mp h with rfl | h
  · show 0 ≤ 1 * ρ 2 + (-1 * ρ 3 + 0)
    omega
  · rcases List.mem_cons.mp h with rfl | h
    · show 0 ≤ -1 * ρ 2 + (1 * ρ 3 + 0)
      omega
    · cases h
theorem xo_10 : qRok xr_10 := by
  intro ρ M h0 hf hm hI
  have f3 := hf [(-1, 0), (1, 1)] (by decide)
  simp only [qD, h0] at f3
  have m1 : M 54 2 = 1 * ρ 1 + 0 := hm (54, 2, [(1, 1)]) (by decide)
  have m2 : M 54 998 = 1 * ρ 2 + 0 := hm (54, 998, [(1, 2)]) (by decide)
  have m3 : M 54 997 = 1 * ρ 3 + 0 := hm (54, 997, [(1, 3)]) (by decide)
  have hx := xr_below hI (by omega)
  have hi : (0 : Int) ≤ (if M 55 (M 54 2 - 1).toNat = 6 then 1 else 0) ∧ (if M 55 (M 54 2 - 1).toNat = 6 then 1 else 0) ≤ (1 : Int) := by split <;> omega
  refine ⟨ρ, fun _ _ => rfl, fun f h => ?_, hI⟩
  rcases List.mem_cons.mp h with rfl | h
  · show 0 ≤ 1 * ρ 2 + (-1 * ρ 3 + 0)
    omega
  · rcases List.mem_cons.mp h with rfl | h
    · show 0 ≤ 1 * ρ 0 + (-1 * ρ 2 + (1 * ρ 3 + 0))
      omega
    · cases h
def xr_11 : qRu := (3, [[(1, 1)], [(71, 0), (-1, 1)]], [(54, 2, [(1, 1)]), (54, 998, [(1, 2)])], [(54, [(2, 0)], [(1, 0), (1, 1)])], [(54, 998, [(1, 3)]), (54, 997, [(1, 2)])], [[(-1, 2), (1, 3)], [(1, 0), (1, 2), (-1, 3)]])
theorem xo_11 : qRok xr_11 := by
  intro ρ M h0 hf hm hI
  have f3 := hf [(1, 1)] (by decide)
  have f4 := hf [(71, 0), (-1, 1)] (by decide)
  simp only [qD, h0] at f3 f4
  have m1 : M 54 2 = 1 * ρ 1 + 0 := hm (54, 2, [(1, 1)]) (by decide)
  have m2 : M 54 998 = 1 * ρ 2 + 0 := hm (54, 998, [(1, 2)]) (by decide)
  have hp := xr_push (t := ρ 1) (g := ρ 2) (w := M 55 (ρ 1).toNat) hI (by omega) (by omega) rfl (by omega) (by omega)
  generalize hgv : ρ 2 + (if M 55 (ρ 1).toNat = 6 then 1 else 0) = gv at hp
  have hb : ρ 2 ≤ gv ∧ gv ≤ ρ 2 + 1 := by rw [← hgv]; split <;> omega
  refine ⟨fun a => cond (Nat.blt a 3) (ρ a) gv, fun a ha => ?_, fun f h => ?_, ?_⟩
  · show cond (Nat.blt a 3) (ρ a) _ = ρ a
    rw [show Nat.blt a 3 = true from Nat.ble_eq_true_of_le ha]; rfl
  · rcases List.mem_cons.mp h with rfl | h
    · show 0 ≤ -1 * ρ 2 + (1 * gv + 0)
      omega
    · rcases List.mem_cons.mp h with rfl | h
      · show 0 ≤ 1 * ρ 0 + (1 * ρ 2 + (-1 * gv + 0))
        omega
      · cases h
  · show sI (sU (sU (sU M 54 (2 * ρ 0 + 0).toNat (1 * ρ 0 + (1 * ρ 1 + 0))) 54 998 (1 * gv + 0)) 54 997 (1 * ρ 2 + 0))
    rw [show (2 * ρ 0 + 0 : Int).toNat = 2 by rw [h0]; rfl, h0, show (1 * 1 + (1 * ρ 1 + 0) : Int) = 1 + ρ 1 by omega, show (1 * gv + 0 : Int) = gv by omega, show (1 * ρ 2 + 0 : Int) = ρ 2 by omega]
    exact hp
def xr_12 : qRu := (2, [[(1, 1)], [(700, 0), (-1, 1)]], [], [(91, [(27, 0)], [(1, 1)])], [(91, 990, [(1, 2)])], [])
def xr_13 : qRu := (2, [[(1, 1)], [(700, 0), (-1, 1)]], [], [(91, [(26, 0)], [(1, 1)])], [(91, 990, [(1, 2)])], [])
def xr_14 : qRu := (3, [[(1, 1)], [(699, 0), (-1, 1)], [(1, 2)], [(255, 0), (-1, 2)]], [], [(92, [(1, 1)], [(1, 2)])], [(91, 990, [(1, 3)])], [])
def xr_15 : qRu := (5, [[(-1, 0), (-1, 1), (1, 2)], [(1, 1)]], [(91, 27, [(1, 1)]), (91, 26, [(1, 2)]), (92, 1001, [(1, 3)]), (91, 990, [(1, 4)])], [], [], [[(-1, 3), (1, 4)], [(1, 3), (-1, 4)]])
def xr_16 : qRu := (4, [[(1, 1), (-1, 2)]], [(91, 27, [(1, 1)]), (91, 26, [(1, 2)]), (91, 990, [(1, 3)])], [], [], [[(1, 0), (1, 3)], [(-1, 0), (-1, 3)]])
/-- whatever is written on the reference's side, the byte that is looked at gets a new name -/
theorem xr_byte {M : sM} {o k : Nat} {v : Int} (hI : sI M) (ho : 60 ≤ o) (hg : ¬ (o = 91 ∧ k = 990)) (hr : ∀ r, sRg o k = some r → r.1 ≤ v ∧ v ≤ r.2) : sI (sU (sU M o k v) 91 990 (xH (sU M o k v))) := by
  refine ⟨si_u0 (si_u0 hI.1 hr) (fun r hr => by cases hr), xi2_congr (fun o' k' _ ho' => by rw [sU_ne (fun z => by omega), sU_ne (fun z => by omega)]) hI.2.1, ?_⟩
  unfold XI3
  rw [sU_at]
  have e : ∀ o' k' x, ¬ (o' = 91 ∧ k' = 990) → sU (sU M o k v) 91 990 x o' k' = sU M o k v o' k' := fun o' k' x h => sU_ne h
  unfold xH
  rw [e _ _ _ (by omega), e _ _ _ (by omega), e _ _ _ (by omega)]
theorem xo_12 : qRok xr_12 := by
  intro ρ M h0 hf hm hI
  have f1 := hf [(1, 1)] (by decide)
  have f2 := hf [(700, 0), (-1, 1)] (by decide)
  simp only [qD, h0] at f1 f2
  refine ⟨fun a => cond (Nat.blt a 2) (ρ a) (xH (sU M 91 27 (1 * ρ 1 + 0))), fun a ha => ?_, fun f h => (nomatch h), ?_⟩
  · show cond (Nat.blt a 2) (ρ a) _ = ρ a
    rw [show Nat.blt a 2 = true from Nat.ble_eq_true_of_le ha]; rfl
  · show sI (sU (sU M 91 (27 * ρ 0 + 0).toNat (1 * ρ 1 + 0)) 91 990 (1 * xH (sU M 91 27 (1 * ρ 1 + 0)) + 0))
    rw [show (27 * ρ 0 + 0 : Int).toNat = 27 by rw [h0]; rfl, show (1 * xH (sU M 91 27 (1 * ρ 1 + 0)) + 0 : Int) = xH (sU M 91 27 (1 * ρ 1 + 0)) by omega]
    refine xr_byte hI (by omega) (by omega) (fun r hr => ?_)
    have hr : some ((0 : Int), (700 : Int)) = some r := hr
    cases hr
    exact ⟨by show (0 : Int) ≤ _; omega, by show _ ≤ (700 : Int); omega⟩
theorem xo_13 : qRok xr_13 := by
  intro ρ M h0 hf hm hI
  have f1 := hf [(1, 1)] (by decide)
  have f2 := hf [(700, 0), (-1, 1)] (by decide)
  simp only [qD, h0] at f1 f2
  refine ⟨fun a => cond (Nat.blt a 2) (ρ a) (xH (sU M 91 26 (1 * ρ 1 + 0))), fun a ha => ?_, fun f h => (nomatch h), ?_⟩
  · show cond (Nat.blt a 2) (ρ a) _ = ρ a
    rw [show Nat.blt a 2 = true from Nat.ble_eq_true_of_le ha]; rfl
  · show sI (sU (sU M 91 (26 * ρ 0 + 0).toNat (1 * ρ 1 + 0)) 91 990 (1 * xH (sU M 91 26 (1 * ρ 1 + 0)) + 0))
    rw [show (26 * ρ 0 + 0 : Int).toNat = 26 by rw [h0]; rfl, show (1 * xH (sU M 91 26 (1 * ρ 1 + 0)) + 0 : Int) = xH (sU M 91 26 (1 * ρ 1 + 0)) by omega]
    refine xr_byte hI (by omega) (by omega) (fun r hr => ?_)
    have hr : some ((0 : Int), (700 : Int)) = some r := hr
    cases hr
    exact ⟨by show (0 : Int) ≤ _; omega, by show _ ≤ (700 : Int); omega⟩
theorem xo_14 : qRok xr_14 := by
  intro ρ M h0 hf hm hI
  have f1 := hf [(1, 1)] (by decide)
  have f2 := hf [(699, 0), (-1, 1)] (by decide)
  have f3 := hf [(1, 2)] (by decide)
  have f4 := hf [(255, 0), (-1, 2)] (by decide)
  simp only [qD, h0] at f1 f2 f3 f4
  refine ⟨fun a => cond (Nat.blt a 3) (ρ a) (xH (sU M 92 (1 * ρ 1 + 0).toNat (1 * ρ 2 + 0))), fun a ha => ?_, fun f h => (nomatch h), ?_⟩
  · show cond (Nat.blt a 3) (ρ a) _ = ρ a
    rw [show Nat.blt a 3 = true from Nat.ble_eq_true_of_le ha]; rfl
  · show sI (sU (sU M 92 (1 * ρ 1 + 0).toNat (1 * ρ 2 + 0)) 91 990 (1 * xH (sU M 92 (1 * ρ 1 + 0).toNat (1 * ρ 2 + 0)) + 0))
    rw [show (1 * xH (sU M 92 (1 * ρ 1 + 0).toNat (1 * ρ 2 + 0)) + 0 : Int) = xH (sU M 92 (1 * ρ 1 + 0).toNat (1 * ρ 2 + 0)) by omega]
    refine xr_byte hI (by omega) (by omega) (fun r hr => ?_)
    have hlt : (1 * ρ 1 + 0).toNat < 700 := by omega
    have hr2 : sRg 92 (1 * ρ 1 + 0).toNat = some (0, 255) := by
      unfold sRg
      show cond (Nat.blt (1 * ρ 1 + 0).toNat 700) ((([some ((0 : Int), (255 : Int))] : List (Option (Int × Int)))[(1 * ρ 1 + 0).toNat % 1]?).getD none) none = _
      rw [show Nat.blt (1 * ρ 1 + 0).toNat 700 = true from Nat.ble_eq_true_of_le hlt, Nat.mod_one]
      rfl
    rw [hr2] at hr
    cases hr
    exact ⟨by show (0 : Int) ≤ _; omega, by show _ ≤ (255 : Int); omega⟩
theorem xo_15 : qRok xr_15 := by
  intro ρ M h0 hf hm hI
  have f1 := hf [(-1, 0), (-1, 1), (1, 2)] (by decide)
  have f2 := hf [(1, 1)] (by decide)
  simp only [qD, h0] at f1 f2
  have m1 : M 91 27 = 1 * ρ 1 + 0 := hm (91, 27, [(1, 1)]) (by decide)
  have m2 : M 91 26 = 1 * ρ 2 + 0 := hm (91, 26, [(1, 2)]) (by decide)
  have m3 : M 92 (zIx ρ (1000 + 1)) = 1 * ρ 3 + 0 := hm (92, 1001, [(1, 3)]) (by decide)
  have m4 : M 91 990 = 1 * ρ 4 + 0 := hm (91, 990, [(1, 4)]) (by decide)
  rw [zix_p] at m3
  have hx : M 91 990 = xH M := hI.2.2
  unfold xH at hx
  rw [if_pos (by omega), show (M 91 27).toNat = (ρ 1).toNat by omega, m3] at hx
  refine ⟨ρ, fun _ _ => rfl, fun f h => ?_, hI⟩
  rcases List.mem_cons.mp h with rfl | h
  · show 0 ≤ -1 * ρ 3 + (1 * ρ 4 + 0)
    omega
  · rcases List.mem_cons.mp h with rfl | h
    · show 0 ≤ 1 * ρ 3 + (-1 * ρ 4 + 0)
      omega
    · cases h
theorem xo_16 : qRok xr_16 := by
  intro ρ M h0 hf hm hI
  have f1 := hf [(1, 1), (-1, 2)] (by decide)
  simp only [qD] at f1
  have m1 : M 91 27 = 1 * ρ 1 + 0 := hm (91, 27, [(1, 1)]) (by decide)
  have m2 : M 91 26 = 1 * ρ 2 + 0 := hm (91, 26, [(1, 2)]) (by decide)
  have m4 : M 91 990 = 1 * ρ 3 + 0 := hm (91, 990, [(1, 3)]) (by decide)
  have hx : M 91 990 = xH M := hI.2.2
  unfold xH at hx
  rw [if_neg (by omega)] at hx
  refine ⟨ρ, fun _ _ => rfl, fun f h => ?_, hI⟩
  rcases List.mem_cons.mp h with rfl | h
  · show 0 ≤ 1 * ρ 0 + (1 * ρ 3 + 0)
    omega
  · rcases List.mem_cons.mp h with rfl | h
    · show 0 ≤ -1 * ρ 0 + (-1 * ρ 3 + 0)
      omega
    · cases h
def qRT : List qRu := [xr_1, xr_2, xr_3, xr_4, xr_5, xr_6, xr_7, xr_8, xr_9, xr_10, xr_11, xr_12, xr_13, xr_14, xr_15, xr_16]
theorem zr_n : ∀ r ∈ ([] : List qRu), qRok r := fun _ h => nomatch h
theorem zr_c {r : qRu} {l : List qRu} (h : qRok r) (t : ∀ r ∈ l, qRok r) : ∀ d ∈ r :: l, qRok d := fun d hd => (List.mem_cons.mp hd).elim (fun e => e ▸ h) (t d)
theorem qrt_ok : ∀ r ∈ qRT, qRok r := zr_c xo_1 (zr_c xo_2 (zr_c xo_3 (zr_c xo_4 (zr_c xo_5 (zr_c xo_6 (zr_c xo_7 (zr_c xo_8 (zr_c xo_9 (zr_c xo_10 (zr_c xo_11 (zr_c xo_12 (zr_c xo_13 (zr_c xo_14 (zr_c xo_15 (zr_c xo_16 zr_n)))))))))))))))
