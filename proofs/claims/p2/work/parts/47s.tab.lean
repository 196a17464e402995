/-! THE RULES, one by one. -/
def xr_1 : qRu := (4, [[(1, 1), (-1, 3)], [(71, 0), (-1, 1)], [(1, 1)], [(1, 2)], [(41, 0), (-1, 2)], [(1, 3)]], [(54, 2, [(1, 3)])], [(55, [(1, 1)], [(1, 2)])], [], [])
def xr_2 : qRu := (4, [[(-6, 0), (1, 3)], [(6, 0), (-1, 3)], [(1, 1)], [(71, 0), (-1, 1)]], [(54, 2, [(1, 1)]), (54, 998, [(1, 2)]), (55, 1001, [(1, 3)])], [(54, [(2, 0)], [(1, 0), (1, 1)])], [(54, 998, [(1, 0), (1, 2)]), (54, 997, [(1, 2)])], [])
def xr_3 : qRu := (4, [[(-7, 0), (1, 3)], [(1, 1)], [(71, 0), (-1, 1)]], [(54, 2, [(1, 1)]), (54, 998, [(1, 2)]), (55, 1001, [(1, 3)])], [(54, [(2, 0)], [(1, 0), (1, 1)])], [(54, 998, [(1, 2)]), (54, 997, [(1, 2)])], [])
def xr_4 : qRu := (4, [[(5, 0), (-1, 3)], [(1, 1)], [(71, 0), (-1, 1)]], [(54, 2, [(1, 1)]), (54, 998, [(1, 2)]), (55, 1001, [(1, 3)])], [(54, [(2, 0)], [(1, 0), (1, 1)])], [(54, 998, [(1, 2)]), (54, 997, [(1, 2)])], [])
def xr_5 : qRu := (3, [[(-1, 0), (1, 1)], [(72, 0), (-1, 1)]], [(54, 2, [(1, 1)]), (54, 997, [(1, 2)])], [(54, [(2, 0)], [(-1, 0), (1, 1)])], [(54, 998, [(1, 2)]), (54, 997, [(1, 3)])], [])
def xr_6 : qRu := (1, [], [], [(54, [(2, 0)], [])], [(54, 998, []), (54, 997, [])], [])
def xr_7 : qRu := (3, [[(1, 1)]], [(54, 2, [(1, 1)]), (54, 998, [(1, 2)])], [], [], [[(1, 1), (-1, 2)], [(1, 2)]])
def xr_8 : qRu := (6, [[(-1, 0), (1, 1), (-1, 4)], [(1, 0), (-1, 1), (1, 4)], [(-1, 0), (1, 1)], [(-7, 0), (1, 5)]], [(54, 2, [(1, 1)]), (54, 998, [(1, 2)]), (54, 997, [(1, 3)]), (55, 1004, [(1, 5)])], [], [], [[(1, 2), (-1, 3)], [(-1, 2), (1, 3)]])
def xr_9 : qRu := (6, [[(-1, 0), (1, 1), (-1, 4)], [(1, 0), (-1, 1), (1, 4)], [(-1, 0), (1, 1)], [(5, 0), (-1, 5)]], [(54, 2, [(1, 1)]), (54, 998, [(1, 2)]), (54, 997, [(1, 3)]), (55, 1004, [(1, 5)])], [], [], [[(1, 2), (-1, 3)], [(-1, 2), (1, 3)]])
def xr_10 : qRu := (4, [[(-1, 0), (1, 1)]], [(54, 2, [(1, 1)]), (54, 998, [(1, 2)]), (54, 997, [(1, 3)])], [], [], [[(1, 2), (-1, 3)], [(1, 0), (-1, 2), (1, 3)]])
theorem xc_ge {M M' : sM} {x : Nat} (h : ∀ k, k < x → M' 55 k = M 55 k) : ∀ t, t ≤ x → xC M' t = xC M t
  | 0, _ => rfl
  | t + 1, ht => by
    show xC M' t + (if M' 55 t = 6 then 1 else 0) = xC M t + (if M 55 t = 6 then 1 else 0)
    rw [xc_ge h t (by omega), h t (by omega)]
theorem xc_b (M : sM) : ∀ t : Nat, 0 ≤ xC M t ∧ xC M t ≤ t
  | 0 => ⟨Int.le_refl 0, Int.le_refl 0⟩
  | t + 1 => by
    have h := xc_b M t
    show 0 ≤ xC M t + (if M 55 t = 6 then 1 else 0) ∧ xC M t + (if M 55 t = 6 then 1 else 0) ≤ ((t + 1 : Nat) : Int)
    split <;> omega
theorem xc_s (M : sM) (t : Nat) : xC M (t + 1) = xC M t + (if M 55 t = 6 then 1 else 0) := rfl
theorem zix_p {ρ : Nat → Int} {k : Nat} : zIx ρ (1000 + k) = (ρ k).toNat := by
  unfold zIx
  have hb0 : Nat.blt (1000 + k) 1000 = false := by
    cases hb0 : Nat.blt (1000 + k) 1000 with
    | false => rfl
    | true => have := zblt hb0; omega
  rw [hb0]
  show (ρ (1000 + k - 1000)).toNat = _
  rw [show 1000 + k - 1000 = k by omega]
/-- the ghost places of 54 are written -/
theorem xg_54 {M : sM} {k : Nat} {v : Int} (hk : k = 998 ∨ k = 997) (h : sI0 M) : sI0 (sU M 54 k v) := si_u0 h (fun r hr => by rcases hk with rfl | rfl <;> cases hr)
theorem xr_top {M : sM} {t g h : Int} (hI : sI M) (ht0 : 0 ≤ t) (ht1 : t ≤ 72) (hg : g = xC M t.toNat) (hh : h = xC M (t.toNat - 1)) : sI (sU (sU (sU M 54 2 t) 54 998 g) 54 997 h) := by
  refine ⟨xg_54 (Or.inr rfl) (xg_54 (Or.inl rfl) (si_u0 hI.1 (fun r hr => ?_))), ?_⟩
  · have hr : some ((0 : Int), (72 : Int)) = some r := hr
    cases hr
    exact ⟨ht0, ht1⟩
  · have h55 : ∀ k, sU (sU (sU M 54 2 t) 54 998 g) 54 997 h 55 k = M 55 k := fun k => by
      rw [sU_ne (fun z => by omega), sU_ne (fun z => by omega), sU_ne (fun z => by omega)]
    have h2 : sU (sU (sU M 54 2 t) 54 998 g) 54 997 h 54 2 = t := by
      rw [sU_ne (fun z => by omega), sU_ne (fun z => by omega), sU_at]
    have h98 : sU (sU (sU M 54 2 t) 54 998 g) 54 997 h 54 998 = g := by
      rw [sU_ne (fun z => by omega), sU_at]
    refine ⟨?_, xi3_congr (fun o k _ ho => by rw [sU_ne (fun z => by omega), sU_ne (fun z => by omega), sU_ne (fun z => by omega)]) hI.2.2.1, xr_u rfl (xr_u rfl (xr_u rfl hI.2.2.2))⟩
    unfold XI2
    rw [h2, h98, sU_at, xc_congr h55, xc_congr h55]
    exact ⟨hg, hh⟩
theorem xo_1 : qRok xr_1 := by
  intro ρ M h0 hf hm hI
  have f1 := hf [(1, 1), (-1, 3)] (by decide)
  have f2 := hf [(71, 0), (-1, 1)] (by decide)
  have f3 := hf [(1, 1)] (by decide)
  have f4 := hf [(1, 2)] (by decide)
  have f5 := hf [(41, 0), (-1, 2)] (by decide)
  simp only [qD, h0] at f1 f2 f3 f4 f5
  have m1 : M 54 2 = 1 * ρ 3 + 0 := hm (54, 2, [(1, 3)]) (by decide)
  refine ⟨ρ, fun _ _ => rfl, fun f h => (nomatch h), ?_⟩
  show sI (sU M 55 (1 * ρ 1 + 0).toNat (1 * ρ 2 + 0))
  refine ⟨si_u0 hI.1 (fun r hr => ?_), ?_⟩
  · have hlt : (1 * ρ 1 + 0).toNat < 72 := by omega
    have hr2 : sRg 55 (1 * ρ 1 + 0).toNat = some (0, 41) := by
      unfold sRg
      show cond (Nat.blt (1 * ρ 1 + 0).toNat 72) ((([some ((0 : Int), (41 : Int))] : List (Option (Int × Int)))[(1 * ρ 1 + 0).toNat % 1]?).getD none) none = _
      rw [show Nat.blt (1 * ρ 1 + 0).toNat 72 = true from Nat.ble_eq_true_of_le hlt, Nat.mod_one]
      rfl
    rw [hr2] at hr
    cases hr
    exact ⟨by show (0 : Int) ≤ _; omega, by show _ ≤ (41 : Int); omega⟩
  · refine ⟨?_, xi3_congr (fun o k _ ho => sU_ne (fun z => by omega)) hI.2.2.1, xr_u (sinc_ok rfl _) hI.2.2.2⟩
    have hx := hI.2.1
    unfold XI2 at hx ⊢
    have e1 : sU M 55 (1 * ρ 1 + 0).toNat (1 * ρ 2 + 0) 54 2 = M 54 2 := sU_ne (fun z => by omega)
    have e2 : sU M 55 (1 * ρ 1 + 0).toNat (1 * ρ 2 + 0) 54 998 = M 54 998 := sU_ne (fun z => by omega)
    have e3 : sU M 55 (1 * ρ 1 + 0).toNat (1 * ρ 2 + 0) 54 997 = M 54 997 := sU_ne (fun z => by omega)
    have hc : ∀ t : Nat, t ≤ (1 * ρ 1 + 0).toNat → xC (sU M 55 (1 * ρ 1 + 0).toNat (1 * ρ 2 + 0)) t = xC M t := fun t => xc_ge (fun k hk => sU_ne (fun z => by omega)) t
    rw [e1, e2, e3, hc _ (by omega), hc _ (by omega)]
    exact hx
theorem xr_push {M : sM} {t g w : Int} (hI : sI M) (m1 : M 54 2 = t) (m2 : M 54 998 = g) (m3 : M 55 t.toNat = w) (h0 : 0 ≤ t) (h1 : t ≤ 71) : sI (sU (sU (sU M 54 2 (1 + t)) 54 998 (g + (if w = 6 then 1 else 0))) 54 997 g) := by
  have hx := hI.2.1.1
  rw [m1, m2] at hx
  refine xr_top hI (by omega) (by omega) ?_ ?_
  · rw [show (1 + t).toNat = t.toNat + 1 by omega, xc_s, m3, ← hx]
  · rw [show (1 + t).toNat - 1 = t.toNat by omega]
    exact hx
theorem xo_2 : qRok xr_2 := by
  intro ρ M h0 hf hm hI
  have f1 := hf [(-6, 0), (1, 3)] (by decide)
  have f2 := hf [(6, 0), (-1, 3)] (by decide)
  have f3 := hf [(1, 1)] (by decide)
  have f4 := hf [(71, 0), (-1, 1)] (by decide)
  simp only [qD, h0] at f1 f2 f3 f4
  have m1 : M 54 2 = 1 * ρ 1 + 0 := hm (54, 2, [(1, 1)]) (by decide)
  have m2 : M 54 998 = 1 * ρ 2 + 0 := hm (54, 998, [(1, 2)]) (by decide)
  have m3 : M 55 (zIx ρ (1000 + 1)) = 1 * ρ 3 + 0 := hm (55, 1001, [(1, 3)]) (by decide)
  rw [zix_p] at m3
  refine ⟨ρ, fun _ _ => rfl, fun f h => (nomatch h), ?_⟩
  have := xr_push (t := ρ 1) (g := ρ 2) (w := ρ 3) hI (by omega) (by omega) (by omega) (by omega) (by omega)
  rw [if_pos (by omega)] at this
  show sI (sU (sU (sU M 54 (2 * ρ 0 + 0).toNat (1 * ρ 0 + (1 * ρ 1 + 0))) 54 998 (1 * ρ 0 + (1 * ρ 2 + 0))) 54 997 (1 * ρ 2 + 0))
  rw [show (2 * ρ 0 + 0 : Int).toNat = 2 by rw [h0]; rfl, h0, show (1 * 1 + (1 * ρ 1 + 0) : Int) = 1 + ρ 1 by omega, show (1 * 1 + (1 * ρ 2 + 0) : Int) = ρ 2 + 1 by omega, show (1 * ρ 2 + 0 : Int) = ρ 2 by omega]
  exact this
theorem xo_3 : qRok xr_3 := by
  intro ρ M h0 hf hm hI
  have f1 := hf [(-7, 0), (1, 3)] (by decide)
  have f3 := hf [(1, 1)] (by decide)
  have f4 := hf [(71, 0), (-1, 1)] (by decide)
  simp only [qD, h0] at f1 f3 f4
  have m1 : M 54 2 = 1 * ρ 1 + 0 := hm (54, 2, [(1, 1)]) (by decide)
  have m2 : M 54 998 = 1 * ρ 2 + 0 := hm (54, 998, [(1, 2)]) (by decide)
  have m3 : M 55 (zIx ρ (1000 + 1)) = 1 * ρ 3 + 0 := hm (55, 1001, [(1, 3)]) (by decide)
  rw [zix_p] at m3
  refine ⟨ρ, fun _ _ => rfl, fun f h => (nomatch h), ?_⟩
  have := xr_push (t := ρ 1) (g := ρ 2) (w := ρ 3) hI (by omega) (by omega) (by omega) (by omega) (by omega)
  rw [if_neg (by omega)] at this
  show sI (sU (sU (sU M 54 (2 * ρ 0 + 0).toNat (1 * ρ 0 + (1 * ρ 1 + 0))) 54 998 (1 * ρ 2 + 0)) 54 997 (1 * ρ 2 + 0))
  rw [show (2 * ρ 0 + 0 : Int).toNat = 2 by rw [h0]; rfl, h0, show (1 * 1 + (1 * ρ 1 + 0) : Int) = 1 + ρ 1 by omega, show (1 * ρ 2 + 0 : Int) = ρ 2 by omega]
  rw [show ρ 2 + 0 = ρ 2 by omega] at this
  exact this
theorem xo_4 : qRok xr_4 := by
  intro ρ M h0 hf hm hI
  have f1 := hf [(5, 0), (-1, 3)] (by decide)
  have f3 := hf [(1, 1)] (by decide)
  have f4 := hf [(71, 0), (-1, 1)] (by decide)
  simp only [qD, h0] at f1 f3 f4
  have m1 : M 54 2 = 1 * ρ 1 + 0 := hm (54, 2, [(1, 1)]) (by decide)
  have m2 : M 54 998 = 1 * ρ 2 + 0 := hm (54, 998, [(1, 2)]) (by decide)
  have m3 : M 55 (zIx ρ (1000 + 1)) = 1 * ρ 3 + 0 := hm (55, 1001, [(1, 3)]) (by decide)
  rw [zix_p] at m3
  refine ⟨ρ, fun _ _ => rfl, fun f h => (nomatch h), ?_⟩
  have := xr_push (t := ρ 1) (g := ρ 2) (w := ρ 3) hI (by omega) (by omega) (by omega) (by omega) (by omega)
  rw [if_neg (by omega)] at this
  show sI (sU (sU (sU M 54 (2 * ρ 0 + 0).toNat (1 * ρ 0 + (1 * ρ 1 + 0))) 54 998 (1 * ρ 2 + 0)) 54 997 (1 * ρ 2 + 0))
  rw [show (2 * ρ 0 + 0 : Int).toNat = 2 by rw [h0]; rfl, h0, show (1 * 1 + (1 * ρ 1 + 0) : Int) = 1 + ρ 1 by omega, show (1 * ρ 2 + 0 : Int) = ρ 2 by omega]
  rw [show ρ 2 + 0 = ρ 2 by omega] at this
  exact this
theorem xo_5 : qRok xr_5 := by
  intro ρ M h0 hf hm hI
  have f1 := hf [(-1, 0), (1, 1)] (by decide)
  have f2 := hf [(72, 0), (-1, 1)] (by decide)
  simp only [qD, h0] at f1 f2
  have m1 : M 54 2 = 1 * ρ 1 + 0 := hm (54, 2, [(1, 1)]) (by decide)
  have m2 : M 54 997 = 1 * ρ 2 + 0 := hm (54, 997, [(1, 2)]) (by decide)
  have hx := hI.2.1.2
  rw [m1, m2] at hx
  refine ⟨fun a => cond (Nat.blt a 3) (ρ a) (xC M ((ρ 1 - 1).toNat - 1)), fun a ha => ?_, fun f h => (nomatch h), ?_⟩
  · show cond (Nat.blt a 3) (ρ a) _ = ρ a
    rw [show Nat.blt a 3 = true from Nat.ble_eq_true_of_le ha]; rfl
  · show sI (sU (sU (sU M 54 (2 * ρ 0 + 0).toNat (-1 * ρ 0 + (1 * ρ 1 + 0))) 54 998 (1 * ρ 2 + 0)) 54 997 (1 * xC M ((ρ 1 - 1).toNat - 1) + 0))
    rw [show (2 * ρ 0 + 0 : Int).toNat = 2 by rw [h0]; rfl, h0, show (-1 * 1 + (1 * ρ 1 + 0) : Int) = ρ 1 - 1 by omega, show (1 * xC M ((ρ 1 - 1).toNat - 1) + 0 : Int) = xC M ((ρ 1 - 1).toNat - 1) by omega]
    refine xr_top hI (by omega) (by omega) ?_ rfl
    rw [hx]
    congr 1
    omega
theorem xo_6 : qRok xr_6 := by
  intro ρ M h0 hf hm hI
  refine ⟨ρ, fun _ _ => rfl, fun f h => (nomatch h), ?_⟩
  show sI (sU (sU (sU M 54 (2 * ρ 0 + 0).toNat 0) 54 998 0) 54 997 0)
  rw [show (2 * ρ 0 + 0 : Int).toNat = 2 by rw [h0]; rfl]
  exact xr_top (t := 0) (g := 0) (h := 0) hI (by omega) (by omega) rfl rfl
theorem xo_7 : qRok xr_7 := by
  intro ρ M h0 hf hm hI
  have f1 := hf [(1, 1)] (by decide)
  simp only [qD] at f1
  have m1 : M 54 2 = 1 * ρ 1 + 0 := hm (54, 2, [(1, 1)]) (by decide)
  have m2 : M 54 998 = 1 * ρ 2 + 0 := hm (54, 998, [(1, 2)]) (by decide)
  have hx := hI.2.1.1
  rw [m1, m2] at hx
  have hb := xc_b M (1 * ρ 1 + 0).toNat
  refine ⟨ρ, fun _ _ => rfl, fun f h => ?_, hI⟩
  rcases List.mem_cons.mp h with rfl | h
  · show 0 ≤ 1 * ρ 1 + (-1 * ρ 2 + 0)
    omega
  · rcases List.mem_cons.mp h with rfl | h
    · show 0 ≤ 1 * ρ 2 + 0
      omega
    · cases h
theorem xr_below {M : sM} (hI : sI M) (h1 : 1 ≤ M 54 2) : M 54 998 = M 54 997 + (if M 55 (M 54 2 - 1).toNat = 6 then 1 else 0) := by
  have ha := hI.2.1.1
  have hb := hI.2.1.2
  rw [show (M 54 2).toNat = ((M 54 2).toNat - 1) + 1 by omega, xc_s, ← hb, show (M 54 2).toNat - 1 = (M 54 2 - 1).toNat by omega] at ha
  exact ha
theorem xo_8 : qRok xr_8 := by
  intro ρ M h0 hf hm hI
  have f1 := hf [(-1, 0), (1, 1), (-1, 4)] (by decide)
  have f2 := hf [(1, 0), (-1, 1), (1, 4)] (by decide)
  have f3 := hf [(-1, 0), (1, 1)] (by decide)
  have f4 := hf [(-7, 0), (1, 5)] (by decide)
  simp only [qD, h0] at f1 f2 f3 f4
  have m1 : M 54 2 = 1 * ρ 1 + 0 := hm (54, 2, [(1, 1)]) (by decide)
  have m2 : M 54 998 = 1 * ρ 2 + 0 := hm (54, 998, [(1, 2)]) (by decide)
  have m3 : M 54 997 = 1 * ρ 3 + 0 := hm (54, 997, [(1, 3)]) (by decide)
  have m4 : M 55 (zIx ρ (1000 + 4)) = 1 * ρ 5 + 0 := hm (55, 1004, [(1, 5)]) (by decide)
  rw [zix_p] at m4
  have hx := xr_below hI (by omega)
  rw [show (M 54 2 - 1).toNat = (ρ 4).toNat by omega, m4, if_neg (by omega)] at hx
  refine ⟨ρ, fun _ _ => rfl, fun f h => ?_, hI⟩
  rcases List.mem_cons.mp h with rfl | h
  · show 0 ≤ 1 * ρ 2 + (-1 * ρ 3 + 0)
    omega
  · rcases List.mem_cons.mp h with rfl | h
    · show 0 ≤ -1 * ρ 2 + (1 * ρ 3 + 0)
      omega
    · cases h
theorem xo_9 : qRok xr_9 := by
  intro ρ M h0 hf hm hI
  have f1 := hf [(-1, 0), (1, 1), (-1, 4)] (by decide)
  have f2 := hf [(1, 0), (-1, 1), (1, 4)] (by decide)
  have f3 := hf [(-1, 0), (1, 1)] (by decide)
  have f4 := hf [(5, 0), (-1, 5)] (by decide)
  simp only [qD, h0] at f1 f2 f3 f4
  have m1 : M 54 2 = 1 * ρ 1 + 0 := hm (54, 2, [(1, 1)]) (by decide)
  have m2 : M 54 998 = 1 * ρ 2 + 0 := hm (54, 998, [(1, 2)]) (by decide)
  have m3 : M 54 997 = 1 * ρ 3 + 0 := hm (54, 997, [(1, 3)]) (by decide)
  have m4 : M 55 (zIx ρ (1000 + 4)) = 1 * ρ 5 + 0 := hm (55, 1004, [(1, 5)]) (by decide)
  rw [zix_p] at m4
  have hx := xr_below hI (by omega)
  rw [show (M 54 2 - 1).toNat = (ρ 4).toNat by omega, m4, if_neg (by omega)] at hx
  refine ⟨ρ, fun _ _ => rfl, fun f h => ?_, hI⟩
  rcases List.mem_cons.mp h with rfl | h
  · show 0 ≤ 1 * ρ 2 + (-1 * ρ 3 + 0)
    omega
  · rcases List.mem_cons.mp h with rfl | h
    · show 0 ≤ -1 * ρ 2 + (1 * ρ 3 + 0)
      omega
    · cases h
theorem xo_10 : qRok xr_10 := by
  intro ρ M h0 hf hm hI
  have f3 := hf [(-1, 0), (1, 1)] (by decide)
  simp only [qD, h0] at f3
  have m1 : M 54 2 = 1 * ρ 1 + 0 := hm (54, 2, [(1, 1)]) (by decide)
  have m2 : M 54 998 = 1 * ρ 2 + 0 := hm (54, 998, [(1, 2)]) (by decide)
  have m3 : M 54 997 = 1 * ρ 3 + 0 := hm (54, 997, [(1, 3)]) (by decide)
  have hx := xr_below hI (by omega)
  have hi : (0 : Int) ≤ (if M 55 (M 54 2 - 1).toNat = 6 then 1 else 0) ∧ (if M 55 (M 54 2 - 1).toNat = 6 then 1 else 0) ≤ (1 : Int) := by split <;> omega
  refine ⟨ρ, fun _ _ => rfl, fun f h => ?_, hI⟩
  rcases List.mem_cons.mp h with rfl | h
  · show 0 ≤ 1 * ρ 2 + (-1 * ρ 3 + 0)
    omega
  · rcases List.mem_cons.mp h with rfl | h
    · show 0 ≤ 1 * ρ 0 + (-1 * ρ 2 + (1 * ρ 3 + 0))
      omega
    · cases h
def xr_11 : qRu := (3, [[(1, 1)], [(71, 0), (-1, 1)]], [(54, 2, [(1, 1)]), (54, 998, [(1, 2)])], [(54, [(2, 0)], [(1, 0), (1, 1)])], [(54, 998, [(1, 3)]), (54, 997, [(1, 2)])], [[(-1, 2), (1, 3)], [(1, 0), (1, 2), (-1, 3)]])
theorem xo_11 : qRok xr_11 := by
  intro ρ M h0 hf hm hI
  have f3 := hf [(1, 1)] (by decide)
  have f4 := hf [(71, 0), (-1, 1)] (by decide)
  simp only [qD, h0] at f3 f4
  have m1 : M 54 2 = 1 * ρ 1 + 0 := hm (54, 2, [(1, 1)]) (by decide)
  have m2 : M 54 998 = 1 * ρ 2 + 0 := hm (54, 998, [(1, 2)]) (by decide)
  have hp := xr_push (t := ρ 1) (g := ρ 2) (w := M 55 (ρ 1).toNat) hI (by omega) (by omega) rfl (by omega) (by omega)
  generalize hgv : ρ 2 + (if M 55 (ρ 1).toNat = 6 then 1 else 0) = gv at hp
  have hb : ρ 2 ≤ gv ∧ gv ≤ ρ 2 + 1 := by rw [← hgv]; split <;> omega
  refine ⟨fun a => cond (Nat.blt a 3) (ρ a) gv, fun a ha => ?_, fun f h => ?_, ?_⟩
  · show cond (Nat.blt a 3) (ρ a) _ = ρ a
    rw [show Nat.blt a 3 = true from Nat.ble_eq_true_of_le ha]; rfl
  · rcases List.mem_cons.mp h with rfl | h
    · show 0 ≤ -1 * ρ 2 + (1 * gv + 0)
      omega
    · rcases List.mem_cons.mp h with rfl | h
      · show 0 ≤ 1 * ρ 0 + (1 * ρ 2 + (-1 * gv + 0))
        omega
      · cases h
  · show sI (sU (sU (sU M 54 (2 * ρ 0 + 0).toNat (1 * ρ 0 + (1 * ρ 1 + 0))) 54 998 (1 * gv + 0)) 54 997 (1 * ρ 2 + 0))
    rw [show (2 * ρ 0 + 0 : Int).toNat = 2 by rw [h0]; rfl, h0, show (1 * 1 + (1 * ρ 1 + 0) : Int) = 1 + ρ 1 by omega, show (1 * gv + 0 : Int) = gv by omega, show (1 * ρ 2 + 0 : Int) = ρ 2 by omega]
    exact hp
def xr_12 : qRu := (2, [[(1, 1)], [(700, 0), (-1, 1)]], [], [(91, [(27, 0)], [(1, 1)])], [(91, 990, [(1, 2)])], [])
def xr_13 : qRu := (2, [[(1, 1)], [(700, 0), (-1, 1)]], [], [(91, [(26, 0)], [(1, 1)])], [(91, 990, [(1, 2)])], [])
def xr_14 : qRu := (3, [[(1, 1)], [(699, 0), (-1, 1)], [(1, 2)], [(255, 0), (-1, 2)]], [], [(92, [(1, 1)], [(1, 2)])], [(91, 990, [(1, 3)])], [])
def xr_15 : qRu := (5, [[(-1, 0), (-1, 1), (1, 2)], [(1, 1)]], [(91, 27, [(1, 1)]), (91, 26, [(1, 2)]), (92, 1001, [(1, 3)]), (91, 990, [(1, 4)])], [], [], [[(-1, 3), (1, 4)], [(1, 3), (-1, 4)]])
def xr_16 : qRu := (4, [[(1, 1), (-1, 2)]], [(91, 27, [(1, 1)]), (91, 26, [(1, 2)]), (91, 990, [(1, 3)])], [], [], [[(1, 0), (1, 3)], [(-1, 0), (-1, 3)]])
/-- whatever is written on the reference's side, the byte that is looked at gets a new name -/
theorem xr_byte {M : sM} {o k : Nat} {v : Int} (hI : sI M) (ho : 60 ≤ o) (hz : sIn zR o k = false) (hg : ¬ (o = 91 ∧ k = 990)) (hr : ∀ r, sRg o k = some r → r.1 ≤ v ∧ v ≤ r.2) : sI (sU (sU M o k v) 91 990 (xH (sU M o k v))) := by
  refine ⟨si_u0 (si_u0 hI.1 hr) (fun r hr => by cases hr), xi2_congr (fun o' k' _ ho' => by rw [sU_ne (fun z => by omega), sU_ne (fun z => by omega)]) hI.2.1, ?_, xr_u rfl (xr_u hz hI.2.2.2)⟩
  unfold XI3
  rw [sU_at]
  have e : ∀ o' k' x, ¬ (o' = 91 ∧ k' = 990) → sU (sU M o k v) 91 990 x o' k' = sU M o k v o' k' := fun o' k' x h => sU_ne h
  unfold xH
  rw [e _ _ _ (by omega), e _ _ _ (by omega), e _ _ _ (by omega)]
theorem xo_12 : qRok xr_12 := by
  intro ρ M h0 hf hm hI
  have f1 := hf [(1, 1)] (by decide)
  have f2 := hf [(700, 0), (-1, 1)] (by decide)
  simp only [qD, h0] at f1 f2
  refine ⟨fun a => cond (Nat.blt a 2) (ρ a) (xH (sU M 91 27 (1 * ρ 1 + 0))), fun a ha => ?_, fun f h => (nomatch h), ?_⟩
  · show cond (Nat.blt a 2) (ρ a) _ = ρ a
    rw [show Nat.blt a 2 = true from Nat.ble_eq_true_of_le ha]; rfl
  · show sI (sU (sU M 91 (27 * ρ 0 + 0).toNat (1 * ρ 1 + 0)) 91 990 (1 * xH (sU M 91 27 (1 * ρ 1 + 0)) + 0))
    rw [show (27 * ρ 0 + 0 : Int).toNat = 27 by rw [h0]; rfl, show (1 * xH (sU M 91 27 (1 * ρ 1 + 0)) + 0 : Int) = xH (sU M 91 27 (1 * ρ 1 + 0)) by omega]
    refine xr_byte hI (by omega) rfl (by omega) (fun r hr => ?_)
    have hr : some ((0 : Int), (700 : Int)) = some r := hr
    cases hr
    exact ⟨by show (0 : Int) ≤ _; omega, by show _ ≤ (700 : Int); omega⟩
theorem xo_13 : qRok xr_13 := by
  intro ρ M h0 hf hm hI
  have f1 := hf [(1, 1)] (by decide)
  have f2 := hf [(700, 0), (-1, 1)] (by decide)
  simp only [qD, h0] at f1 f2
  refine ⟨fun a => cond (Nat.blt a 2) (ρ a) (xH (sU M 91 26 (1 * ρ 1 + 0))), fun a ha => ?_, fun f h => (nomatch h), ?_⟩
  · show cond (Nat.blt a 2) (ρ a) _ = ρ a
    rw [show Nat.blt a 2 = true from Nat.ble_eq_true_of_le ha]; rfl
  · show sI (sU (sU M 91 (26 * ρ 0 + 0).toNat (1 * ρ 1 + 0)) 91 990 (1 * xH (sU M 91 26 (1 * ρ 1 + 0)) + 0))
    rw [show (26 * ρ 0 + 0 : Int).toNat = 26 by rw [h0]; rfl, show (1 * xH (sU M 91 26 (1 * ρ 1 + 0)) + 0 : Int) = xH (sU M 91 26 (1 * ρ 1 + 0)) by omega]
    refine xr_byte hI (by omega) rfl (by omega) (fun r hr => ?_)
    have hr : some ((0 : Int), (700 : Int)) = some r := hr
    cases hr
    exact ⟨by show (0 : Int) ≤ _; omega, by show _ ≤ (700 : Int); omega⟩
theorem xo_14 : qRok xr_14 := by
  intro ρ M h0 hf hm hI
  have f1 := hf [(1, 1)] (by decide)
  have f2 := hf [(699, 0), (-1, 1)] (by decide)
  have f3 := hf [(1, 2)] (by decide)
  have f4 := hf [(255, 0), (-1, 2)] (by decide)
  simp only [qD, h0] at f1 f2 f3 f4
  refine ⟨fun a => cond (Nat.blt a 3) (ρ a) (xH (sU M 92 (1 * ρ 1 + 0).toNat (1 * ρ 2 + 0))), fun a ha => ?_, fun f h => (nomatch h), ?_⟩
  · show cond (Nat.blt a 3) (ρ a) _ = ρ a
    rw [show Nat.blt a 3 = true from Nat.ble_eq_true_of_le ha]; rfl
  · show sI (sU (sU M 92 (1 * ρ 1 + 0).toNat (1 * ρ 2 + 0)) 91 990 (1 * xH (sU M 92 (1 * ρ 1 + 0).toNat (1 * ρ 2 + 0)) + 0))
    rw [show (1 * xH (sU M 92 (1 * ρ 1 + 0).toNat (1 * ρ 2 + 0)) + 0 : Int) = xH (sU M 92 (1 * ρ 1 + 0).toNat (1 * ρ 2 + 0)) by omega]
    refine xr_byte hI (by omega) (sinc_ok rfl _) (by omega) (fun r hr => ?_)
    have hlt : (1 * ρ 1 + 0).toNat < 700 := by omega
    have hr2 : sRg 92 (1 * ρ 1 + 0).toNat = some (0, 255) := by
      unfold sRg
      show cond (Nat.blt (1 * ρ 1 + 0).toNat 700) ((([some ((0 : Int), (255 : Int))] : List (Option (Int × Int)))[(1 * ρ 1 + 0).toNat % 1]?).getD none) none = _
      rw [show Nat.blt (1 * ρ 1 + 0).toNat 700 = true from Nat.ble_eq_true_of_le hlt, Nat.mod_one]
      rfl
    rw [hr2] at hr
    cases hr
    exact ⟨by show (0 : Int) ≤ _; omega, by show _ ≤ (255 : Int); omega⟩
theorem xo_15 : qRok xr_15 := by
  intro ρ M h0 hf hm hI
  have f1 := hf [(-1, 0), (-1, 1), (1, 2)] (by decide)
  have f2 := hf [(1, 1)] (by decide)
  simp only [qD, h0] at f1 f2
  have m1 : M 91 27 = 1 * ρ 1 + 0 := hm (91, 27, [(1, 1)]) (by decide)
  have m2 : M 91 26 = 1 * ρ 2 + 0 := hm (91, 26, [(1, 2)]) (by decide)
  have m3 : M 92 (zIx ρ (1000 + 1)) = 1 * ρ 3 + 0 := hm (92, 1001, [(1, 3)]) (by decide)
  have m4 : M 91 990 = 1 * ρ 4 + 0 := hm (91, 990, [(1, 4)]) (by decide)
  rw [zix_p] at m3
  have hx : M 91 990 = xH M := hI.2.2.1
  unfold xH at hx
  rw [if_pos (by omega), show (M 91 27).toNat = (ρ 1).toNat by omega, m3] at hx
  refine ⟨ρ, fun _ _ => rfl, fun f h => ?_, hI⟩
  rcases List.mem_cons.mp h with rfl | h
  · show 0 ≤ -1 * ρ 3 + (1 * ρ 4 + 0)
    omega
  · rcases List.mem_cons.mp h with rfl | h
    · show 0 ≤ 1 * ρ 3 + (-1 * ρ 4 + 0)
      omega
    · cases h
theorem xo_16 : qRok xr_16 := by
  intro ρ M h0 hf hm hI
  have f1 := hf [(1, 1), (-1, 2)] (by decide)
  simp only [qD] at f1
  have m1 : M 91 27 = 1 * ρ 1 + 0 := hm (91, 27, [(1, 1)]) (by decide)
  have m2 : M 91 26 = 1 * ρ 2 + 0 := hm (91, 26, [(1, 2)]) (by decide)
  have m4 : M 91 990 = 1 * ρ 3 + 0 := hm (91, 990, [(1, 3)]) (by decide)
  have hx : M 91 990 = xH M := hI.2.2.1
  unfold xH at hx
  rw [if_neg (by omega)] at hx
  refine ⟨ρ, fun _ _ => rfl, fun f h => ?_, hI⟩
  rcases List.mem_cons.mp h with rfl | h
  · show 0 ≤ 1 * ρ 0 + (1 * ρ 3 + 0)
    omega
  · rcases List.mem_cons.mp h with rfl | h
    · show 0 ≤ -1 * ρ 0 + (-1 * ρ 3 + 0)
      omega
    · cases h

/-! THE CARTS AND THE LAWS (wip/p2/rules.py). -/
theorem xi2_u {M : sM} {o k : Nat} {v : Int} (hp : sIn zPl0 o k = false) (h : XI2 M) : XI2 (sU M o k v) := xi2_congr (fun o' k' h' _ => sU_ne (fun z => by rw [z.1, z.2, hp] at h'; cases h')) h
theorem xi3_u {M : sM} {o k : Nat} {v : Int} (hp : sIn zPl0 o k = false) (h : XI3 M) : XI3 (sU M o k v) := xi3_congr (fun o' k' h' _ => sU_ne (fun z => by rw [z.1, z.2, hp] at h'; cases h')) h
theorem x10 (a : Int) : 1 * a + 0 = a := by omega
theorem dp_s (M : sM) (f n : Nat) : xkD M f (n + 1) = xkD M f n + xkE (M 110 (f + n)) (M 111 (f + n)) := rfl
theorem dp_shift {M M' : sM} {f f' : Nat} : ∀ {n : Nat}, (∀ j, j < n → M' 110 (f' + j) = M 110 (f + j) ∧ M' 111 (f' + j) = M 111 (f + j)) → xkD M' f' n = xkD M f n
  | 0, _ => rfl
  | n + 1, h => by
    have h1 := h n (by omega)
    rw [dp_s, dp_s, dp_shift (fun k h2 => h k (by omega)), h1.1, h1.2]
theorem ol_shift {M M' : sM} {f f' n : Nat} (h : ∀ j, j < n → M' 110 (f' + j) = M 110 (f + j) ∧ M' 111 (f' + j) = M 111 (f + j)) (ho : xkO M f n) : xkO M' f' n := by
  intro j hj
  have h1 := h j hj
  rw [h1.1, h1.2, dp_shift (fun k h2 => h k (by omega))]
  exact ho j hj
theorem xz1_of {M M' : sM} (h1 : M' 91 970 = M 91 970) (h2 : M' 91 971 = M 91 971) (h3 : M' 93 17 = M 93 17) (h : ∀ k : Nat, 64 ≤ k → (k : Int) < 64 + M 93 17 → M' 110 k = M 110 k ∧ M' 111 k = M 111 k) (hx : xZ1 M) : xZ1 M' := by
  obtain ⟨a, b, c, d⟩ := hx
  unfold xZ1
  rw [h1, h2, h3]
  have hc : ∀ k, 64 + (M 91 970).toNat ≤ k → k < 64 + (M 91 970).toNat + ((M 93 17).toNat - (M 91 970).toNat) → M' 110 k = M 110 k ∧ M' 111 k = M 111 k := fun k u v => h k (by omega) (by omega)
  exact ⟨a, b, ol_congr hc c, by rw [dp_congr hc]; exact d⟩
theorem xz3_of {M M' : sM} (h1 : M' 91 974 = M 91 974) (h2 : M 93 17 ≤ M' 93 17) (h3 : ∀ k : Nat, 2 ≤ k → k < 4 → M' 108 k = M 108 k ∧ M' 109 k = M 109 k) (h : ∀ k : Nat, 64 ≤ k → (k : Int) < 64 + M 93 17 → M' 110 k = M 110 k ∧ M' 111 k = M 111 k) (hx : xZ3 M) : xZ3 M' := by
  intro a k b c
  rw [h1] at a
  obtain ⟨p, q⟩ := hx a k b c
  rw [(h3 k b c).1, (h3 k b c).2]
  exact ⟨by omega, ol_congr (fun j u v => h j (by omega) (by omega)) q⟩
theorem xt_r {o len : Nat} {r0 r : Int × Int} (h1 : sRl[o]? = some (len, 1, [some r0])) {k : Nat} (h : sRg o k = some r) : r = r0 := by
  unfold sRg at h
  rw [h1] at h
  have h : cond (Nat.blt k len) ((([some r0] : List (Option (Int × Int)))[k % 1]?).getD none) none = some r := h
  rw [Nat.mod_one] at h
  cases hb : Nat.blt k len with
  | false => rw [hb] at h; cases h
  | true => rw [hb] at h; cases h; rfl
theorem xs_r {o len : Nat} {r0 : Int × Int} (h1 : sRl[o]? = some (len, 1, [some r0])) {k : Nat} (hk : k < len) : sRg o k = some r0 := by
  unfold sRg
  rw [h1]
  show cond (Nat.blt k len) ((([some r0] : List (Option (Int × Int)))[k % 1]?).getD none) none = some r0
  rw [show Nat.blt k len = true from Nat.ble_eq_true_of_le hk, Nat.mod_one]
  rfl
theorem xt_108 {k : Nat} {r : Int × Int} (h : sRg 108 k = some r) : r = (0, 64) := xt_r (len := 4) rfl h
theorem xs_108 {k : Nat} (h : k < 4) : sRg 108 k = some (0, 64) := xs_r (len := 4) rfl h
theorem xt_109 {k : Nat} {r : Int × Int} (h : sRg 109 k = some r) : r = (0, 64) := xt_r (len := 4) rfl h
theorem xs_109 {k : Nat} (h : k < 4) : sRg 109 k = some (0, 64) := xs_r (len := 4) rfl h
theorem xt_110 {k : Nat} {r : Int × Int} (h : sRg 110 k = some r) : r = (0, 2) := xt_r (len := 128) rfl h
theorem xs_110 {k : Nat} (h : k < 128) : sRg 110 k = some (0, 2) := xs_r (len := 128) rfl h
theorem xt_111 {k : Nat} {r : Int × Int} (h : sRg 111 k = some r) : r = (-2147483648, 2147483647) := xt_r (len := 128) rfl h
theorem xs_111 {k : Nat} (h : k < 128) : sRg 111 k = some (-2147483648, 2147483647) := xs_r (len := 128) rfl h
theorem xt_113 {k : Nat} {r : Int × Int} (h : sRg 113 k = some r) : r = (0, 8) := xt_r (len := 23) rfl h
theorem xs_113 {k : Nat} (h : k < 23) : sRg 113 k = some (0, 8) := xs_r (len := 23) rfl h
theorem xt_114 {k : Nat} {r : Int × Int} (h : sRg 114 k = some r) : r = (0, 3) := xt_r (len := 23) rfl h
theorem xs_114 {k : Nat} (h : k < 23) : sRg 114 k = some (0, 3) := xs_r (len := 23) rfl h

theorem xz4_of {M M' : sM} (h0 : sI0 M) (h1 : M' 91 975 = M 91 975) (h3 : ∀ k : Nat, k < 2 → M' 108 k = M 108 k ∧ M' 109 k = M 109 k) (h : ∀ k : Nat, k < 64 → M' 110 k = M 110 k ∧ M' 111 k = M 111 k) (hx : xZ4 M) : xZ4 M' := by
  intro a k b
  rw [h1] at a
  have q := hx a k b
  have h9 : (0 : Int) ≤ M 109 k ∧ M 109 k ≤ 64 := h0 109 k (0, 64) (xs_109 (by omega))
  rw [(h3 k b).1, (h3 k b).2]
  exact ol_congr (fun j u v => h j (by omega)) q
-- w113
def xr_17 : qRu := (4, [[(1, 1)], [(22, 0), (-1, 1)], [(1, 2)], [(8, 0), (-1, 2)], [(1, 1), (-1, 3)], [(-1, 1), (1, 3)]], [(91, 992, [(1, 3)])], [(113, [(1, 1)], [(1, 2)])], [], [])
theorem xo_17 : qRok xr_17 := by
  intro ρ M h0 hf hm hI
  have f0 := hf [(1, 1)] (by decide)
  have f1 := hf [(22, 0), (-1, 1)] (by decide)
  have f2 := hf [(1, 2)] (by decide)
  have f3 := hf [(8, 0), (-1, 2)] (by decide)
  have f4 := hf [(1, 1), (-1, 3)] (by decide)
  have f5 := hf [(-1, 1), (1, 3)] (by decide)
  simp only [qD, h0] at f0 f1 f2 f3 f4 f5
  have m0 : M 91 992 = 1 * ρ 3 + 0 := hm (91, 992, [(1, 3)]) (by decide)
  have qxY2 := hI.2.2.2.2.1
  have qxY3 := hI.2.2.2.2.2.1
  refine ⟨ρ, fun _ _ => rfl, fun f h => ?_, ?_⟩
  · exact nomatch h
  · show sI (sU M 113 (1 * ρ 1 + 0 : Int).toNat (1 * ρ 2 + 0))
    obtain ⟨W, hW⟩ : ∃ W, W = (sU M 113 (1 * ρ 1 + 0).toNat (1 * ρ 2 + 0)) := ⟨_, rfl⟩
    rw [← hW]
    have base : sI0 W := by
      rw [hW]
      exact (si_u0 hI.1 (fun r hr => by rw [xt_113 hr]; exact ⟨by show (0 : Int) ≤ _; omega, by show _ ≤ (8 : Int); omega⟩))
    have k2 : XI2 W := by
      rw [hW]
      exact (xi2_u (sinc_ok rfl _) hI.2.1)
    have k3 : XI3 W := by
      rw [hW]
      exact (xi3_u (sinc_ok rfl _) hI.2.2.1)
    have k_xY1 : xY1 W := by
      rw [hW]
      exact (uxY1 (sinc_ok rfl _) hI.2.2.2.1)
    have k_xY2 : xY2 W := by
      have r91_991 : W 91 991 = M 91 991 := by rw [hW, sU_ne (fun z => by omega)]
      have r91_992 : W 91 992 = M 91 992 := by rw [hW, sU_ne (fun z => by omega)]
      have r91_984 : W 91 984 = M 91 984 := by rw [hW, sU_ne (fun z => by omega)]
      have r91_993 : W 91 993 = M 91 993 := by rw [hW, sU_ne (fun z => by omega)]
      have r91_45 : W 91 45 = M 91 45 := by rw [hW, sU_ne (fun z => by omega)]
      have r91_46 : W 91 46 = M 91 46 := by rw [hW, sU_ne (fun z => by omega)]
      have c113 : ∀ k : Nat, k ≠ (1 * ρ 1 + 0).toNat → W 113 k = M 113 k := fun k hk => by rw [hW, sU_ne (fun z => by omega)]
      have a113 : W 113 (1 * ρ 1 + 0).toNat = 1 * ρ 2 + 0 := by rw [hW, sU_at]
      have c114 : ∀ k, W 114 k = M 114 k := fun k => by rw [hW, sU_ne (fun z => by omega)]
      intro h1 i hi hv hx
      unfold xV at hv
      unfold xB
      rw [r91_991] at h1
      rw [r91_992] at hx
      rw [r91_45, r91_46, r91_984] at hv
      have h2 := qxY2 (by omega) i hi (by unfold xV; omega) (by omega)
      unfold xB at h2
      rw [c113 i (by omega), c114 i, r91_993]
      exact h2
    have k_xY3 : xY3 W := by
      have r91_984 : W 91 984 = M 91 984 := by rw [hW, sU_ne (fun z => by omega)]
      have r91_985 : W 91 985 = M 91 985 := by rw [hW, sU_ne (fun z => by omega)]
      have r91_986 : W 91 986 = M 91 986 := by rw [hW, sU_ne (fun z => by omega)]
      have r91_992 : W 91 992 = M 91 992 := by rw [hW, sU_ne (fun z => by omega)]
      have c113 : ∀ k : Nat, k ≠ (1 * ρ 1 + 0).toNat → W 113 k = M 113 k := fun k hk => by rw [hW, sU_ne (fun z => by omega)]
      have a113 : W 113 (1 * ρ 1 + 0).toNat = 1 * ρ 2 + 0 := by rw [hW, sU_at]
      have c114 : ∀ k, W 114 k = M 114 k := fun k => by rw [hW, sU_ne (fun z => by omega)]
      intro i hi he hx
      rw [r91_984] at he
      rw [r91_992] at hx
      rw [r91_985, r91_986]
      rw [c113 i (by omega), c114 i]
      exact qxY3 i hi he hx
    have k_xZ1 : xZ1 W := by
      rw [hW]
      exact (uxZ1 (sinc_ok rfl _) hI.2.2.2.2.2.2.1)
    have k_xZ2 : xZ2 W := by
      rw [hW]
      exact (uxZ2 (sinc_ok rfl _) hI.2.2.2.2.2.2.2.1)
    have k_xZ3 : xZ3 W := by
      rw [hW]
      exact (uxZ3 (sinc_ok rfl _) hI.2.2.2.2.2.2.2.2.1)
    have k_xZ4 : xZ4 W := by
      rw [hW]
      exact (uxZ4 (sinc_ok rfl _) hI.2.2.2.2.2.2.2.2.2.1)
    have k_xZ5 : xZ5 W := by
      rw [hW]
      exact (uxZ5 (sinc_ok rfl _) hI.2.2.2.2.2.2.2.2.2.2.1)
    have k_xZ6 : xZ6 W := by
      rw [hW]
      exact (uxZ6 (sinc_ok rfl _) hI.2.2.2.2.2.2.2.2.2.2.2.1)
    have k_xZ7 : xZ7 W := by
      rw [hW]
      exact (uxZ7 (sinc_ok rfl _) hI.2.2.2.2.2.2.2.2.2.2.2.2.1)
    have k_xZ8 : xZ8 W := by
      rw [hW]
      exact (uxZ8 (sinc_ok rfl _) hI.2.2.2.2.2.2.2.2.2.2.2.2.2.1)
    have k_xZ9 : xZ9 W := by
      rw [hW]
      exact (uxZ9 (sinc_ok rfl _) hI.2.2.2.2.2.2.2.2.2.2.2.2.2.2.1)
    have k_xZa : xZa W := by
      rw [hW]
      exact (uxZa (sinc_ok rfl _) hI.2.2.2.2.2.2.2.2.2.2.2.2.2.2.2.1)
    have k_xZb : xZb W := by
      rw [hW]
      exact (uxZb (sinc_ok rfl _) hI.2.2.2.2.2.2.2.2.2.2.2.2.2.2.2.2.1)
    have k_xT1 : xT1 W := by
      rw [hW]
      exact (uxT1 (sinc_ok rfl _) hI.2.2.2.2.2.2.2.2.2.2.2.2.2.2.2.2.2)
    exact ⟨base, k2, k3, k_xY1, k_xY2, k_xY3, k_xZ1, k_xZ2, k_xZ3, k_xZ4, k_xZ5, k_xZ6, k_xZ7, k_xZ8, k_xZ9, k_xZa, k_xZb, k_xT1⟩
-- w114
def xr_18 : qRu := (4, [[(1, 1)], [(22, 0), (-1, 1)], [(1, 2)], [(3, 0), (-1, 2)], [(1, 1), (-1, 3)], [(-1, 1), (1, 3)]], [(91, 992, [(1, 3)])], [(114, [(1, 1)], [(1, 2)])], [], [])
theorem xo_18 : qRok xr_18 := by
  intro ρ M h0 hf hm hI
  have f0 := hf [(1, 1)] (by decide)
  have f1 := hf [(22, 0), (-1, 1)] (by decide)
  have f2 := hf [(1, 2)] (by decide)
  have f3 := hf [(3, 0), (-1, 2)] (by decide)
  have f4 := hf [(1, 1), (-1, 3)] (by decide)
  have f5 := hf [(-1, 1), (1, 3)] (by decide)
  simp only [qD, h0] at f0 f1 f2 f3 f4 f5
  have m0 : M 91 992 = 1 * ρ 3 + 0 := hm (91, 992, [(1, 3)]) (by decide)
  have qxY2 := hI.2.2.2.2.1
  have qxY3 := hI.2.2.2.2.2.1
  refine ⟨ρ, fun _ _ => rfl, fun f h => ?_, ?_⟩
  · exact nomatch h
  · show sI (sU M 114 (1 * ρ 1 + 0 : Int).toNat (1 * ρ 2 + 0))
    obtain ⟨W, hW⟩ : ∃ W, W = (sU M 114 (1 * ρ 1 + 0).toNat (1 * ρ 2 + 0)) := ⟨_, rfl⟩
    rw [← hW]
    have base : sI0 W := by
      rw [hW]
      exact (si_u0 hI.1 (fun r hr => by rw [xt_114 hr]; exact ⟨by show (0 : Int) ≤ _; omega, by show _ ≤ (3 : Int); omega⟩))
    have k2 : XI2 W := by
      rw [hW]
      exact (xi2_u (sinc_ok rfl _) hI.2.1)
    have k3 : XI3 W := by
      rw [hW]
      exact (xi3_u (sinc_ok rfl _) hI.2.2.1)
    have k_xY1 : xY1 W := by
      rw [hW]
      exact (uxY1 (sinc_ok rfl _) hI.2.2.2.1)
    have k_xY2 : xY2 W := by
      have r91_991 : W 91 991 = M 91 991 := by rw [hW, sU_ne (fun z => by omega)]
      have r91_992 : W 91 992 = M 91 992 := by rw [hW, sU_ne (fun z => by omega)]
      have r91_984 : W 91 984 = M 91 984 := by rw [hW, sU_ne (fun z => by omega)]
      have r91_993 : W 91 993 = M 91 993 := by rw [hW, sU_ne (fun z => by omega)]
      have r91_45 : W 91 45 = M 91 45 := by rw [hW, sU_ne (fun z => by omega)]
      have r91_46 : W 91 46 = M 91 46 := by rw [hW, sU_ne (fun z => by omega)]
      have c113 : ∀ k, W 113 k = M 113 k := fun k => by rw [hW, sU_ne (fun z => by omega)]
      have c114 : ∀ k : Nat, k ≠ (1 * ρ 1 + 0).toNat → W 114 k = M 114 k := fun k hk => by rw [hW, sU_ne (fun z => by omega)]
      have a114 : W 114 (1 * ρ 1 + 0).toNat = 1 * ρ 2 + 0 := by rw [hW, sU_at]
      intro h1 i hi hv hx
      unfold xV at hv
      unfold xB
      rw [r91_991] at h1
      rw [r91_992] at hx
      rw [r91_45, r91_46, r91_984] at hv
      have h2 := qxY2 (by omega) i hi (by unfold xV; omega) (by omega)
      unfold xB at h2
      rw [c114 i (by omega), c113 i, r91_993]
      exact h2
    have k_xY3 : xY3 W := by
      have r91_984 : W 91 984 = M 91 984 := by rw [hW, sU_ne (fun z => by omega)]
      have r91_985 : W 91 985 = M 91 985 := by rw [hW, sU_ne (fun z => by omega)]
      have r91_986 : W 91 986 = M 91 986 := by rw [hW, sU_ne (fun z => by omega)]
      have r91_992 : W 91 992 = M 91 992 := by rw [hW, sU_ne (fun z => by omega)]
      have c113 : ∀ k, W 113 k = M 113 k := fun k => by rw [hW, sU_ne (fun z => by omega)]
      have c114 : ∀ k : Nat, k ≠ (1 * ρ 1 + 0).toNat → W 114 k = M 114 k := fun k hk => by rw [hW, sU_ne (fun z => by omega)]
      have a114 : W 114 (1 * ρ 1 + 0).toNat = 1 * ρ 2 + 0 := by rw [hW, sU_at]
      intro i hi he hx
      rw [r91_984] at he
      rw [r91_992] at hx
      rw [r91_985, r91_986]
      rw [c114 i (by omega), c113 i]
      exact qxY3 i hi he hx
    have k_xZ1 : xZ1 W := by
      rw [hW]
      exact (uxZ1 (sinc_ok rfl _) hI.2.2.2.2.2.2.1)
    have k_xZ2 : xZ2 W := by
      rw [hW]
      exact (uxZ2 (sinc_ok rfl _) hI.2.2.2.2.2.2.2.1)
    have k_xZ3 : xZ3 W := by
      rw [hW]
      exact (uxZ3 (sinc_ok rfl _) hI.2.2.2.2.2.2.2.2.1)
    have k_xZ4 : xZ4 W := by
      rw [hW]
      exact (uxZ4 (sinc_ok rfl _) hI.2.2.2.2.2.2.2.2.2.1)
    have k_xZ5 : xZ5 W := by
      rw [hW]
      exact (uxZ5 (sinc_ok rfl _) hI.2.2.2.2.2.2.2.2.2.2.1)
    have k_xZ6 : xZ6 W := by
      rw [hW]
      exact (uxZ6 (sinc_ok rfl _) hI.2.2.2.2.2.2.2.2.2.2.2.1)
    have k_xZ7 : xZ7 W := by
      rw [hW]
      exact (uxZ7 (sinc_ok rfl _) hI.2.2.2.2.2.2.2.2.2.2.2.2.1)
    have k_xZ8 : xZ8 W := by
      rw [hW]
      exact (uxZ8 (sinc_ok rfl _) hI.2.2.2.2.2.2.2.2.2.2.2.2.2.1)
    have k_xZ9 : xZ9 W := by
      rw [hW]
      exact (uxZ9 (sinc_ok rfl _) hI.2.2.2.2.2.2.2.2.2.2.2.2.2.2.1)
    have k_xZa : xZa W := by
      rw [hW]
      exact (uxZa (sinc_ok rfl _) hI.2.2.2.2.2.2.2.2.2.2.2.2.2.2.2.1)
    have k_xZb : xZb W := by
      rw [hW]
      exact (uxZb (sinc_ok rfl _) hI.2.2.2.2.2.2.2.2.2.2.2.2.2.2.2.2.1)
    have k_xT1 : xT1 W := by
      rw [hW]
      exact (uxT1 (sinc_ok rfl _) hI.2.2.2.2.2.2.2.2.2.2.2.2.2.2.2.2.2)
    exact ⟨base, k2, k3, k_xY1, k_xY2, k_xY3, k_xZ1, k_xZ2, k_xZ3, k_xZ4, k_xZ5, k_xZ6, k_xZ7, k_xZ8, k_xZ9, k_xZa, k_xZb, k_xT1⟩
-- undoLess
def xr_19 : qRu := (3, [[(1, 1), (-1, 2)], [(1, 2)], [(20, 0), (-1, 1)]], [(91, 46, [(1, 1)])], [(91, [(46, 0)], [(1, 2)])], [], [])
theorem xo_19 : qRok xr_19 := by
  intro ρ M h0 hf hm hI
  have f0 := hf [(1, 1), (-1, 2)] (by decide)
  have f1 := hf [(1, 2)] (by decide)
  have f2 := hf [(20, 0), (-1, 1)] (by decide)
  simp only [qD, h0] at f0 f1 f2
  have m0 : M 91 46 = 1 * ρ 1 + 0 := hm (91, 46, [(1, 1)]) (by decide)
  have qxY2 := hI.2.2.2.2.1
  refine ⟨ρ, fun _ _ => rfl, fun f h => ?_, ?_⟩
  · exact nomatch h
  · show sI (sU M 91 (46 * ρ 0 + 0 : Int).toNat (1 * ρ 2 + 0))
    rw [show (46 * ρ 0 + 0 : Int).toNat = 46 by (try rw [h0]); rfl]
    obtain ⟨W, hW⟩ : ∃ W, W = (sU M 91 46 (1 * ρ 2 + 0)) := ⟨_, rfl⟩
    rw [← hW]
    have base : sI0 W := by
      rw [hW]
      exact (si_u0 hI.1 (fun r hr => by have hr : some ((0 : Int), (20 : Int)) = some r := hr; cases hr; exact ⟨by show (0 : Int) ≤ _; (try rw [h0]); omega, by show _ ≤ (20 : Int); (try rw [h0]); omega⟩))
    have k2 : XI2 W := by
      rw [hW]
      exact (xi2_u rfl hI.2.1)
    have k3 : XI3 W := by
      rw [hW]
      exact (xi3_u rfl hI.2.2.1)
    have k_xY1 : xY1 W := by
      rw [hW]
      exact (uxY1 rfl hI.2.2.2.1)
    have k_xY2 : xY2 W := by
      have r91_991 : W 91 991 = M 91 991 := by rw [hW, sU_ne (fun z => by omega)]
      have r91_992 : W 91 992 = M 91 992 := by rw [hW, sU_ne (fun z => by omega)]
      have r91_984 : W 91 984 = M 91 984 := by rw [hW, sU_ne (fun z => by omega)]
      have r91_993 : W 91 993 = M 91 993 := by rw [hW, sU_ne (fun z => by omega)]
      have r91_45 : W 91 45 = M 91 45 := by rw [hW, sU_ne (fun z => by omega)]
      have r91_46 : W 91 46 = 1 * ρ 2 + 0 := by rw [hW, sU_at]
      have c113 : ∀ k, W 113 k = M 113 k := fun k => by rw [hW, sU_ne (fun z => by omega)]
      have c114 : ∀ k, W 114 k = M 114 k := fun k => by rw [hW, sU_ne (fun z => by omega)]
      intro h1 i hi hv hx
      unfold xV at hv
      unfold xB
      rw [r91_991] at h1
      rw [r91_992] at hx
      rw [r91_45, r91_46, r91_984] at hv
      have h2 := qxY2 (by omega) i hi (by unfold xV; omega) (by omega)
      unfold xB at h2
      rw [c113 i, c114 i, r91_993]
      exact h2
    have k_xY3 : xY3 W := by
      rw [hW]
      exact (uxY3 rfl hI.2.2.2.2.2.1)
    have k_xZ1 : xZ1 W := by
      rw [hW]
      exact (uxZ1 rfl hI.2.2.2.2.2.2.1)
    have k_xZ2 : xZ2 W := by
      rw [hW]
      exact (uxZ2 rfl hI.2.2.2.2.2.2.2.1)
    have k_xZ3 : xZ3 W := by
      rw [hW]
      exact (uxZ3 rfl hI.2.2.2.2.2.2.2.2.1)
    have k_xZ4 : xZ4 W := by
      rw [hW]
      exact (uxZ4 rfl hI.2.2.2.2.2.2.2.2.2.1)
    have k_xZ5 : xZ5 W := by
      rw [hW]
      exact (uxZ5 rfl hI.2.2.2.2.2.2.2.2.2.2.1)
    have k_xZ6 : xZ6 W := by
      rw [hW]
      exact (uxZ6 rfl hI.2.2.2.2.2.2.2.2.2.2.2.1)
    have k_xZ7 : xZ7 W := by
      rw [hW]
      exact (uxZ7 rfl hI.2.2.2.2.2.2.2.2.2.2.2.2.1)
    have k_xZ8 : xZ8 W := by
      rw [hW]
      exact (uxZ8 rfl hI.2.2.2.2.2.2.2.2.2.2.2.2.2.1)
    have k_xZ9 : xZ9 W := by
      rw [hW]
      exact (uxZ9 rfl hI.2.2.2.2.2.2.2.2.2.2.2.2.2.2.1)
    have k_xZa : xZa W := by
      rw [hW]
      exact (uxZa rfl hI.2.2.2.2.2.2.2.2.2.2.2.2.2.2.2.1)
    have k_xZb : xZb W := by
      rw [hW]
      exact (uxZb rfl hI.2.2.2.2.2.2.2.2.2.2.2.2.2.2.2.2.1)
    have k_xT1 : xT1 W := by
      rw [hW]
      exact (uxT1 rfl hI.2.2.2.2.2.2.2.2.2.2.2.2.2.2.2.2.2)
    exact ⟨base, k2, k3, k_xY1, k_xY2, k_xY3, k_xZ1, k_xZ2, k_xZ3, k_xZ4, k_xZ5, k_xZ6, k_xZ7, k_xZ8, k_xZ9, k_xZa, k_xZb, k_xT1⟩
-- undoNone
def xr_20 : qRu := (1, [], [], [(91, [(46, 0)], [])], [], [])
theorem xo_20 : qRok xr_20 := by
  intro ρ M h0 hf hm hI
  have qxY2 := hI.2.2.2.2.1
  refine ⟨ρ, fun _ _ => rfl, fun f h => ?_, ?_⟩
  · exact nomatch h
  · show sI (sU M 91 (46 * ρ 0 + 0 : Int).toNat (0))
    rw [show (46 * ρ 0 + 0 : Int).toNat = 46 by (try rw [h0]); rfl]
    obtain ⟨W, hW⟩ : ∃ W, W = (sU M 91 46 (0)) := ⟨_, rfl⟩
    rw [← hW]
    have base : sI0 W := by
      rw [hW]
      exact (si_u0 hI.1 (fun r hr => by have hr : some ((0 : Int), (20 : Int)) = some r := hr; cases hr; exact ⟨by show (0 : Int) ≤ _; (try rw [h0]); omega, by show _ ≤ (20 : Int); (try rw [h0]); omega⟩))
    have k2 : XI2 W := by
      rw [hW]
      exact (xi2_u rfl hI.2.1)
    have k3 : XI3 W := by
      rw [hW]
      exact (xi3_u rfl hI.2.2.1)
    have k_xY1 : xY1 W := by
      rw [hW]
      exact (uxY1 rfl hI.2.2.2.1)
    have k_xY2 : xY2 W := by
      have r91_991 : W 91 991 = M 91 991 := by rw [hW, sU_ne (fun z => by omega)]
      have r91_992 : W 91 992 = M 91 992 := by rw [hW, sU_ne (fun z => by omega)]
      have r91_984 : W 91 984 = M 91 984 := by rw [hW, sU_ne (fun z => by omega)]
      have r91_993 : W 91 993 = M 91 993 := by rw [hW, sU_ne (fun z => by omega)]
      have r91_45 : W 91 45 = M 91 45 := by rw [hW, sU_ne (fun z => by omega)]
      have r91_46 : W 91 46 = 0 := by rw [hW, sU_at]
      have c113 : ∀ k, W 113 k = M 113 k := fun k => by rw [hW, sU_ne (fun z => by omega)]
      have c114 : ∀ k, W 114 k = M 114 k := fun k => by rw [hW, sU_ne (fun z => by omega)]
      intro h1 i hi hv hx
      unfold xV at hv
      unfold xB
      rw [r91_991] at h1
      rw [r91_992] at hx
      rw [r91_45, r91_46, r91_984] at hv
      have h2 := qxY2 (by omega) i hi (by unfold xV; omega) (by omega)
      unfold xB at h2
      rw [c113 i, c114 i, r91_993]
      exact h2
    have k_xY3 : xY3 W := by
      rw [hW]
      exact (uxY3 rfl hI.2.2.2.2.2.1)
    have k_xZ1 : xZ1 W := by
      rw [hW]
      exact (uxZ1 rfl hI.2.2.2.2.2.2.1)
    have k_xZ2 : xZ2 W := by
      rw [hW]
      exact (uxZ2 rfl hI.2.2.2.2.2.2.2.1)
    have k_xZ3 : xZ3 W := by
      rw [hW]
      exact (uxZ3 rfl hI.2.2.2.2.2.2.2.2.1)
    have k_xZ4 : xZ4 W := by
      rw [hW]
      exact (uxZ4 rfl hI.2.2.2.2.2.2.2.2.2.1)
    have k_xZ5 : xZ5 W := by
      rw [hW]
      exact (uxZ5 rfl hI.2.2.2.2.2.2.2.2.2.2.1)
    have k_xZ6 : xZ6 W := by
      rw [hW]
      exact (uxZ6 rfl hI.2.2.2.2.2.2.2.2.2.2.2.1)
    have k_xZ7 : xZ7 W := by
      rw [hW]
      exact (uxZ7 rfl hI.2.2.2.2.2.2.2.2.2.2.2.2.1)
    have k_xZ8 : xZ8 W := by
      rw [hW]
      exact (uxZ8 rfl hI.2.2.2.2.2.2.2.2.2.2.2.2.2.1)
    have k_xZ9 : xZ9 W := by
      rw [hW]
      exact (uxZ9 rfl hI.2.2.2.2.2.2.2.2.2.2.2.2.2.2.1)
    have k_xZa : xZa W := by
      rw [hW]
      exact (uxZa rfl hI.2.2.2.2.2.2.2.2.2.2.2.2.2.2.2.1)
    have k_xZb : xZb W := by
      rw [hW]
      exact (uxZb rfl hI.2.2.2.2.2.2.2.2.2.2.2.2.2.2.2.2.1)
    have k_xT1 : xT1 W := by
      rw [hW]
      exact (uxT1 rfl hI.2.2.2.2.2.2.2.2.2.2.2.2.2.2.2.2.2)
    exact ⟨base, k2, k3, k_xY1, k_xY2, k_xY3, k_xZ1, k_xZ2, k_xZ3, k_xZ4, k_xZ5, k_xZ6, k_xZ7, k_xZ8, k_xZ9, k_xZa, k_xZb, k_xT1⟩
-- undoMore
def xr_21 : qRu := (5, [[(1, 1)], [(19, 0), (-1, 1)], [(-3, 0), (-1, 1), (1, 2)], [(3, 0), (1, 1), (-1, 2)], [(-1, 0), (-1, 1), (1, 3)], [(1, 0), (1, 1), (-1, 3)], [(-50, 0), (1, 4)], [(50, 0), (-1, 4)]], [(91, 46, [(1, 1)]), (91, 984, [(1, 2)]), (91, 992, [(1, 4)])], [(91, [(46, 0)], [(1, 3)])], [], [])
theorem xo_21 : qRok xr_21 := by
  intro ρ M h0 hf hm hI
  have f0 := hf [(1, 1)] (by decide)
  have f1 := hf [(19, 0), (-1, 1)] (by decide)
  have f2 := hf [(-3, 0), (-1, 1), (1, 2)] (by decide)
  have f3 := hf [(3, 0), (1, 1), (-1, 2)] (by decide)
  have f4 := hf [(-1, 0), (-1, 1), (1, 3)] (by decide)
  have f5 := hf [(1, 0), (1, 1), (-1, 3)] (by decide)
  have f6 := hf [(-50, 0), (1, 4)] (by decide)
  have f7 := hf [(50, 0), (-1, 4)] (by decide)
  simp only [qD, h0] at f0 f1 f2 f3 f4 f5 f6 f7
  have m0 : M 91 46 = 1 * ρ 1 + 0 := hm (91, 46, [(1, 1)]) (by decide)
  have m1 : M 91 984 = 1 * ρ 2 + 0 := hm (91, 984, [(1, 2)]) (by decide)
  have m2 : M 91 992 = 1 * ρ 4 + 0 := hm (91, 992, [(1, 4)]) (by decide)
  have qxY2 := hI.2.2.2.2.1
  refine ⟨ρ, fun _ _ => rfl, fun f h => ?_, ?_⟩
  · exact nomatch h
  · show sI (sU M 91 (46 * ρ 0 + 0 : Int).toNat (1 * ρ 3 + 0))
    rw [show (46 * ρ 0 + 0 : Int).toNat = 46 by (try rw [h0]); rfl]
    obtain ⟨W, hW⟩ : ∃ W, W = (sU M 91 46 (1 * ρ 3 + 0)) := ⟨_, rfl⟩
    rw [← hW]
    have base : sI0 W := by
      rw [hW]
      exact (si_u0 hI.1 (fun r hr => by have hr : some ((0 : Int), (20 : Int)) = some r := hr; cases hr; exact ⟨by show (0 : Int) ≤ _; (try rw [h0]); omega, by show _ ≤ (20 : Int); (try rw [h0]); omega⟩))
    have k2 : XI2 W := by
      rw [hW]
      exact (xi2_u rfl hI.2.1)
    have k3 : XI3 W := by
      rw [hW]
      exact (xi3_u rfl hI.2.2.1)
    have k_xY1 : xY1 W := by
      rw [hW]
      exact (uxY1 rfl hI.2.2.2.1)
    have k_xY2 : xY2 W := by
      have r91_991 : W 91 991 = M 91 991 := by rw [hW, sU_ne (fun z => by omega)]
      have r91_992 : W 91 992 = M 91 992 := by rw [hW, sU_ne (fun z => by omega)]
      have r91_984 : W 91 984 = M 91 984 := by rw [hW, sU_ne (fun z => by omega)]
      have r91_993 : W 91 993 = M 91 993 := by rw [hW, sU_ne (fun z => by omega)]
      have r91_45 : W 91 45 = M 91 45 := by rw [hW, sU_ne (fun z => by omega)]
      have r91_46 : W 91 46 = 1 * ρ 3 + 0 := by rw [hW, sU_at]
      have c113 : ∀ k, W 113 k = M 113 k := fun k => by rw [hW, sU_ne (fun z => by omega)]
      have c114 : ∀ k, W 114 k = M 114 k := fun k => by rw [hW, sU_ne (fun z => by omega)]
      intro h1 i hi hv hx
      unfold xV at hv
      unfold xB
      rw [r91_991] at h1
      rw [r91_992] at hx
      rw [r91_45, r91_46, r91_984] at hv
      have h2 := qxY2 (by omega) i hi (by unfold xV; omega) (by omega)
      unfold xB at h2
      rw [c113 i, c114 i, r91_993]
      exact h2
    have k_xY3 : xY3 W := by
      rw [hW]
      exact (uxY3 rfl hI.2.2.2.2.2.1)
    have k_xZ1 : xZ1 W := by
      rw [hW]
      exact (uxZ1 rfl hI.2.2.2.2.2.2.1)
    have k_xZ2 : xZ2 W := by
      rw [hW]
      exact (uxZ2 rfl hI.2.2.2.2.2.2.2.1)
    have k_xZ3 : xZ3 W := by
      rw [hW]
      exact (uxZ3 rfl hI.2.2.2.2.2.2.2.2.1)
    have k_xZ4 : xZ4 W := by
      rw [hW]
      exact (uxZ4 rfl hI.2.2.2.2.2.2.2.2.2.1)
    have k_xZ5 : xZ5 W := by
      rw [hW]
      exact (uxZ5 rfl hI.2.2.2.2.2.2.2.2.2.2.1)
    have k_xZ6 : xZ6 W := by
      rw [hW]
      exact (uxZ6 rfl hI.2.2.2.2.2.2.2.2.2.2.2.1)
    have k_xZ7 : xZ7 W := by
      rw [hW]
      exact (uxZ7 rfl hI.2.2.2.2.2.2.2.2.2.2.2.2.1)
    have k_xZ8 : xZ8 W := by
      rw [hW]
      exact (uxZ8 rfl hI.2.2.2.2.2.2.2.2.2.2.2.2.2.1)
    have k_xZ9 : xZ9 W := by
      rw [hW]
      exact (uxZ9 rfl hI.2.2.2.2.2.2.2.2.2.2.2.2.2.2.1)
    have k_xZa : xZa W := by
      rw [hW]
      exact (uxZa rfl hI.2.2.2.2.2.2.2.2.2.2.2.2.2.2.2.1)
    have k_xZb : xZb W := by
      rw [hW]
      exact (uxZb rfl hI.2.2.2.2.2.2.2.2.2.2.2.2.2.2.2.2.1)
    have k_xT1 : xT1 W := by
      rw [hW]
      exact (uxT1 rfl hI.2.2.2.2.2.2.2.2.2.2.2.2.2.2.2.2.2)
    exact ⟨base, k2, k3, k_xY1, k_xY2, k_xY3, k_xZ1, k_xZ2, k_xZ3, k_xZ4, k_xZ5, k_xZ6, k_xZ7, k_xZ8, k_xZ9, k_xZa, k_xZb, k_xT1⟩
-- imageNo
def xr_22 : qRu := (1, [], [], [(91, [(45, 0)], [])], [], [])
theorem xo_22 : qRok xr_22 := by
  intro ρ M h0 hf hm hI
  have qxY2 := hI.2.2.2.2.1
  refine ⟨ρ, fun _ _ => rfl, fun f h => ?_, ?_⟩
  · exact nomatch h
  · show sI (sU M 91 (45 * ρ 0 + 0 : Int).toNat (0))
    rw [show (45 * ρ 0 + 0 : Int).toNat = 45 by (try rw [h0]); rfl]
    obtain ⟨W, hW⟩ : ∃ W, W = (sU M 91 45 (0)) := ⟨_, rfl⟩
    rw [← hW]
    have base : sI0 W := by
      rw [hW]
      exact (si_u0 hI.1 (fun r hr => by have hr : some ((0 : Int), (1 : Int)) = some r := hr; cases hr; exact ⟨by show (0 : Int) ≤ _; (try rw [h0]); omega, by show _ ≤ (1 : Int); (try rw [h0]); omega⟩))
    have k2 : XI2 W := by
      rw [hW]
      exact (xi2_u rfl hI.2.1)
    have k3 : XI3 W := by
      rw [hW]
      exact (xi3_u rfl hI.2.2.1)
    have k_xY1 : xY1 W := by
      rw [hW]
      exact (uxY1 rfl hI.2.2.2.1)
    have k_xY2 : xY2 W := by
      have r91_991 : W 91 991 = M 91 991 := by rw [hW, sU_ne (fun z => by omega)]
      have r91_992 : W 91 992 = M 91 992 := by rw [hW, sU_ne (fun z => by omega)]
      have r91_984 : W 91 984 = M 91 984 := by rw [hW, sU_ne (fun z => by omega)]
      have r91_993 : W 91 993 = M 91 993 := by rw [hW, sU_ne (fun z => by omega)]
      have r91_45 : W 91 45 = 0 := by rw [hW, sU_at]
      have r91_46 : W 91 46 = M 91 46 := by rw [hW, sU_ne (fun z => by omega)]
      have c113 : ∀ k, W 113 k = M 113 k := fun k => by rw [hW, sU_ne (fun z => by omega)]
      have c114 : ∀ k, W 114 k = M 114 k := fun k => by rw [hW, sU_ne (fun z => by omega)]
      intro h1 i hi hv hx
      unfold xV at hv
      unfold xB
      rw [r91_991] at h1
      rw [r91_992] at hx
      rw [r91_45, r91_46, r91_984] at hv
      have h2 := qxY2 (by omega) i hi (by unfold xV; omega) (by omega)
      unfold xB at h2
      rw [c113 i, c114 i, r91_993]
      exact h2
    have k_xY3 : xY3 W := by
      rw [hW]
      exact (uxY3 rfl hI.2.2.2.2.2.1)
    have k_xZ1 : xZ1 W := by
      rw [hW]
      exact (uxZ1 rfl hI.2.2.2.2.2.2.1)
    have k_xZ2 : xZ2 W := by
      rw [hW]
      exact (uxZ2 rfl hI.2.2.2.2.2.2.2.1)
    have k_xZ3 : xZ3 W := by
      rw [hW]
      exact (uxZ3 rfl hI.2.2.2.2.2.2.2.2.1)
    have k_xZ4 : xZ4 W := by
      rw [hW]
      exact (uxZ4 rfl hI.2.2.2.2.2.2.2.2.2.1)
    have k_xZ5 : xZ5 W := by
      rw [hW]
      exact (uxZ5 rfl hI.2.2.2.2.2.2.2.2.2.2.1)
    have k_xZ6 : xZ6 W := by
      rw [hW]
      exact (uxZ6 rfl hI.2.2.2.2.2.2.2.2.2.2.2.1)
    have k_xZ7 : xZ7 W := by
      rw [hW]
      exact (uxZ7 rfl hI.2.2.2.2.2.2.2.2.2.2.2.2.1)
    have k_xZ8 : xZ8 W := by
      rw [hW]
      exact (uxZ8 rfl hI.2.2.2.2.2.2.2.2.2.2.2.2.2.1)
    have k_xZ9 : xZ9 W := by
      rw [hW]
      exact (uxZ9 rfl hI.2.2.2.2.2.2.2.2.2.2.2.2.2.2.1)
    have k_xZa : xZa W := by
      rw [hW]
      exact (uxZa rfl hI.2.2.2.2.2.2.2.2.2.2.2.2.2.2.2.1)
    have k_xZb : xZb W := by
      rw [hW]
      exact (uxZb rfl hI.2.2.2.2.2.2.2.2.2.2.2.2.2.2.2.2.1)
    have k_xT1 : xT1 W := by
      rw [hW]
      exact (uxT1 rfl hI.2.2.2.2.2.2.2.2.2.2.2.2.2.2.2.2.2)
    exact ⟨base, k2, k3, k_xY1, k_xY2, k_xY3, k_xZ1, k_xZ2, k_xZ3, k_xZ4, k_xZ5, k_xZ6, k_xZ7, k_xZ8, k_xZ9, k_xZa, k_xZb, k_xT1⟩
-- imageYes
def xr_23 : qRu := (3, [[(-2, 0), (1, 1)], [(2, 0), (-1, 1)], [(-50, 0), (1, 2)], [(50, 0), (-1, 2)]], [(91, 984, [(1, 1)]), (91, 992, [(1, 2)])], [(91, [(45, 0)], [(1, 0)])], [], [])
theorem xo_23 : qRok xr_23 := by
  intro ρ M h0 hf hm hI
  have f0 := hf [(-2, 0), (1, 1)] (by decide)
  have f1 := hf [(2, 0), (-1, 1)] (by decide)
  have f2 := hf [(-50, 0), (1, 2)] (by decide)
  have f3 := hf [(50, 0), (-1, 2)] (by decide)
  simp only [qD, h0] at f0 f1 f2 f3
  have m0 : M 91 984 = 1 * ρ 1 + 0 := hm (91, 984, [(1, 1)]) (by decide)
  have m1 : M 91 992 = 1 * ρ 2 + 0 := hm (91, 992, [(1, 2)]) (by decide)
  have qxY2 := hI.2.2.2.2.1
  refine ⟨ρ, fun _ _ => rfl, fun f h => ?_, ?_⟩
  · exact nomatch h
  · show sI (sU M 91 (45 * ρ 0 + 0 : Int).toNat (1 * ρ 0 + 0))
    rw [show (45 * ρ 0 + 0 : Int).toNat = 45 by (try rw [h0]); rfl]
    obtain ⟨W, hW⟩ : ∃ W, W = (sU M 91 45 (1 * ρ 0 + 0)) := ⟨_, rfl⟩
    rw [← hW]
    have base : sI0 W := by
      rw [hW]
      exact (si_u0 hI.1 (fun r hr => by have hr : some ((0 : Int), (1 : Int)) = some r := hr; cases hr; exact ⟨by show (0 : Int) ≤ _; (try rw [h0]); omega, by show _ ≤ (1 : Int); (try rw [h0]); omega⟩))
    have k2 : XI2 W := by
      rw [hW]
      exact (xi2_u rfl hI.2.1)
    have k3 : XI3 W := by
      rw [hW]
      exact (xi3_u rfl hI.2.2.1)
    have k_xY1 : xY1 W := by
      rw [hW]
      exact (uxY1 rfl hI.2.2.2.1)
    have k_xY2 : xY2 W := by
      have r91_991 : W 91 991 = M 91 991 := by rw [hW, sU_ne (fun z => by omega)]
      have r91_992 : W 91 992 = M 91 992 := by rw [hW, sU_ne (fun z => by omega)]
      have r91_984 : W 91 984 = M 91 984 := by rw [hW, sU_ne (fun z => by omega)]
      have r91_993 : W 91 993 = M 91 993 := by rw [hW, sU_ne (fun z => by omega)]
      have r91_45 : W 91 45 = 1 * ρ 0 + 0 := by rw [hW, sU_at]
      have r91_46 : W 91 46 = M 91 46 := by rw [hW, sU_ne (fun z => by omega)]
      have c113 : ∀ k, W 113 k = M 113 k := fun k => by rw [hW, sU_ne (fun z => by omega)]
      have c114 : ∀ k, W 114 k = M 114 k := fun k => by rw [hW, sU_ne (fun z => by omega)]
      intro h1 i hi hv hx
      unfold xV at hv
      unfold xB
      rw [r91_991] at h1
      rw [r91_992] at hx
      rw [r91_45, r91_46, r91_984] at hv
      have h2 := qxY2 (by omega) i hi (by unfold xV; rw [h0] at hv; omega) (by omega)
      unfold xB at h2
      rw [c113 i, c114 i, r91_993]
      exact h2
    have k_xY3 : xY3 W := by
      rw [hW]
      exact (uxY3 rfl hI.2.2.2.2.2.1)
    have k_xZ1 : xZ1 W := by
      rw [hW]
      exact (uxZ1 rfl hI.2.2.2.2.2.2.1)
    have k_xZ2 : xZ2 W := by
      rw [hW]
      exact (uxZ2 rfl hI.2.2.2.2.2.2.2.1)
    have k_xZ3 : xZ3 W := by
      rw [hW]
      exact (uxZ3 rfl hI.2.2.2.2.2.2.2.2.1)
    have k_xZ4 : xZ4 W := by
      rw [hW]
      exact (uxZ4 rfl hI.2.2.2.2.2.2.2.2.2.1)
    have k_xZ5 : xZ5 W := by
      rw [hW]
      exact (uxZ5 rfl hI.2.2.2.2.2.2.2.2.2.2.1)
    have k_xZ6 : xZ6 W := by
      rw [hW]
      exact (uxZ6 rfl hI.2.2.2.2.2.2.2.2.2.2.2.1)
    have k_xZ7 : xZ7 W := by
      rw [hW]
      exact (uxZ7 rfl hI.2.2.2.2.2.2.2.2.2.2.2.2.1)
    have k_xZ8 : xZ8 W := by
      rw [hW]
      exact (uxZ8 rfl hI.2.2.2.2.2.2.2.2.2.2.2.2.2.1)
    have k_xZ9 : xZ9 W := by
      rw [hW]
      exact (uxZ9 rfl hI.2.2.2.2.2.2.2.2.2.2.2.2.2.2.1)
    have k_xZa : xZa W := by
      rw [hW]
      exact (uxZa rfl hI.2.2.2.2.2.2.2.2.2.2.2.2.2.2.2.1)
    have k_xZb : xZb W := by
      rw [hW]
      exact (uxZb rfl hI.2.2.2.2.2.2.2.2.2.2.2.2.2.2.2.2.1)
    have k_xT1 : xT1 W := by
      rw [hW]
      exact (uxT1 rfl hI.2.2.2.2.2.2.2.2.2.2.2.2.2.2.2.2.2)
    exact ⟨base, k2, k3, k_xY1, k_xY2, k_xY3, k_xZ1, k_xZ2, k_xZ3, k_xZ4, k_xZ5, k_xZ6, k_xZ7, k_xZ8, k_xZ9, k_xZa, k_xZb, k_xT1⟩
-- out
def xr_24 : qRu := (2, [], [(91, 992, [(50, 0)])], [], [(91, 992, [(1, 1)])], [])
theorem xo_24 : qRok xr_24 := by
  intro ρ M h0 hf hm hI
  have m0 : M 91 992 = 50 * ρ 0 + 0 := hm (91, 992, [(50, 0)]) (by decide)
  simp only [h0] at m0
  have qxY2 := hI.2.2.2.2.1
  have qxY3 := hI.2.2.2.2.2.1
  refine ⟨ρ, fun _ _ => rfl, fun f h => ?_, ?_⟩
  · exact nomatch h
  · show sI (sU M 91 992 (1 * ρ 1 + 0))
    obtain ⟨W, hW⟩ : ∃ W, W = (sU M 91 992 (1 * ρ 1 + 0)) := ⟨_, rfl⟩
    rw [← hW]
    have base : sI0 W := by
      rw [hW]
      exact (si_u0 hI.1 (fun r hr => by cases hr))
    have k2 : XI2 W := by
      rw [hW]
      exact (xi2_u rfl hI.2.1)
    have k3 : XI3 W := by
      rw [hW]
      exact (xi3_u rfl hI.2.2.1)
    have k_xY1 : xY1 W := by
      rw [hW]
      exact (uxY1 rfl hI.2.2.2.1)
    have k_xY2 : xY2 W := by
      have r91_991 : W 91 991 = M 91 991 := by rw [hW, sU_ne (fun z => by omega)]
      have r91_992 : W 91 992 = 1 * ρ 1 + 0 := by rw [hW, sU_at]
      have r91_984 : W 91 984 = M 91 984 := by rw [hW, sU_ne (fun z => by omega)]
      have r91_993 : W 91 993 = M 91 993 := by rw [hW, sU_ne (fun z => by omega)]
      have r91_45 : W 91 45 = M 91 45 := by rw [hW, sU_ne (fun z => by omega)]
      have r91_46 : W 91 46 = M 91 46 := by rw [hW, sU_ne (fun z => by omega)]
      have c113 : ∀ k, W 113 k = M 113 k := fun k => by rw [hW, sU_ne (fun z => by omega)]
      have c114 : ∀ k, W 114 k = M 114 k := fun k => by rw [hW, sU_ne (fun z => by omega)]
      intro h1 i hi hv hx
      unfold xV at hv
      unfold xB
      rw [r91_991] at h1
      rw [r91_992] at hx
      rw [r91_45, r91_46, r91_984] at hv
      have h2 := qxY2 (by omega) i hi (by unfold xV; omega) (by omega)
      unfold xB at h2
      rw [c113 i, c114 i, r91_993]
      exact h2
    have k_xY3 : xY3 W := by
      have r91_984 : W 91 984 = M 91 984 := by rw [hW, sU_ne (fun z => by omega)]
      have r91_985 : W 91 985 = M 91 985 := by rw [hW, sU_ne (fun z => by omega)]
      have r91_986 : W 91 986 = M 91 986 := by rw [hW, sU_ne (fun z => by omega)]
      have r91_992 : W 91 992 = 1 * ρ 1 + 0 := by rw [hW, sU_at]
      have c113 : ∀ k, W 113 k = M 113 k := fun k => by rw [hW, sU_ne (fun z => by omega)]
      have c114 : ∀ k, W 114 k = M 114 k := fun k => by rw [hW, sU_ne (fun z => by omega)]
      intro i hi he hx
      rw [r91_984] at he
      rw [r91_992] at hx
      rw [r91_985, r91_986]
      rw [c113 i, c114 i]
      exact qxY3 i hi he (by omega)
    have k_xZ1 : xZ1 W := by
      rw [hW]
      exact (uxZ1 rfl hI.2.2.2.2.2.2.1)
    have k_xZ2 : xZ2 W := by
      rw [hW]
      exact (uxZ2 rfl hI.2.2.2.2.2.2.2.1)
    have k_xZ3 : xZ3 W := by
      rw [hW]
      exact (uxZ3 rfl hI.2.2.2.2.2.2.2.2.1)
    have k_xZ4 : xZ4 W := by
      rw [hW]
      exact (uxZ4 rfl hI.2.2.2.2.2.2.2.2.2.1)
    have k_xZ5 : xZ5 W := by
      rw [hW]
      exact (uxZ5 rfl hI.2.2.2.2.2.2.2.2.2.2.1)
    have k_xZ6 : xZ6 W := by
      rw [hW]
      exact (uxZ6 rfl hI.2.2.2.2.2.2.2.2.2.2.2.1)
    have k_xZ7 : xZ7 W := by
      rw [hW]
      exact (uxZ7 rfl hI.2.2.2.2.2.2.2.2.2.2.2.2.1)
    have k_xZ8 : xZ8 W := by
      rw [hW]
      exact (uxZ8 rfl hI.2.2.2.2.2.2.2.2.2.2.2.2.2.1)
    have k_xZ9 : xZ9 W := by
      rw [hW]
      exact (uxZ9 rfl hI.2.2.2.2.2.2.2.2.2.2.2.2.2.2.1)
    have k_xZa : xZa W := by
      rw [hW]
      exact (uxZa rfl hI.2.2.2.2.2.2.2.2.2.2.2.2.2.2.2.1)
    have k_xZb : xZb W := by
      rw [hW]
      exact (uxZb rfl hI.2.2.2.2.2.2.2.2.2.2.2.2.2.2.2.2.1)
    have k_xT1 : xT1 W := by
      rw [hW]
      exact (uxT1 rfl hI.2.2.2.2.2.2.2.2.2.2.2.2.2.2.2.2.2)
    exact ⟨base, k2, k3, k_xY1, k_xY2, k_xY3, k_xZ1, k_xZ2, k_xZ3, k_xZ4, k_xZ5, k_xZ6, k_xZ7, k_xZ8, k_xZ9, k_xZa, k_xZb, k_xT1⟩
-- in
def xr_25 : qRu := (6, [[(1, 1)], [(22, 0), (-1, 1)], [(-2, 0), (1, 2), (-1, 3), (9, 4)], [(1, 1), (-1, 5)], [(-1, 1), (1, 5)]], [(91, 992, [(1, 5)]), (91, 993, [(1, 2)]), (113, 1001, [(1, 3)]), (114, 1001, [(1, 4)])], [], [(91, 992, [(50, 0)]), (91, 984, [(1, 1)]), (91, 985, [(1, 3)]), (91, 986, [(1, 4)])], [])
theorem xo_25 : qRok xr_25 := by
  intro ρ M h0 hf hm hI
  have f0 := hf [(1, 1)] (by decide)
  have f1 := hf [(22, 0), (-1, 1)] (by decide)
  have f2 := hf [(-2, 0), (1, 2), (-1, 3), (9, 4)] (by decide)
  have f3 := hf [(1, 1), (-1, 5)] (by decide)
  have f4 := hf [(-1, 1), (1, 5)] (by decide)
  simp only [qD, h0] at f0 f1 f2 f3 f4
  have m0 : M 91 992 = 1 * ρ 5 + 0 := hm (91, 992, [(1, 5)]) (by decide)
  have m1 : M 91 993 = 1 * ρ 2 + 0 := hm (91, 993, [(1, 2)]) (by decide)
  have m2 : M 113 (zIx ρ (1000 + 1)) = 1 * ρ 3 + 0 := hm (113, 1001, [(1, 3)]) (by decide)
  rw [zix_p] at m2
  have m3 : M 114 (zIx ρ (1000 + 1)) = 1 * ρ 4 + 0 := hm (114, 1001, [(1, 4)]) (by decide)
  rw [zix_p] at m3
  have qxY2 := hI.2.2.2.2.1
  have qxY3 := hI.2.2.2.2.2.1
  refine ⟨ρ, fun _ _ => rfl, fun f h => ?_, ?_⟩
  · exact nomatch h
  · show sI (sU (sU (sU (sU M 91 992 (50 * ρ 0 + 0)) 91 984 (1 * ρ 1 + 0)) 91 985 (1 * ρ 3 + 0)) 91 986 (1 * ρ 4 + 0))
    obtain ⟨W, hW⟩ : ∃ W, W = (sU (sU (sU (sU M 91 992 (50 * ρ 0 + 0)) 91 984 (1 * ρ 1 + 0)) 91 985 (1 * ρ 3 + 0)) 91 986 (1 * ρ 4 + 0)) := ⟨_, rfl⟩
    rw [← hW]
    have base : sI0 W := by
      rw [hW]
      exact (si_u0 (si_u0 (si_u0 (si_u0 hI.1 (fun r hr => by cases hr)) (fun r hr => by cases hr)) (fun r hr => by cases hr)) (fun r hr => by cases hr))
    have k2 : XI2 W := by
      rw [hW]
      exact (xi2_u rfl (xi2_u rfl (xi2_u rfl (xi2_u rfl hI.2.1))))
    have k3 : XI3 W := by
      rw [hW]
      exact (xi3_u rfl (xi3_u rfl (xi3_u rfl (xi3_u rfl hI.2.2.1))))
    have k_xY1 : xY1 W := by
      rw [hW]
      exact (uxY1 rfl (uxY1 rfl (uxY1 rfl (uxY1 rfl hI.2.2.2.1))))
    have k_xY2 : xY2 W := by
      have r91_991 : W 91 991 = M 91 991 := by rw [hW, sU_ne (fun z => by omega), sU_ne (fun z => by omega), sU_ne (fun z => by omega), sU_ne (fun z => by omega)]
      have r91_992 : W 91 992 = 50 * ρ 0 + 0 := by rw [hW, sU_ne (fun z => by omega), sU_ne (fun z => by omega), sU_ne (fun z => by omega), sU_at]
      have r91_984 : W 91 984 = 1 * ρ 1 + 0 := by rw [hW, sU_ne (fun z => by omega), sU_ne (fun z => by omega), sU_at]
      have r91_993 : W 91 993 = M 91 993 := by rw [hW, sU_ne (fun z => by omega), sU_ne (fun z => by omega), sU_ne (fun z => by omega), sU_ne (fun z => by omega)]
      have r91_45 : W 91 45 = M 91 45 := by rw [hW, sU_ne (fun z => by omega), sU_ne (fun z => by omega), sU_ne (fun z => by omega), sU_ne (fun z => by omega)]
      have r91_46 : W 91 46 = M 91 46 := by rw [hW, sU_ne (fun z => by omega), sU_ne (fun z => by omega), sU_ne (fun z => by omega), sU_ne (fun z => by omega)]
      have c113 : ∀ k, W 113 k = M 113 k := fun k => by rw [hW, sU_ne (fun z => by omega), sU_ne (fun z => by omega), sU_ne (fun z => by omega), sU_ne (fun z => by omega)]
      have c114 : ∀ k, W 114 k = M 114 k := fun k => by rw [hW, sU_ne (fun z => by omega), sU_ne (fun z => by omega), sU_ne (fun z => by omega), sU_ne (fun z => by omega)]
      intro h1 i hi hv hx
      unfold xV at hv
      unfold xB
      rw [r91_991] at h1
      rw [r91_992] at hx
      rw [r91_45, r91_46, r91_984] at hv
      rw [c113 i, c114 i, r91_993]
      rw [h0] at hx
      by_cases hc : (i : Int) = ρ 1
      · rw [show i = (ρ 1).toNat by omega, m2, m3, m1]
        omega
      · have h2 := qxY2 (by omega) i hi (by unfold xV; omega) (by omega)
        unfold xB at h2
        exact h2
    have k_xY3 : xY3 W := by
      have r91_984 : W 91 984 = 1 * ρ 1 + 0 := by rw [hW, sU_ne (fun z => by omega), sU_ne (fun z => by omega), sU_at]
      have r91_985 : W 91 985 = 1 * ρ 3 + 0 := by rw [hW, sU_ne (fun z => by omega), sU_at]
      have r91_986 : W 91 986 = 1 * ρ 4 + 0 := by rw [hW, sU_at]
      have r91_992 : W 91 992 = 50 * ρ 0 + 0 := by rw [hW, sU_ne (fun z => by omega), sU_ne (fun z => by omega), sU_ne (fun z => by omega), sU_at]
      have c113 : ∀ k, W 113 k = M 113 k := fun k => by rw [hW, sU_ne (fun z => by omega), sU_ne (fun z => by omega), sU_ne (fun z => by omega), sU_ne (fun z => by omega)]
      have c114 : ∀ k, W 114 k = M 114 k := fun k => by rw [hW, sU_ne (fun z => by omega), sU_ne (fun z => by omega), sU_ne (fun z => by omega), sU_ne (fun z => by omega)]
      intro i hi he hx
      rw [r91_984] at he
      rw [r91_992] at hx
      rw [r91_985, r91_986]
      rw [c113 i, c114 i, show i = (ρ 1).toNat by omega, m2, m3]
      exact ⟨rfl, rfl⟩
    have k_xZ1 : xZ1 W := by
      rw [hW]
      exact (uxZ1 rfl (uxZ1 rfl (uxZ1 rfl (uxZ1 rfl hI.2.2.2.2.2.2.1))))
    have k_xZ2 : xZ2 W := by
      rw [hW]
      exact (uxZ2 rfl (uxZ2 rfl (uxZ2 rfl (uxZ2 rfl hI.2.2.2.2.2.2.2.1))))
    have k_xZ3 : xZ3 W := by
      rw [hW]
      exact (uxZ3 rfl (uxZ3 rfl (uxZ3 rfl (uxZ3 rfl hI.2.2.2.2.2.2.2.2.1))))
    have k_xZ4 : xZ4 W := by
      rw [hW]
      exact (uxZ4 rfl (uxZ4 rfl (uxZ4 rfl (uxZ4 rfl hI.2.2.2.2.2.2.2.2.2.1))))
    have k_xZ5 : xZ5 W := by
      rw [hW]
      exact (uxZ5 rfl (uxZ5 rfl (uxZ5 rfl (uxZ5 rfl hI.2.2.2.2.2.2.2.2.2.2.1))))
    have k_xZ6 : xZ6 W := by
      rw [hW]
      exact (uxZ6 rfl (uxZ6 rfl (uxZ6 rfl (uxZ6 rfl hI.2.2.2.2.2.2.2.2.2.2.2.1))))
    have k_xZ7 : xZ7 W := by
      rw [hW]
      exact (uxZ7 rfl (uxZ7 rfl (uxZ7 rfl (uxZ7 rfl hI.2.2.2.2.2.2.2.2.2.2.2.2.1))))
    have k_xZ8 : xZ8 W := by
      rw [hW]
      exact (uxZ8 rfl (uxZ8 rfl (uxZ8 rfl (uxZ8 rfl hI.2.2.2.2.2.2.2.2.2.2.2.2.2.1))))
    have k_xZ9 : xZ9 W := by
      rw [hW]
      exact (uxZ9 rfl (uxZ9 rfl (uxZ9 rfl (uxZ9 rfl hI.2.2.2.2.2.2.2.2.2.2.2.2.2.2.1))))
    have k_xZa : xZa W := by
      rw [hW]
      exact (uxZa rfl (uxZa rfl (uxZa rfl (uxZa rfl hI.2.2.2.2.2.2.2.2.2.2.2.2.2.2.2.1))))
    have k_xZb : xZb W := by
      rw [hW]
      exact (uxZb rfl (uxZb rfl (uxZb rfl (uxZb rfl hI.2.2.2.2.2.2.2.2.2.2.2.2.2.2.2.2.1))))
    have k_xT1 : xT1 W := by
      rw [hW]
      exact (uxT1 rfl (uxT1 rfl (uxT1 rfl (uxT1 rfl hI.2.2.2.2.2.2.2.2.2.2.2.2.2.2.2.2.2))))
    exact ⟨base, k2, k3, k_xY1, k_xY2, k_xY3, k_xZ1, k_xZ2, k_xZ3, k_xZ4, k_xZ5, k_xZ6, k_xZ7, k_xZ8, k_xZ9, k_xZa, k_xZb, k_xT1⟩
-- it0
def xr_26 : qRu := (2, [], [(91, 991, [(1, 0)]), (91, 992, [(50, 0)]), (91, 993, [(1, 1)])], [], [(91, 984, []), (91, 985, [(1, 2)]), (91, 986, [(1, 3)])], [[(1, 2)], [(8, 0), (-1, 2)], [(1, 3)], [(3, 0), (-1, 3)], [(-2, 0), (1, 1), (-1, 2), (9, 3)]])
theorem xo_26 : qRok xr_26 := by
  intro ρ M h0 hf hm hI
  have m0 : M 91 991 = 1 * ρ 0 + 0 := hm (91, 991, [(1, 0)]) (by decide)
  have m1 : M 91 992 = 50 * ρ 0 + 0 := hm (91, 992, [(50, 0)]) (by decide)
  have m2 : M 91 993 = 1 * ρ 1 + 0 := hm (91, 993, [(1, 1)]) (by decide)
  simp only [h0] at m0 m1
  have qxY2 := hI.2.2.2.2.1
  have qxY3 := hI.2.2.2.2.2.1
  have b113 : (0 : Int) ≤ M 113 (0) ∧ M 113 (0) ≤ 8 := hI.1 113 (0) (0, 8) (xs_113 (by omega))
  have b114 : (0 : Int) ≤ M 114 (0) ∧ M 114 (0) ≤ 3 := hI.1 114 (0) (0, 3) (xs_114 (by omega))
  have hB := qxY2 (by omega) (0) (by omega) (by unfold xV; omega) (by omega)
  unfold xB at hB
  refine ⟨fun a => cond (Nat.blt a 2) (ρ a) (([M 113 (0), M 114 (0)] : List Int).getD (a - 2) 0), fun a ha => ?_, fun f h => ?_, ?_⟩
  · show cond (Nat.blt a 2) (ρ a) _ = ρ a
    rw [show Nat.blt a 2 = true from Nat.ble_eq_true_of_le ha]; rfl
  · have h : f ∈ ([[(1, 2)], [(8, 0), (-1, 2)], [(1, 3)], [(3, 0), (-1, 3)], [(-2, 0), (1, 1), (-1, 2), (9, 3)]] : List qF) := h
    simp only [List.mem_cons, List.not_mem_nil, or_false] at h
    rcases h with rfl | rfl | rfl | rfl | rfl
    · show 0 ≤ 1 * (M 113 (0)) + 0
      (try rw [h0]); omega
    · show 0 ≤ 8 * ρ 0 + (-1 * (M 113 (0)) + 0)
      (try rw [h0]); omega
    · show 0 ≤ 1 * (M 114 (0)) + 0
      (try rw [h0]); omega
    · show 0 ≤ 3 * ρ 0 + (-1 * (M 114 (0)) + 0)
      (try rw [h0]); omega
    · show 0 ≤ -2 * ρ 0 + (1 * ρ 1 + (-1 * (M 113 (0)) + (9 * (M 114 (0)) + 0)))
      (try rw [h0]); omega
  · show sI (sU (sU (sU M 91 984 (0)) 91 985 (1 * (M 113 (0)) + 0)) 91 986 (1 * (M 114 (0)) + 0))
    obtain ⟨W, hW⟩ : ∃ W, W = (sU (sU (sU M 91 984 (0)) 91 985 (1 * (M 113 (0)) + 0)) 91 986 (1 * (M 114 (0)) + 0)) := ⟨_, rfl⟩
    rw [← hW]
    have base : sI0 W := by
      rw [hW]
      exact (si_u0 (si_u0 (si_u0 hI.1 (fun r hr => by cases hr)) (fun r hr => by cases hr)) (fun r hr => by cases hr))
    have k2 : XI2 W := by
      rw [hW]
      exact (xi2_u rfl (xi2_u rfl (xi2_u rfl hI.2.1)))
    have k3 : XI3 W := by
      rw [hW]
      exact (xi3_u rfl (xi3_u rfl (xi3_u rfl hI.2.2.1)))
    have k_xY1 : xY1 W := by
      rw [hW]
      exact (uxY1 rfl (uxY1 rfl (uxY1 rfl hI.2.2.2.1)))
    have k_xY2 : xY2 W := by
      have r91_991 : W 91 991 = M 91 991 := by rw [hW, sU_ne (fun z => by omega), sU_ne (fun z => by omega), sU_ne (fun z => by omega)]
      have r91_992 : W 91 992 = M 91 992 := by rw [hW, sU_ne (fun z => by omega), sU_ne (fun z => by omega), sU_ne (fun z => by omega)]
      have r91_984 : W 91 984 = 0 := by rw [hW, sU_ne (fun z => by omega), sU_ne (fun z => by omega), sU_at]
      have r91_993 : W 91 993 = M 91 993 := by rw [hW, sU_ne (fun z => by omega), sU_ne (fun z => by omega), sU_ne (fun z => by omega)]
      have r91_45 : W 91 45 = M 91 45 := by rw [hW, sU_ne (fun z => by omega), sU_ne (fun z => by omega), sU_ne (fun z => by omega)]
      have r91_46 : W 91 46 = M 91 46 := by rw [hW, sU_ne (fun z => by omega), sU_ne (fun z => by omega), sU_ne (fun z => by omega)]
      have c113 : ∀ k, W 113 k = M 113 k := fun k => by rw [hW, sU_ne (fun z => by omega), sU_ne (fun z => by omega), sU_ne (fun z => by omega)]
      have c114 : ∀ k, W 114 k = M 114 k := fun k => by rw [hW, sU_ne (fun z => by omega), sU_ne (fun z => by omega), sU_ne (fun z => by omega)]
      intro h1 i hi hv hx
      unfold xV at hv
      unfold xB
      rw [r91_991] at h1
      rw [r91_992] at hx
      rw [r91_45, r91_46, r91_984] at hv
      rw [c113 i, c114 i, r91_993]
      by_cases hc : (i : Int) = 0
      · rw [show i = 0 by omega]
        exact hB
      · have h2 := qxY2 (by omega) i hi (by (try rw [h0] at hv); unfold xV; omega) (by omega)
        unfold xB at h2
        exact h2
    have k_xY3 : xY3 W := by
      have r91_984 : W 91 984 = 0 := by rw [hW, sU_ne (fun z => by omega), sU_ne (fun z => by omega), sU_at]
      have r91_985 : W 91 985 = 1 * (M 113 (0)) + 0 := by rw [hW, sU_ne (fun z => by omega), sU_at]
      have r91_986 : W 91 986 = 1 * (M 114 (0)) + 0 := by rw [hW, sU_at]
      have r91_992 : W 91 992 = M 91 992 := by rw [hW, sU_ne (fun z => by omega), sU_ne (fun z => by omega), sU_ne (fun z => by omega)]
      have c113 : ∀ k, W 113 k = M 113 k := fun k => by rw [hW, sU_ne (fun z => by omega), sU_ne (fun z => by omega), sU_ne (fun z => by omega)]
      have c114 : ∀ k, W 114 k = M 114 k := fun k => by rw [hW, sU_ne (fun z => by omega), sU_ne (fun z => by omega), sU_ne (fun z => by omega)]
      intro i hi he hx
      rw [r91_984] at he
      rw [r91_992] at hx
      rw [r91_985, r91_986]
      rw [c113 i, c114 i]
      (try rw [h0] at he)
      rw [show i = 0 by omega]
      exact ⟨by omega, by omega⟩
    have k_xZ1 : xZ1 W := by
      rw [hW]
      exact (uxZ1 rfl (uxZ1 rfl (uxZ1 rfl hI.2.2.2.2.2.2.1)))
    have k_xZ2 : xZ2 W := by
      rw [hW]
      exact (uxZ2 rfl (uxZ2 rfl (uxZ2 rfl hI.2.2.2.2.2.2.2.1)))
    have k_xZ3 : xZ3 W := by
      rw [hW]
      exact (uxZ3 rfl (uxZ3 rfl (uxZ3 rfl hI.2.2.2.2.2.2.2.2.1)))
    have k_xZ4 : xZ4 W := by
      rw [hW]
      exact (uxZ4 rfl (uxZ4 rfl (uxZ4 rfl hI.2.2.2.2.2.2.2.2.2.1)))
    have k_xZ5 : xZ5 W := by
      rw [hW]
      exact (uxZ5 rfl (uxZ5 rfl (uxZ5 rfl hI.2.2.2.2.2.2.2.2.2.2.1)))
    have k_xZ6 : xZ6 W := by
      rw [hW]
      exact (uxZ6 rfl (uxZ6 rfl (uxZ6 rfl hI.2.2.2.2.2.2.2.2.2.2.2.1)))
    have k_xZ7 : xZ7 W := by
      rw [hW]
      exact (uxZ7 rfl (uxZ7 rfl (uxZ7 rfl hI.2.2.2.2.2.2.2.2.2.2.2.2.1)))
    have k_xZ8 : xZ8 W := by
      rw [hW]
      exact (uxZ8 rfl (uxZ8 rfl (uxZ8 rfl hI.2.2.2.2.2.2.2.2.2.2.2.2.2.1)))
    have k_xZ9 : xZ9 W := by
      rw [hW]
      exact (uxZ9 rfl (uxZ9 rfl (uxZ9 rfl hI.2.2.2.2.2.2.2.2.2.2.2.2.2.2.1)))
    have k_xZa : xZa W := by
      rw [hW]
      exact (uxZa rfl (uxZa rfl (uxZa rfl hI.2.2.2.2.2.2.2.2.2.2.2.2.2.2.2.1)))
    have k_xZb : xZb W := by
      rw [hW]
      exact (uxZb rfl (uxZb rfl (uxZb rfl hI.2.2.2.2.2.2.2.2.2.2.2.2.2.2.2.2.1)))
    have k_xT1 : xT1 W := by
      rw [hW]
      exact (uxT1 rfl (uxT1 rfl (uxT1 rfl hI.2.2.2.2.2.2.2.2.2.2.2.2.2.2.2.2.2)))
    exact ⟨base, k2, k3, k_xY1, k_xY2, k_xY3, k_xZ1, k_xZ2, k_xZ3, k_xZ4, k_xZ5, k_xZ6, k_xZ7, k_xZ8, k_xZ9, k_xZa, k_xZb, k_xT1⟩
-- it2
def xr_27 : qRu := (3, [[(-1, 0), (1, 2)], [(1, 0), (-1, 2)]], [(91, 991, [(1, 0)]), (91, 992, [(50, 0)]), (91, 993, [(1, 1)]), (91, 45, [(1, 2)])], [], [(91, 984, [(2, 0)]), (91, 985, [(1, 3)]), (91, 986, [(1, 4)])], [[(1, 3)], [(8, 0), (-1, 3)], [(1, 4)], [(3, 0), (-1, 4)], [(-2, 0), (1, 1), (-1, 3), (9, 4)]])
theorem xo_27 : qRok xr_27 := by
  intro ρ M h0 hf hm hI
  have f0 := hf [(-1, 0), (1, 2)] (by decide)
  have f1 := hf [(1, 0), (-1, 2)] (by decide)
  simp only [qD, h0] at f0 f1
  have m0 : M 91 991 = 1 * ρ 0 + 0 := hm (91, 991, [(1, 0)]) (by decide)
  have m1 : M 91 992 = 50 * ρ 0 + 0 := hm (91, 992, [(50, 0)]) (by decide)
  have m2 : M 91 993 = 1 * ρ 1 + 0 := hm (91, 993, [(1, 1)]) (by decide)
  have m3 : M 91 45 = 1 * ρ 2 + 0 := hm (91, 45, [(1, 2)]) (by decide)
  simp only [h0] at m0 m1
  have qxY2 := hI.2.2.2.2.1
  have qxY3 := hI.2.2.2.2.2.1
  have b113 : (0 : Int) ≤ M 113 (2) ∧ M 113 (2) ≤ 8 := hI.1 113 (2) (0, 8) (xs_113 (by omega))
  have b114 : (0 : Int) ≤ M 114 (2) ∧ M 114 (2) ≤ 3 := hI.1 114 (2) (0, 3) (xs_114 (by omega))
  have hB := qxY2 (by omega) (2) (by omega) (by unfold xV; omega) (by omega)
  unfold xB at hB
  refine ⟨fun a => cond (Nat.blt a 3) (ρ a) (([M 113 (2), M 114 (2)] : List Int).getD (a - 3) 0), fun a ha => ?_, fun f h => ?_, ?_⟩
  · show cond (Nat.blt a 3) (ρ a) _ = ρ a
    rw [show Nat.blt a 3 = true from Nat.ble_eq_true_of_le ha]; rfl
  · have h : f ∈ ([[(1, 3)], [(8, 0), (-1, 3)], [(1, 4)], [(3, 0), (-1, 4)], [(-2, 0), (1, 1), (-1, 3), (9, 4)]] : List qF) := h
    simp only [List.mem_cons, List.not_mem_nil, or_false] at h
    rcases h with rfl | rfl | rfl | rfl | rfl
    · show 0 ≤ 1 * (M 113 (2)) + 0
      (try rw [h0]); omega
    · show 0 ≤ 8 * ρ 0 + (-1 * (M 113 (2)) + 0)
      (try rw [h0]); omega
    · show 0 ≤ 1 * (M 114 (2)) + 0
      (try rw [h0]); omega
    · show 0 ≤ 3 * ρ 0 + (-1 * (M 114 (2)) + 0)
      (try rw [h0]); omega
    · show 0 ≤ -2 * ρ 0 + (1 * ρ 1 + (-1 * (M 113 (2)) + (9 * (M 114 (2)) + 0)))
      (try rw [h0]); omega
  · show sI (sU (sU (sU M 91 984 (2 * ρ 0 + 0)) 91 985 (1 * (M 113 (2)) + 0)) 91 986 (1 * (M 114 (2)) + 0))
    obtain ⟨W, hW⟩ : ∃ W, W = (sU (sU (sU M 91 984 (2 * ρ 0 + 0)) 91 985 (1 * (M 113 (2)) + 0)) 91 986 (1 * (M 114 (2)) + 0)) := ⟨_, rfl⟩
    rw [← hW]
    have base : sI0 W := by
      rw [hW]
      exact (si_u0 (si_u0 (si_u0 hI.1 (fun r hr => by cases hr)) (fun r hr => by cases hr)) (fun r hr => by cases hr))
    have k2 : XI2 W := by
      rw [hW]
      exact (xi2_u rfl (xi2_u rfl (xi2_u rfl hI.2.1)))
    have k3 : XI3 W := by
      rw [hW]
      exact (xi3_u rfl (xi3_u rfl (xi3_u rfl hI.2.2.1)))
    have k_xY1 : xY1 W := by
      rw [hW]
      exact (uxY1 rfl (uxY1 rfl (uxY1 rfl hI.2.2.2.1)))
    have k_xY2 : xY2 W := by
      have r91_991 : W 91 991 = M 91 991 := by rw [hW, sU_ne (fun z => by omega), sU_ne (fun z => by omega), sU_ne (fun z => by omega)]
      have r91_992 : W 91 992 = M 91 992 := by rw [hW, sU_ne (fun z => by omega), sU_ne (fun z => by omega), sU_ne (fun z => by omega)]
      have r91_984 : W 91 984 = 2 * ρ 0 + 0 := by rw [hW, sU_ne (fun z => by omega), sU_ne (fun z => by omega), sU_at]
      have r91_993 : W 91 993 = M 91 993 := by rw [hW, sU_ne (fun z => by omega), sU_ne (fun z => by omega), sU_ne (fun z => by omega)]
      have r91_45 : W 91 45 = M 91 45 := by rw [hW, sU_ne (fun z => by omega), sU_ne (fun z => by omega), sU_ne (fun z => by omega)]
      have r91_46 : W 91 46 = M 91 46 := by rw [hW, sU_ne (fun z => by omega), sU_ne (fun z => by omega), sU_ne (fun z => by omega)]
      have c113 : ∀ k, W 113 k = M 113 k := fun k => by rw [hW, sU_ne (fun z => by omega), sU_ne (fun z => by omega), sU_ne (fun z => by omega)]
      have c114 : ∀ k, W 114 k = M 114 k := fun k => by rw [hW, sU_ne (fun z => by omega), sU_ne (fun z => by omega), sU_ne (fun z => by omega)]
      intro h1 i hi hv hx
      unfold xV at hv
      unfold xB
      rw [r91_991] at h1
      rw [r91_992] at hx
      rw [r91_45, r91_46, r91_984] at hv
      rw [c113 i, c114 i, r91_993]
      by_cases hc : (i : Int) = 2 * 1 + 0
      · rw [show i = 2 by omega]
        exact hB
      · have h2 := qxY2 (by omega) i hi (by (try rw [h0] at hv); unfold xV; omega) (by omega)
        unfold xB at h2
        exact h2
    have k_xY3 : xY3 W := by
      have r91_984 : W 91 984 = 2 * ρ 0 + 0 := by rw [hW, sU_ne (fun z => by omega), sU_ne (fun z => by omega), sU_at]
      have r91_985 : W 91 985 = 1 * (M 113 (2)) + 0 := by rw [hW, sU_ne (fun z => by omega), sU_at]
      have r91_986 : W 91 986 = 1 * (M 114 (2)) + 0 := by rw [hW, sU_at]
      have r91_992 : W 91 992 = M 91 992 := by rw [hW, sU_ne (fun z => by omega), sU_ne (fun z => by omega), sU_ne (fun z => by omega)]
      have c113 : ∀ k, W 113 k = M 113 k := fun k => by rw [hW, sU_ne (fun z => by omega), sU_ne (fun z => by omega), sU_ne (fun z => by omega)]
      have c114 : ∀ k, W 114 k = M 114 k := fun k => by rw [hW, sU_ne (fun z => by omega), sU_ne (fun z => by omega), sU_ne (fun z => by omega)]
      intro i hi he hx
      rw [r91_984] at he
      rw [r91_992] at hx
      rw [r91_985, r91_986]
      rw [c113 i, c114 i]
      (try rw [h0] at he)
      rw [show i = 2 by omega]
      exact ⟨by omega, by omega⟩
    have k_xZ1 : xZ1 W := by
      rw [hW]
      exact (uxZ1 rfl (uxZ1 rfl (uxZ1 rfl hI.2.2.2.2.2.2.1)))
    have k_xZ2 : xZ2 W := by
      rw [hW]
      exact (uxZ2 rfl (uxZ2 rfl (uxZ2 rfl hI.2.2.2.2.2.2.2.1)))
    have k_xZ3 : xZ3 W := by
      rw [hW]
      exact (uxZ3 rfl (uxZ3 rfl (uxZ3 rfl hI.2.2.2.2.2.2.2.2.1)))
    have k_xZ4 : xZ4 W := by
      rw [hW]
      exact (uxZ4 rfl (uxZ4 rfl (uxZ4 rfl hI.2.2.2.2.2.2.2.2.2.1)))
    have k_xZ5 : xZ5 W := by
      rw [hW]
      exact (uxZ5 rfl (uxZ5 rfl (uxZ5 rfl hI.2.2.2.2.2.2.2.2.2.2.1)))
    have k_xZ6 : xZ6 W := by
      rw [hW]
      exact (uxZ6 rfl (uxZ6 rfl (uxZ6 rfl hI.2.2.2.2.2.2.2.2.2.2.2.1)))
    have k_xZ7 : xZ7 W := by
      rw [hW]
      exact (uxZ7 rfl (uxZ7 rfl (uxZ7 rfl hI.2.2.2.2.2.2.2.2.2.2.2.2.1)))
    have k_xZ8 : xZ8 W := by
      rw [hW]
      exact (uxZ8 rfl (uxZ8 rfl (uxZ8 rfl hI.2.2.2.2.2.2.2.2.2.2.2.2.2.1)))
    have k_xZ9 : xZ9 W := by
      rw [hW]
      exact (uxZ9 rfl (uxZ9 rfl (uxZ9 rfl hI.2.2.2.2.2.2.2.2.2.2.2.2.2.2.1)))
    have k_xZa : xZa W := by
      rw [hW]
      exact (uxZa rfl (uxZa rfl (uxZa rfl hI.2.2.2.2.2.2.2.2.2.2.2.2.2.2.2.1)))
    have k_xZb : xZb W := by
      rw [hW]
      exact (uxZb rfl (uxZb rfl (uxZb rfl hI.2.2.2.2.2.2.2.2.2.2.2.2.2.2.2.2.1)))
    have k_xT1 : xT1 W := by
      rw [hW]
      exact (uxT1 rfl (uxT1 rfl (uxT1 rfl hI.2.2.2.2.2.2.2.2.2.2.2.2.2.2.2.2.2)))
    exact ⟨base, k2, k3, k_xY1, k_xY2, k_xY3, k_xZ1, k_xZ2, k_xZ3, k_xZ4, k_xZ5, k_xZ6, k_xZ7, k_xZ8, k_xZ9, k_xZa, k_xZb, k_xT1⟩
-- itk
def xr_28 : qRu := (4, [[(-3, 0), (1, 2)], [(2, 0), (-1, 2), (1, 3)], [(20, 0), (-1, 3)]], [(91, 991, [(1, 0)]), (91, 992, [(50, 0)]), (91, 993, [(1, 1)]), (91, 46, [(1, 3)])], [], [(91, 984, [(1, 2)]), (91, 985, [(1, 4)]), (91, 986, [(1, 5)])], [[(1, 4)], [(8, 0), (-1, 4)], [(1, 5)], [(3, 0), (-1, 5)], [(-2, 0), (1, 1), (-1, 4), (9, 5)]])
theorem xo_28 : qRok xr_28 := by
  intro ρ M h0 hf hm hI
  have f0 := hf [(-3, 0), (1, 2)] (by decide)
  have f1 := hf [(2, 0), (-1, 2), (1, 3)] (by decide)
  have f2 := hf [(20, 0), (-1, 3)] (by decide)
  simp only [qD, h0] at f0 f1 f2
  have m0 : M 91 991 = 1 * ρ 0 + 0 := hm (91, 991, [(1, 0)]) (by decide)
  have m1 : M 91 992 = 50 * ρ 0 + 0 := hm (91, 992, [(50, 0)]) (by decide)
  have m2 : M 91 993 = 1 * ρ 1 + 0 := hm (91, 993, [(1, 1)]) (by decide)
  have m3 : M 91 46 = 1 * ρ 3 + 0 := hm (91, 46, [(1, 3)]) (by decide)
  simp only [h0] at m0 m1
  have qxY2 := hI.2.2.2.2.1
  have qxY3 := hI.2.2.2.2.2.1
  have b113 : (0 : Int) ≤ M 113 ((ρ 2).toNat) ∧ M 113 ((ρ 2).toNat) ≤ 8 := hI.1 113 ((ρ 2).toNat) (0, 8) (xs_113 (by omega))
  have b114 : (0 : Int) ≤ M 114 ((ρ 2).toNat) ∧ M 114 ((ρ 2).toNat) ≤ 3 := hI.1 114 ((ρ 2).toNat) (0, 3) (xs_114 (by omega))
  have hB := qxY2 (by omega) ((ρ 2).toNat) (by omega) (by unfold xV; omega) (by omega)
  unfold xB at hB
  refine ⟨fun a => cond (Nat.blt a 4) (ρ a) (([M 113 ((ρ 2).toNat), M 114 ((ρ 2).toNat)] : List Int).getD (a - 4) 0), fun a ha => ?_, fun f h => ?_, ?_⟩
  · show cond (Nat.blt a 4) (ρ a) _ = ρ a
    rw [show Nat.blt a 4 = true from Nat.ble_eq_true_of_le ha]; rfl
  · have h : f ∈ ([[(1, 4)], [(8, 0), (-1, 4)], [(1, 5)], [(3, 0), (-1, 5)], [(-2, 0), (1, 1), (-1, 4), (9, 5)]] : List qF) := h
    simp only [List.mem_cons, List.not_mem_nil, or_false] at h
    rcases h with rfl | rfl | rfl | rfl | rfl
    · show 0 ≤ 1 * (M 113 ((ρ 2).toNat)) + 0
      (try rw [h0]); omega
    · show 0 ≤ 8 * ρ 0 + (-1 * (M 113 ((ρ 2).toNat)) + 0)
      (try rw [h0]); omega
    · show 0 ≤ 1 * (M 114 ((ρ 2).toNat)) + 0
      (try rw [h0]); omega
    · show 0 ≤ 3 * ρ 0 + (-1 * (M 114 ((ρ 2).toNat)) + 0)
      (try rw [h0]); omega
    · show 0 ≤ -2 * ρ 0 + (1 * ρ 1 + (-1 * (M 113 ((ρ 2).toNat)) + (9 * (M 114 ((ρ 2).toNat)) + 0)))
      (try rw [h0]); omega
  · show sI (sU (sU (sU M 91 984 (1 * ρ 2 + 0)) 91 985 (1 * (M 113 ((ρ 2).toNat)) + 0)) 91 986 (1 * (M 114 ((ρ 2).toNat)) + 0))
    obtain ⟨W, hW⟩ : ∃ W, W = (sU (sU (sU M 91 984 (1 * ρ 2 + 0)) 91 985 (1 * (M 113 ((ρ 2).toNat)) + 0)) 91 986 (1 * (M 114 ((ρ 2).toNat)) + 0)) := ⟨_, rfl⟩
    rw [← hW]
    have base : sI0 W := by
      rw [hW]
      exact (si_u0 (si_u0 (si_u0 hI.1 (fun r hr => by cases hr)) (fun r hr => by cases hr)) (fun r hr => by cases hr))
    have k2 : XI2 W := by
      rw [hW]
      exact (xi2_u rfl (xi2_u rfl (xi2_u rfl hI.2.1)))
    have k3 : XI3 W := by
      rw [hW]
      exact (xi3_u rfl (xi3_u rfl (xi3_u rfl hI.2.2.1)))
    have k_xY1 : xY1 W := by
      rw [hW]
      exact (uxY1 rfl (uxY1 rfl (uxY1 rfl hI.2.2.2.1)))
    have k_xY2 : xY2 W := by
      have r91_991 : W 91 991 = M 91 991 := by rw [hW, sU_ne (fun z => by omega), sU_ne (fun z => by omega), sU_ne (fun z => by omega)]
      have r91_992 : W 91 992 = M 91 992 := by rw [hW, sU_ne (fun z => by omega), sU_ne (fun z => by omega), sU_ne (fun z => by omega)]
      have r91_984 : W 91 984 = 1 * ρ 2 + 0 := by rw [hW, sU_ne (fun z => by omega), sU_ne (fun z => by omega), sU_at]
      have r91_993 : W 91 993 = M 91 993 := by rw [hW, sU_ne (fun z => by omega), sU_ne (fun z => by omega), sU_ne (fun z => by omega)]
      have r91_45 : W 91 45 = M 91 45 := by rw [hW, sU_ne (fun z => by omega), sU_ne (fun z => by omega), sU_ne (fun z => by omega)]
      have r91_46 : W 91 46 = M 91 46 := by rw [hW, sU_ne (fun z => by omega), sU_ne (fun z => by omega), sU_ne (fun z => by omega)]
      have c113 : ∀ k, W 113 k = M 113 k := fun k => by rw [hW, sU_ne (fun z => by omega), sU_ne (fun z => by omega), sU_ne (fun z => by omega)]
      have c114 : ∀ k, W 114 k = M 114 k := fun k => by rw [hW, sU_ne (fun z => by omega), sU_ne (fun z => by omega), sU_ne (fun z => by omega)]
      intro h1 i hi hv hx
      unfold xV at hv
      unfold xB
      rw [r91_991] at h1
      rw [r91_992] at hx
      rw [r91_45, r91_46, r91_984] at hv
      rw [c113 i, c114 i, r91_993]
      by_cases hc : (i : Int) = 1 * ρ 2 + 0
      · rw [show i = (ρ 2).toNat by omega]
        exact hB
      · have h2 := qxY2 (by omega) i hi (by (try rw [h0] at hv); unfold xV; omega) (by omega)
        unfold xB at h2
        exact h2
    have k_xY3 : xY3 W := by
      have r91_984 : W 91 984 = 1 * ρ 2 + 0 := by rw [hW, sU_ne (fun z => by omega), sU_ne (fun z => by omega), sU_at]
      have r91_985 : W 91 985 = 1 * (M 113 ((ρ 2).toNat)) + 0 := by rw [hW, sU_ne (fun z => by omega), sU_at]
      have r91_986 : W 91 986 = 1 * (M 114 ((ρ 2).toNat)) + 0 := by rw [hW, sU_at]
      have r91_992 : W 91 992 = M 91 992 := by rw [hW, sU_ne (fun z => by omega), sU_ne (fun z => by omega), sU_ne (fun z => by omega)]
      have c113 : ∀ k, W 113 k = M 113 k := fun k => by rw [hW, sU_ne (fun z => by omega), sU_ne (fun z => by omega), sU_ne (fun z => by omega)]
      have c114 : ∀ k, W 114 k = M 114 k := fun k => by rw [hW, sU_ne (fun z => by omega), sU_ne (fun z => by omega), sU_ne (fun z => by omega)]
      intro i hi he hx
      rw [r91_984] at he
      rw [r91_992] at hx
      rw [r91_985, r91_986]
      rw [c113 i, c114 i]
      (try rw [h0] at he)
      rw [show i = (ρ 2).toNat by omega]
      exact ⟨by omega, by omega⟩
    have k_xZ1 : xZ1 W := by
      rw [hW]
      exact (uxZ1 rfl (uxZ1 rfl (uxZ1 rfl hI.2.2.2.2.2.2.1)))
    have k_xZ2 : xZ2 W := by
      rw [hW]
      exact (uxZ2 rfl (uxZ2 rfl (uxZ2 rfl hI.2.2.2.2.2.2.2.1)))
    have k_xZ3 : xZ3 W := by
      rw [hW]
      exact (uxZ3 rfl (uxZ3 rfl (uxZ3 rfl hI.2.2.2.2.2.2.2.2.1)))
    have k_xZ4 : xZ4 W := by
      rw [hW]
      exact (uxZ4 rfl (uxZ4 rfl (uxZ4 rfl hI.2.2.2.2.2.2.2.2.2.1)))
    have k_xZ5 : xZ5 W := by
      rw [hW]
      exact (uxZ5 rfl (uxZ5 rfl (uxZ5 rfl hI.2.2.2.2.2.2.2.2.2.2.1)))
    have k_xZ6 : xZ6 W := by
      rw [hW]
      exact (uxZ6 rfl (uxZ6 rfl (uxZ6 rfl hI.2.2.2.2.2.2.2.2.2.2.2.1)))
    have k_xZ7 : xZ7 W := by
      rw [hW]
      exact (uxZ7 rfl (uxZ7 rfl (uxZ7 rfl hI.2.2.2.2.2.2.2.2.2.2.2.2.1)))
    have k_xZ8 : xZ8 W := by
      rw [hW]
      exact (uxZ8 rfl (uxZ8 rfl (uxZ8 rfl hI.2.2.2.2.2.2.2.2.2.2.2.2.2.1)))
    have k_xZ9 : xZ9 W := by
      rw [hW]
      exact (uxZ9 rfl (uxZ9 rfl (uxZ9 rfl hI.2.2.2.2.2.2.2.2.2.2.2.2.2.2.1)))
    have k_xZa : xZa W := by
      rw [hW]
      exact (uxZa rfl (uxZa rfl (uxZa rfl hI.2.2.2.2.2.2.2.2.2.2.2.2.2.2.2.1)))
    have k_xZb : xZb W := by
      rw [hW]
      exact (uxZb rfl (uxZb rfl (uxZb rfl hI.2.2.2.2.2.2.2.2.2.2.2.2.2.2.2.2.1)))
    have k_xT1 : xT1 W := by
      rw [hW]
      exact (uxT1 rfl (uxT1 rfl (uxT1 rfl hI.2.2.2.2.2.2.2.2.2.2.2.2.2.2.2.2.2)))
    exact ⟨base, k2, k3, k_xY1, k_xY2, k_xY3, k_xZ1, k_xZ2, k_xZ3, k_xZ4, k_xZ5, k_xZ6, k_xZ7, k_xZ8, k_xZ9, k_xZa, k_xZb, k_xT1⟩
-- bendU
def xr_29 : qRu := (6, [[(1, 1)], [(22, 0), (-1, 1)], [(-1, 0), (-1, 1), (1, 2)], [(1, 1), (-1, 5)], [(-1, 1), (1, 5)]], [(91, 984, [(1, 5)]), (91, 992, [(1, 2)]), (91, 985, [(1, 3)]), (113, 1001, [(1, 4)])], [], [], [[(1, 3), (-1, 4)], [(-1, 3), (1, 4)]])
theorem xo_29 : qRok xr_29 := by
  intro ρ M h0 hf hm hI
  have f0 := hf [(1, 1)] (by decide)
  have f1 := hf [(22, 0), (-1, 1)] (by decide)
  have f2 := hf [(-1, 0), (-1, 1), (1, 2)] (by decide)
  have f3 := hf [(1, 1), (-1, 5)] (by decide)
  have f4 := hf [(-1, 1), (1, 5)] (by decide)
  simp only [qD, h0] at f0 f1 f2 f3 f4
  have m0 : M 91 984 = 1 * ρ 5 + 0 := hm (91, 984, [(1, 5)]) (by decide)
  have m1 : M 91 992 = 1 * ρ 2 + 0 := hm (91, 992, [(1, 2)]) (by decide)
  have m2 : M 91 985 = 1 * ρ 3 + 0 := hm (91, 985, [(1, 3)]) (by decide)
  have m3 : M 113 (zIx ρ (1000 + 1)) = 1 * ρ 4 + 0 := hm (113, 1001, [(1, 4)]) (by decide)
  rw [zix_p] at m3
  have qxY3 := hI.2.2.2.2.2.1
  have h2 := qxY3 (ρ 1).toNat (by omega) (by omega) (by omega)
  refine ⟨ρ, fun _ _ => rfl, fun f h => ?_, ?_⟩
  · have h3 := h2.1
    have h : f ∈ ([[(1, 3), (-1, 4)], [(-1, 3), (1, 4)]] : List qF) := h
    simp only [List.mem_cons, List.not_mem_nil, or_false] at h
    rcases h with rfl | rfl
    · show 0 ≤ 1 * ρ 3 + (-1 * ρ 4 + 0)
      (try rw [h0]); omega
    · show 0 ≤ -1 * ρ 3 + (1 * ρ 4 + 0)
      (try rw [h0]); omega
  · show sI M
    exact hI
-- bendD
def xr_30 : qRu := (6, [[(1, 1)], [(22, 0), (-1, 1)], [(-1, 0), (1, 1), (-1, 2)], [(1, 1), (-1, 5)], [(-1, 1), (1, 5)]], [(91, 984, [(1, 5)]), (91, 992, [(1, 2)]), (91, 985, [(1, 3)]), (113, 1001, [(1, 4)])], [], [], [[(1, 3), (-1, 4)], [(-1, 3), (1, 4)]])
theorem xo_30 : qRok xr_30 := by
  intro ρ M h0 hf hm hI
  have f0 := hf [(1, 1)] (by decide)
  have f1 := hf [(22, 0), (-1, 1)] (by decide)
  have f2 := hf [(-1, 0), (1, 1), (-1, 2)] (by decide)
  have f3 := hf [(1, 1), (-1, 5)] (by decide)
  have f4 := hf [(-1, 1), (1, 5)] (by decide)
  simp only [qD, h0] at f0 f1 f2 f3 f4
  have m0 : M 91 984 = 1 * ρ 5 + 0 := hm (91, 984, [(1, 5)]) (by decide)
  have m1 : M 91 992 = 1 * ρ 2 + 0 := hm (91, 992, [(1, 2)]) (by decide)
  have m2 : M 91 985 = 1 * ρ 3 + 0 := hm (91, 985, [(1, 3)]) (by decide)
  have m3 : M 113 (zIx ρ (1000 + 1)) = 1 * ρ 4 + 0 := hm (113, 1001, [(1, 4)]) (by decide)
  rw [zix_p] at m3
  have qxY3 := hI.2.2.2.2.2.1
  have h2 := qxY3 (ρ 1).toNat (by omega) (by omega) (by omega)
  refine ⟨ρ, fun _ _ => rfl, fun f h => ?_, ?_⟩
  · have h3 := h2.1
    have h : f ∈ ([[(1, 3), (-1, 4)], [(-1, 3), (1, 4)]] : List qF) := h
    simp only [List.mem_cons, List.not_mem_nil, or_false] at h
    rcases h with rfl | rfl
    · show 0 ≤ 1 * ρ 3 + (-1 * ρ 4 + 0)
      (try rw [h0]); omega
    · show 0 ≤ -1 * ρ 3 + (1 * ρ 4 + 0)
      (try rw [h0]); omega
  · show sI M
    exact hI
-- stateU
def xr_31 : qRu := (6, [[(1, 1)], [(22, 0), (-1, 1)], [(-1, 0), (-1, 1), (1, 2)], [(1, 1), (-1, 5)], [(-1, 1), (1, 5)]], [(91, 984, [(1, 5)]), (91, 992, [(1, 2)]), (91, 986, [(1, 3)]), (114, 1001, [(1, 4)])], [], [], [[(1, 3), (-1, 4)], [(-1, 3), (1, 4)]])
theorem xo_31 : qRok xr_31 := by
  intro ρ M h0 hf hm hI
  have f0 := hf [(1, 1)] (by decide)
  have f1 := hf [(22, 0), (-1, 1)] (by decide)
  have f2 := hf [(-1, 0), (-1, 1), (1, 2)] (by decide)
  have f3 := hf [(1, 1), (-1, 5)] (by decide)
  have f4 := hf [(-1, 1), (1, 5)] (by decide)
  simp only [qD, h0] at f0 f1 f2 f3 f4
  have m0 : M 91 984 = 1 * ρ 5 + 0 := hm (91, 984, [(1, 5)]) (by decide)
  have m1 : M 91 992 = 1 * ρ 2 + 0 := hm (91, 992, [(1, 2)]) (by decide)
  have m2 : M 91 986 = 1 * ρ 3 + 0 := hm (91, 986, [(1, 3)]) (by decide)
  have m3 : M 114 (zIx ρ (1000 + 1)) = 1 * ρ 4 + 0 := hm (114, 1001, [(1, 4)]) (by decide)
  rw [zix_p] at m3
  have qxY3 := hI.2.2.2.2.2.1
  have h2 := qxY3 (ρ 1).toNat (by omega) (by omega) (by omega)
  refine ⟨ρ, fun _ _ => rfl, fun f h => ?_, ?_⟩
  · have h3 := h2.2
    have h : f ∈ ([[(1, 3), (-1, 4)], [(-1, 3), (1, 4)]] : List qF) := h
    simp only [List.mem_cons, List.not_mem_nil, or_false] at h
    rcases h with rfl | rfl
    · show 0 ≤ 1 * ρ 3 + (-1 * ρ 4 + 0)
      (try rw [h0]); omega
    · show 0 ≤ -1 * ρ 3 + (1 * ρ 4 + 0)
      (try rw [h0]); omega
  · show sI M
    exact hI
-- stateD
def xr_32 : qRu := (6, [[(1, 1)], [(22, 0), (-1, 1)], [(-1, 0), (1, 1), (-1, 2)], [(1, 1), (-1, 5)], [(-1, 1), (1, 5)]], [(91, 984, [(1, 5)]), (91, 992, [(1, 2)]), (91, 986, [(1, 3)]), (114, 1001, [(1, 4)])], [], [], [[(1, 3), (-1, 4)], [(-1, 3), (1, 4)]])
theorem xo_32 : qRok xr_32 := by
  intro ρ M h0 hf hm hI
  have f0 := hf [(1, 1)] (by decide)
  have f1 := hf [(22, 0), (-1, 1)] (by decide)
  have f2 := hf [(-1, 0), (1, 1), (-1, 2)] (by decide)
  have f3 := hf [(1, 1), (-1, 5)] (by decide)
  have f4 := hf [(-1, 1), (1, 5)] (by decide)
  simp only [qD, h0] at f0 f1 f2 f3 f4
  have m0 : M 91 984 = 1 * ρ 5 + 0 := hm (91, 984, [(1, 5)]) (by decide)
  have m1 : M 91 992 = 1 * ρ 2 + 0 := hm (91, 992, [(1, 2)]) (by decide)
  have m2 : M 91 986 = 1 * ρ 3 + 0 := hm (91, 986, [(1, 3)]) (by decide)
  have m3 : M 114 (zIx ρ (1000 + 1)) = 1 * ρ 4 + 0 := hm (114, 1001, [(1, 4)]) (by decide)
  rw [zix_p] at m3
  have qxY3 := hI.2.2.2.2.2.1
  have h2 := qxY3 (ρ 1).toNat (by omega) (by omega) (by omega)
  refine ⟨ρ, fun _ _ => rfl, fun f h => ?_, ?_⟩
  · have h3 := h2.2
    have h : f ∈ ([[(1, 3), (-1, 4)], [(-1, 3), (1, 4)]] : List qF) := h
    simp only [List.mem_cons, List.not_mem_nil, or_false] at h
    rcases h with rfl | rfl
    · show 0 ≤ 1 * ρ 3 + (-1 * ρ 4 + 0)
      (try rw [h0]); omega
    · show 0 ≤ -1 * ρ 3 + (1 * ρ 4 + 0)
      (try rw [h0]); omega
  · show sI M
    exact hI
-- bm
def xr_33 : qRu := (3, [[(-2, 0), (1, 1)]], [(93, 0, [(1, 1)]), (91, 993, [(1, 2)])], [], [], [[(1, 1), (-1, 2)], [(-1, 1), (1, 2)]])
theorem xo_33 : qRok xr_33 := by
  intro ρ M h0 hf hm hI
  have f0 := hf [(-2, 0), (1, 1)] (by decide)
  simp only [qD, h0] at f0
  have m0 : M 93 0 = 1 * ρ 1 + 0 := hm (93, 0, [(1, 1)]) (by decide)
  have m1 : M 91 993 = 1 * ρ 2 + 0 := hm (91, 993, [(1, 2)]) (by decide)
  have qxY1 := hI.2.2.2.1
  have h2 : M 91 993 = (if M 93 0 < 2 then 2 else M 93 0) := qxY1
  rw [if_neg (by omega)] at h2
  refine ⟨ρ, fun _ _ => rfl, fun f h => ?_, ?_⟩
  · have h : f ∈ ([[(1, 1), (-1, 2)], [(-1, 1), (1, 2)]] : List qF) := h
    simp only [List.mem_cons, List.not_mem_nil, or_false] at h
    rcases h with rfl | rfl
    · show 0 ≤ 1 * ρ 1 + (-1 * ρ 2 + 0)
      (try rw [h0]); omega
    · show 0 ≤ -1 * ρ 1 + (1 * ρ 2 + 0)
      (try rw [h0]); omega
  · show sI M
    exact hI
-- bm9
def xr_34 : qRu := (2, [], [(91, 993, [(1, 1)])], [], [], [[(-2, 0), (1, 1)], [(9, 0), (-1, 1)]])
theorem xo_34 : qRok xr_34 := by
  intro ρ M h0 hf hm hI
  have m0 : M 91 993 = 1 * ρ 1 + 0 := hm (91, 993, [(1, 1)]) (by decide)
  have qxY1 := hI.2.2.2.1
  have h2 : M 91 993 = (if M 93 0 < 2 then 2 else M 93 0) := qxY1
  have h3 : (0 : Int) ≤ M 93 0 ∧ M 93 0 ≤ 9 := hI.1 93 0 (0, 9) rfl
  have h4 : 2 ≤ M 91 993 ∧ M 91 993 ≤ 9 := by
    rw [h2]
    split <;> omega
  refine ⟨ρ, fun _ _ => rfl, fun f h => ?_, ?_⟩
  · have h : f ∈ ([[(-2, 0), (1, 1)], [(9, 0), (-1, 1)]] : List qF) := h
    simp only [List.mem_cons, List.not_mem_nil, or_false] at h
    rcases h with rfl | rfl
    · show 0 ≤ -2 * ρ 0 + (1 * ρ 1 + 0)
      (try rw [h0]); omega
    · show 0 ≤ 9 * ρ 0 + (-1 * ρ 1 + 0)
      (try rw [h0]); omega
  · show sI M
    exact hI
-- bends
def xr_35 : qRu := (2, [[(1, 1)], [(9, 0), (-1, 1)]], [(91, 991, [])], [(93, [], [(1, 1)])], [(91, 993, [(1, 2)])], [])
theorem xo_35 : qRok xr_35 := by
  intro ρ M h0 hf hm hI
  have f0 := hf [(1, 1)] (by decide)
  have f1 := hf [(9, 0), (-1, 1)] (by decide)
  simp only [qD, h0] at f0 f1
  have m0 : M 91 991 = 0 := hm (91, 991, []) (by decide)
  have qxY1 := hI.2.2.2.1
  have qxY2 := hI.2.2.2.2.1
  refine ⟨fun a => cond (Nat.blt a 2) (ρ a) (([if 1 * ρ 1 + 0 < 2 then 2 else 1 * ρ 1 + 0] : List Int).getD (a - 2) 0), fun a ha => ?_, fun f h => ?_, ?_⟩
  · show cond (Nat.blt a 2) (ρ a) _ = ρ a
    rw [show Nat.blt a 2 = true from Nat.ble_eq_true_of_le ha]; rfl
  · exact nomatch h
  · show sI (sU (sU M 93 (0 : Int).toNat (1 * ρ 1 + 0)) 91 993 (1 * (if 1 * ρ 1 + 0 < 2 then 2 else 1 * ρ 1 + 0) + 0))
    rw [show (0 : Int).toNat = 0 by (try rw [h0]); rfl]
    obtain ⟨W, hW⟩ : ∃ W, W = (sU (sU M 93 0 (1 * ρ 1 + 0)) 91 993 (1 * (if 1 * ρ 1 + 0 < 2 then 2 else 1 * ρ 1 + 0) + 0)) := ⟨_, rfl⟩
    rw [← hW]
    have base : sI0 W := by
      rw [hW]
      exact (si_u0 (si_u0 hI.1 (fun r hr => by have hr : some ((0 : Int), (9 : Int)) = some r := hr; cases hr; exact ⟨by show (0 : Int) ≤ _; (try rw [h0]); omega, by show _ ≤ (9 : Int); (try rw [h0]); omega⟩)) (fun r hr => by cases hr))
    have k2 : XI2 W := by
      rw [hW]
      exact (xi2_u rfl (xi2_u rfl hI.2.1))
    have k3 : XI3 W := by
      rw [hW]
      exact (xi3_u rfl (xi3_u rfl hI.2.2.1))
    have k_xY1 : xY1 W := by
      have r91_993 : W 91 993 = 1 * (if 1 * ρ 1 + 0 < 2 then 2 else 1 * ρ 1 + 0) + 0 := by rw [hW, sU_at]
      have r93_0 : W 93 0 = 1 * ρ 1 + 0 := by rw [hW, sU_ne (fun z => by omega), sU_at]
      unfold xY1
      rw [r91_993, r93_0]
      split <;> omega
    have k_xY2 : xY2 W := by
      have r91_991 : W 91 991 = M 91 991 := by rw [hW, sU_ne (fun z => by omega), sU_ne (fun z => by omega)]
      have r91_992 : W 91 992 = M 91 992 := by rw [hW, sU_ne (fun z => by omega), sU_ne (fun z => by omega)]
      have r91_984 : W 91 984 = M 91 984 := by rw [hW, sU_ne (fun z => by omega), sU_ne (fun z => by omega)]
      have r91_993 : W 91 993 = 1 * (if 1 * ρ 1 + 0 < 2 then 2 else 1 * ρ 1 + 0) + 0 := by rw [hW, sU_at]
      have r91_45 : W 91 45 = M 91 45 := by rw [hW, sU_ne (fun z => by omega), sU_ne (fun z => by omega)]
      have r91_46 : W 91 46 = M 91 46 := by rw [hW, sU_ne (fun z => by omega), sU_ne (fun z => by omega)]
      have c113 : ∀ k, W 113 k = M 113 k := fun k => by rw [hW, sU_ne (fun z => by omega), sU_ne (fun z => by omega)]
      have c114 : ∀ k, W 114 k = M 114 k := fun k => by rw [hW, sU_ne (fun z => by omega), sU_ne (fun z => by omega)]
      intro h1 i hi hv hx
      unfold xV at hv
      unfold xB
      rw [r91_991] at h1
      rw [r91_992] at hx
      rw [r91_45, r91_46, r91_984] at hv
      omega
    have k_xY3 : xY3 W := by
      rw [hW]
      exact (uxY3 rfl (uxY3 rfl hI.2.2.2.2.2.1))
    have k_xZ1 : xZ1 W := by
      rw [hW]
      exact (uxZ1 rfl (uxZ1 rfl hI.2.2.2.2.2.2.1))
    have k_xZ2 : xZ2 W := by
      rw [hW]
      exact (uxZ2 rfl (uxZ2 rfl hI.2.2.2.2.2.2.2.1))
    have k_xZ3 : xZ3 W := by
      rw [hW]
      exact (uxZ3 rfl (uxZ3 rfl hI.2.2.2.2.2.2.2.2.1))
    have k_xZ4 : xZ4 W := by
      rw [hW]
      exact (uxZ4 rfl (uxZ4 rfl hI.2.2.2.2.2.2.2.2.2.1))
    have k_xZ5 : xZ5 W := by
      rw [hW]
      exact (uxZ5 rfl (uxZ5 rfl hI.2.2.2.2.2.2.2.2.2.2.1))
    have k_xZ6 : xZ6 W := by
      rw [hW]
      exact (uxZ6 rfl (uxZ6 rfl hI.2.2.2.2.2.2.2.2.2.2.2.1))
    have k_xZ7 : xZ7 W := by
      rw [hW]
      exact (uxZ7 rfl (uxZ7 rfl hI.2.2.2.2.2.2.2.2.2.2.2.2.1))
    have k_xZ8 : xZ8 W := by
      rw [hW]
      exact (uxZ8 rfl (uxZ8 rfl hI.2.2.2.2.2.2.2.2.2.2.2.2.2.1))
    have k_xZ9 : xZ9 W := by
      rw [hW]
      exact (uxZ9 rfl (uxZ9 rfl hI.2.2.2.2.2.2.2.2.2.2.2.2.2.2.1))
    have k_xZa : xZa W := by
      rw [hW]
      exact (uxZa rfl (uxZa rfl hI.2.2.2.2.2.2.2.2.2.2.2.2.2.2.2.1))
    have k_xZb : xZb W := by
      rw [hW]
      exact (uxZb rfl (uxZb rfl hI.2.2.2.2.2.2.2.2.2.2.2.2.2.2.2.2.1))
    have k_xT1 : xT1 W := by
      rw [hW]
      exact (uxT1 rfl (uxT1 rfl hI.2.2.2.2.2.2.2.2.2.2.2.2.2.2.2.2.2))
    exact ⟨base, k2, k3, k_xY1, k_xY2, k_xY3, k_xZ1, k_xZ2, k_xZ3, k_xZ4, k_xZ5, k_xZ6, k_xZ7, k_xZ8, k_xZ9, k_xZa, k_xZb, k_xT1⟩
-- unclaim
def xr_36 : qRu := (1, [], [], [], [(91, 991, []), (91, 992, []), (91, 984, [(50, 0)])], [])
theorem xo_36 : qRok xr_36 := by
  intro ρ M h0 hf hm hI
  have qxY2 := hI.2.2.2.2.1
  have qxY3 := hI.2.2.2.2.2.1
  refine ⟨ρ, fun _ _ => rfl, fun f h => ?_, ?_⟩
  · exact nomatch h
  · show sI (sU (sU (sU M 91 991 (0)) 91 992 (0)) 91 984 (50 * ρ 0 + 0))
    obtain ⟨W, hW⟩ : ∃ W, W = (sU (sU (sU M 91 991 (0)) 91 992 (0)) 91 984 (50 * ρ 0 + 0)) := ⟨_, rfl⟩
    rw [← hW]
    have base : sI0 W := by
      rw [hW]
      exact (si_u0 (si_u0 (si_u0 hI.1 (fun r hr => by cases hr)) (fun r hr => by cases hr)) (fun r hr => by cases hr))
    have k2 : XI2 W := by
      rw [hW]
      exact (xi2_u rfl (xi2_u rfl (xi2_u rfl hI.2.1)))
    have k3 : XI3 W := by
      rw [hW]
      exact (xi3_u rfl (xi3_u rfl (xi3_u rfl hI.2.2.1)))
    have k_xY1 : xY1 W := by
      rw [hW]
      exact (uxY1 rfl (uxY1 rfl (uxY1 rfl hI.2.2.2.1)))
    have k_xY2 : xY2 W := by
      have r91_991 : W 91 991 = 0 := by rw [hW, sU_ne (fun z => by omega), sU_ne (fun z => by omega), sU_at]
      have r91_992 : W 91 992 = 0 := by rw [hW, sU_ne (fun z => by omega), sU_at]
      have r91_984 : W 91 984 = 50 * ρ 0 + 0 := by rw [hW, sU_at]
      have r91_993 : W 91 993 = M 91 993 := by rw [hW, sU_ne (fun z => by omega), sU_ne (fun z => by omega), sU_ne (fun z => by omega)]
      have r91_45 : W 91 45 = M 91 45 := by rw [hW, sU_ne (fun z => by omega), sU_ne (fun z => by omega), sU_ne (fun z => by omega)]
      have r91_46 : W 91 46 = M 91 46 := by rw [hW, sU_ne (fun z => by omega), sU_ne (fun z => by omega), sU_ne (fun z => by omega)]
      have c113 : ∀ k, W 113 k = M 113 k := fun k => by rw [hW, sU_ne (fun z => by omega), sU_ne (fun z => by omega), sU_ne (fun z => by omega)]
      have c114 : ∀ k, W 114 k = M 114 k := fun k => by rw [hW, sU_ne (fun z => by omega), sU_ne (fun z => by omega), sU_ne (fun z => by omega)]
      intro h1 i hi hv hx
      unfold xV at hv
      unfold xB
      rw [r91_991] at h1
      rw [r91_992] at hx
      rw [r91_45, r91_46, r91_984] at hv
      omega
    have k_xY3 : xY3 W := by
      have r91_984 : W 91 984 = 50 * ρ 0 + 0 := by rw [hW, sU_at]
      have r91_985 : W 91 985 = M 91 985 := by rw [hW, sU_ne (fun z => by omega), sU_ne (fun z => by omega), sU_ne (fun z => by omega)]
      have r91_986 : W 91 986 = M 91 986 := by rw [hW, sU_ne (fun z => by omega), sU_ne (fun z => by omega), sU_ne (fun z => by omega)]
      have r91_992 : W 91 992 = 0 := by rw [hW, sU_ne (fun z => by omega), sU_at]
      have c113 : ∀ k, W 113 k = M 113 k := fun k => by rw [hW, sU_ne (fun z => by omega), sU_ne (fun z => by omega), sU_ne (fun z => by omega)]
      have c114 : ∀ k, W 114 k = M 114 k := fun k => by rw [hW, sU_ne (fun z => by omega), sU_ne (fun z => by omega), sU_ne (fun z => by omega)]
      intro i hi he hx
      rw [r91_984, h0] at he
      omega
    have k_xZ1 : xZ1 W := by
      rw [hW]
      exact (uxZ1 rfl (uxZ1 rfl (uxZ1 rfl hI.2.2.2.2.2.2.1)))
    have k_xZ2 : xZ2 W := by
      rw [hW]
      exact (uxZ2 rfl (uxZ2 rfl (uxZ2 rfl hI.2.2.2.2.2.2.2.1)))
    have k_xZ3 : xZ3 W := by
      rw [hW]
      exact (uxZ3 rfl (uxZ3 rfl (uxZ3 rfl hI.2.2.2.2.2.2.2.2.1)))
    have k_xZ4 : xZ4 W := by
      rw [hW]
      exact (uxZ4 rfl (uxZ4 rfl (uxZ4 rfl hI.2.2.2.2.2.2.2.2.2.1)))
    have k_xZ5 : xZ5 W := by
      rw [hW]
      exact (uxZ5 rfl (uxZ5 rfl (uxZ5 rfl hI.2.2.2.2.2.2.2.2.2.2.1)))
    have k_xZ6 : xZ6 W := by
      rw [hW]
      exact (uxZ6 rfl (uxZ6 rfl (uxZ6 rfl hI.2.2.2.2.2.2.2.2.2.2.2.1)))
    have k_xZ7 : xZ7 W := by
      rw [hW]
      exact (uxZ7 rfl (uxZ7 rfl (uxZ7 rfl hI.2.2.2.2.2.2.2.2.2.2.2.2.1)))
    have k_xZ8 : xZ8 W := by
      rw [hW]
      exact (uxZ8 rfl (uxZ8 rfl (uxZ8 rfl hI.2.2.2.2.2.2.2.2.2.2.2.2.2.1)))
    have k_xZ9 : xZ9 W := by
      rw [hW]
      exact (uxZ9 rfl (uxZ9 rfl (uxZ9 rfl hI.2.2.2.2.2.2.2.2.2.2.2.2.2.2.1)))
    have k_xZa : xZa W := by
      rw [hW]
      exact (uxZa rfl (uxZa rfl (uxZa rfl hI.2.2.2.2.2.2.2.2.2.2.2.2.2.2.2.1)))
    have k_xZb : xZb W := by
      rw [hW]
      exact (uxZb rfl (uxZb rfl (uxZb rfl hI.2.2.2.2.2.2.2.2.2.2.2.2.2.2.2.2.1)))
    have k_xT1 : xT1 W := by
      rw [hW]
      exact (uxT1 rfl (uxT1 rfl (uxT1 rfl hI.2.2.2.2.2.2.2.2.2.2.2.2.2.2.2.2.2)))
    exact ⟨base, k2, k3, k_xY1, k_xY2, k_xY3, k_xZ1, k_xZ2, k_xZ3, k_xZ4, k_xZ5, k_xZ6, k_xZ7, k_xZ8, k_xZ9, k_xZa, k_xZb, k_xT1⟩
-- reclaim
def xr_37 : qRu := (1, [], [(113, 0, []), (114, 0, []), (91, 45, []), (91, 46, [])], [], [(91, 991, [(1, 0)]), (91, 992, [(50, 0)]), (91, 984, [(50, 0)])], [])
theorem xo_37 : qRok xr_37 := by
  intro ρ M h0 hf hm hI
  have m0 : M 113 0 = 0 := hm (113, 0, []) (by decide)
  have m1 : M 114 0 = 0 := hm (114, 0, []) (by decide)
  have m2 : M 91 45 = 0 := hm (91, 45, []) (by decide)
  have m3 : M 91 46 = 0 := hm (91, 46, []) (by decide)
  have qxY1 := hI.2.2.2.1
  have qxY2 := hI.2.2.2.2.1
  have qxY3 := hI.2.2.2.2.2.1
  refine ⟨ρ, fun _ _ => rfl, fun f h => ?_, ?_⟩
  · exact nomatch h
  · show sI (sU (sU (sU M 91 991 (1 * ρ 0 + 0)) 91 992 (50 * ρ 0 + 0)) 91 984 (50 * ρ 0 + 0))
    obtain ⟨W, hW⟩ : ∃ W, W = (sU (sU (sU M 91 991 (1 * ρ 0 + 0)) 91 992 (50 * ρ 0 + 0)) 91 984 (50 * ρ 0 + 0)) := ⟨_, rfl⟩
    rw [← hW]
    have base : sI0 W := by
      rw [hW]
      exact (si_u0 (si_u0 (si_u0 hI.1 (fun r hr => by cases hr)) (fun r hr => by cases hr)) (fun r hr => by cases hr))
    have k2 : XI2 W := by
      rw [hW]
      exact (xi2_u rfl (xi2_u rfl (xi2_u rfl hI.2.1)))
    have k3 : XI3 W := by
      rw [hW]
      exact (xi3_u rfl (xi3_u rfl (xi3_u rfl hI.2.2.1)))
    have k_xY1 : xY1 W := by
      rw [hW]
      exact (uxY1 rfl (uxY1 rfl (uxY1 rfl hI.2.2.2.1)))
    have k_xY2 : xY2 W := by
      have r91_991 : W 91 991 = 1 * ρ 0 + 0 := by rw [hW, sU_ne (fun z => by omega), sU_ne (fun z => by omega), sU_at]
      have r91_992 : W 91 992 = 50 * ρ 0 + 0 := by rw [hW, sU_ne (fun z => by omega), sU_at]
      have r91_984 : W 91 984 = 50 * ρ 0 + 0 := by rw [hW, sU_at]
      have r91_993 : W 91 993 = M 91 993 := by rw [hW, sU_ne (fun z => by omega), sU_ne (fun z => by omega), sU_ne (fun z => by omega)]
      have r91_45 : W 91 45 = M 91 45 := by rw [hW, sU_ne (fun z => by omega), sU_ne (fun z => by omega), sU_ne (fun z => by omega)]
      have r91_46 : W 91 46 = M 91 46 := by rw [hW, sU_ne (fun z => by omega), sU_ne (fun z => by omega), sU_ne (fun z => by omega)]
      have c113 : ∀ k, W 113 k = M 113 k := fun k => by rw [hW, sU_ne (fun z => by omega), sU_ne (fun z => by omega), sU_ne (fun z => by omega)]
      have c114 : ∀ k, W 114 k = M 114 k := fun k => by rw [hW, sU_ne (fun z => by omega), sU_ne (fun z => by omega), sU_ne (fun z => by omega)]
      intro h1 i hi hv hx
      unfold xV at hv
      unfold xB
      rw [r91_991] at h1
      rw [r91_992] at hx
      rw [r91_45, r91_46, r91_984] at hv
      rw [c113 i, c114 i, r91_993]
      rw [h0] at hv
      have h2 : M 91 993 = (if M 93 0 < 2 then 2 else M 93 0) := qxY1
      have h4 : 2 ≤ M 91 993 := by
        rw [h2]
        split <;> omega
      rw [show i = 0 by omega]
      omega
    have k_xY3 : xY3 W := by
      have r91_984 : W 91 984 = 50 * ρ 0 + 0 := by rw [hW, sU_at]
      have r91_985 : W 91 985 = M 91 985 := by rw [hW, sU_ne (fun z => by omega), sU_ne (fun z => by omega), sU_ne (fun z => by omega)]
      have r91_986 : W 91 986 = M 91 986 := by rw [hW, sU_ne (fun z => by omega), sU_ne (fun z => by omega), sU_ne (fun z => by omega)]
      have r91_992 : W 91 992 = 50 * ρ 0 + 0 := by rw [hW, sU_ne (fun z => by omega), sU_at]
      have c113 : ∀ k, W 113 k = M 113 k := fun k => by rw [hW, sU_ne (fun z => by omega), sU_ne (fun z => by omega), sU_ne (fun z => by omega)]
      have c114 : ∀ k, W 114 k = M 114 k := fun k => by rw [hW, sU_ne (fun z => by omega), sU_ne (fun z => by omega), sU_ne (fun z => by omega)]
      intro i hi he hx
      rw [r91_984, h0] at he
      omega
    have k_xZ1 : xZ1 W := by
      rw [hW]
      exact (uxZ1 rfl (uxZ1 rfl (uxZ1 rfl hI.2.2.2.2.2.2.1)))
    have k_xZ2 : xZ2 W := by
      rw [hW]
      exact (uxZ2 rfl (uxZ2 rfl (uxZ2 rfl hI.2.2.2.2.2.2.2.1)))
    have k_xZ3 : xZ3 W := by
      rw [hW]
      exact (uxZ3 rfl (uxZ3 rfl (uxZ3 rfl hI.2.2.2.2.2.2.2.2.1)))
    have k_xZ4 : xZ4 W := by
      rw [hW]
      exact (uxZ4 rfl (uxZ4 rfl (uxZ4 rfl hI.2.2.2.2.2.2.2.2.2.1)))
    have k_xZ5 : xZ5 W := by
      rw [hW]
      exact (uxZ5 rfl (uxZ5 rfl (uxZ5 rfl hI.2.2.2.2.2.2.2.2.2.2.1)))
    have k_xZ6 : xZ6 W := by
      rw [hW]
      exact (uxZ6 rfl (uxZ6 rfl (uxZ6 rfl hI.2.2.2.2.2.2.2.2.2.2.2.1)))
    have k_xZ7 : xZ7 W := by
      rw [hW]
      exact (uxZ7 rfl (uxZ7 rfl (uxZ7 rfl hI.2.2.2.2.2.2.2.2.2.2.2.2.1)))
    have k_xZ8 : xZ8 W := by
      rw [hW]
      exact (uxZ8 rfl (uxZ8 rfl (uxZ8 rfl hI.2.2.2.2.2.2.2.2.2.2.2.2.2.1)))
    have k_xZ9 : xZ9 W := by
      rw [hW]
      exact (uxZ9 rfl (uxZ9 rfl (uxZ9 rfl hI.2.2.2.2.2.2.2.2.2.2.2.2.2.2.1)))
    have k_xZa : xZa W := by
      rw [hW]
      exact (uxZa rfl (uxZa rfl (uxZa rfl hI.2.2.2.2.2.2.2.2.2.2.2.2.2.2.2.1)))
    have k_xZb : xZb W := by
      rw [hW]
      exact (uxZb rfl (uxZb rfl (uxZb rfl hI.2.2.2.2.2.2.2.2.2.2.2.2.2.2.2.2.1)))
    have k_xT1 : xT1 W := by
      rw [hW]
      exact (uxT1 rfl (uxT1 rfl (uxT1 rfl hI.2.2.2.2.2.2.2.2.2.2.2.2.2.2.2.2.2)))
    exact ⟨base, k2, k3, k_xY1, k_xY2, k_xY3, k_xZ1, k_xZ2, k_xZ3, k_xZ4, k_xZ5, k_xZ6, k_xZ7, k_xZ8, k_xZ9, k_xZa, k_xZb, k_xT1⟩
-- knotSort
def xr_38 : qRu := (4, [[(-64, 0), (1, 1), (-1, 2)], [(64, 0), (-1, 1), (1, 2)], [(1, 3)], [(2, 0), (-1, 3)]], [(93, 17, [(1, 2)])], [(110, [(1, 1)], [(1, 3)])], [(91, 972, [(1, 3)]), (91, 987, [(1, 4)]), (91, 988, [(1, 5)]), (91, 989, []), (91, 978, []), (91, 964, [])], [])
theorem xo_38 : qRok xr_38 := by
  intro ρ M h0 hf hm hI
  have f0 := hf [(-64, 0), (1, 1), (-1, 2)] (by decide)
  have f1 := hf [(64, 0), (-1, 1), (1, 2)] (by decide)
  have f2 := hf [(1, 3)] (by decide)
  have f3 := hf [(2, 0), (-1, 3)] (by decide)
  simp only [qD, h0] at f0 f1 f2 f3
  have m0 : M 93 17 = 1 * ρ 2 + 0 := hm (93, 17, [(1, 2)]) (by decide)
  have qxZ1 := hI.2.2.2.2.2.2.1
  have qxZ2 := hI.2.2.2.2.2.2.2.1
  have qxZ3 := hI.2.2.2.2.2.2.2.2.1
  have qxZ4 := hI.2.2.2.2.2.2.2.2.2.1
  have qxZ7 := hI.2.2.2.2.2.2.2.2.2.2.2.2.1
  have qxZ9 := hI.2.2.2.2.2.2.2.2.2.2.2.2.2.2.1
  have qxZa := hI.2.2.2.2.2.2.2.2.2.2.2.2.2.2.2.1
  have hn : (0 : Int) ≤ M 93 17 ∧ M 93 17 ≤ 64 := hI.1 93 17 (0, 64) rfl
  refine ⟨fun a => cond (Nat.blt a 4) (ρ a) (([xkE (1 * ρ 3 + 0) (M 91 973), xkN (1 * ρ 3 + 0) (M 91 973)] : List Int).getD (a - 4) 0), fun a ha => ?_, fun f h => ?_, ?_⟩
  · show cond (Nat.blt a 4) (ρ a) _ = ρ a
    rw [show Nat.blt a 4 = true from Nat.ble_eq_true_of_le ha]; rfl
  · exact nomatch h
  · show sI (sU (sU (sU (sU (sU (sU (sU M 110 (1 * ρ 1 + 0 : Int).toNat (1 * ρ 3 + 0)) 91 972 (1 * ρ 3 + 0)) 91 987 (1 * (xkE (1 * ρ 3 + 0) (M 91 973)) + 0)) 91 988 (1 * (xkN (1 * ρ 3 + 0) (M 91 973)) + 0)) 91 989 (0)) 91 978 (0)) 91 964 (0))
    obtain ⟨W, hW⟩ : ∃ W, W = (sU (sU (sU (sU (sU (sU (sU M 110 (1 * ρ 1 + 0).toNat (1 * ρ 3 + 0)) 91 972 (1 * ρ 3 + 0)) 91 987 (1 * (xkE (1 * ρ 3 + 0) (M 91 973)) + 0)) 91 988 (1 * (xkN (1 * ρ 3 + 0) (M 91 973)) + 0)) 91 989 (0)) 91 978 (0)) 91 964 (0)) := ⟨_, rfl⟩
    rw [← hW]
    have base : sI0 W := by
      rw [hW]
      exact (si_u0 (si_u0 (si_u0 (si_u0 (si_u0 (si_u0 (si_u0 hI.1 (fun r hr => by rw [xt_110 hr]; exact ⟨by show (0 : Int) ≤ _; omega, by show _ ≤ (2 : Int); omega⟩)) (fun r hr => by cases hr)) (fun r hr => by cases hr)) (fun r hr => by cases hr)) (fun r hr => by cases hr)) (fun r hr => by cases hr)) (fun r hr => by cases hr))
    have k2 : XI2 W := by
      rw [hW]
      exact (xi2_u rfl (xi2_u rfl (xi2_u rfl (xi2_u rfl (xi2_u rfl (xi2_u rfl (xi2_u (sinc_ok rfl _) hI.2.1)))))))
    have k3 : XI3 W := by
      rw [hW]
      exact (xi3_u rfl (xi3_u rfl (xi3_u rfl (xi3_u rfl (xi3_u rfl (xi3_u rfl (xi3_u (sinc_ok rfl _) hI.2.2.1)))))))
    have k_xY1 : xY1 W := by
      rw [hW]
      exact (uxY1 rfl (uxY1 rfl (uxY1 rfl (uxY1 rfl (uxY1 rfl (uxY1 rfl (uxY1 (sinc_ok rfl _) hI.2.2.2.1)))))))
    have k_xY2 : xY2 W := by
      rw [hW]
      exact (uxY2 rfl (uxY2 rfl (uxY2 rfl (uxY2 rfl (uxY2 rfl (uxY2 rfl (uxY2 (sinc_ok rfl _) hI.2.2.2.2.1)))))))
    have k_xY3 : xY3 W := by
      rw [hW]
      exact (uxY3 rfl (uxY3 rfl (uxY3 rfl (uxY3 rfl (uxY3 rfl (uxY3 rfl (uxY3 (sinc_ok rfl _) hI.2.2.2.2.2.1)))))))
    have k_xZ1 : xZ1 W := by
      have r91_970 : W 91 970 = M 91 970 := by rw [hW, sU_ne (fun z => by omega), sU_ne (fun z => by omega), sU_ne (fun z => by omega), sU_ne (fun z => by omega), sU_ne (fun z => by omega), sU_ne (fun z => by omega), sU_ne (fun z => by omega)]
      have r91_971 : W 91 971 = M 91 971 := by rw [hW, sU_ne (fun z => by omega), sU_ne (fun z => by omega), sU_ne (fun z => by omega), sU_ne (fun z => by omega), sU_ne (fun z => by omega), sU_ne (fun z => by omega), sU_ne (fun z => by omega)]
      have r93_17 : W 93 17 = M 93 17 := by rw [hW, sU_ne (fun z => by omega), sU_ne (fun z => by omega), sU_ne (fun z => by omega), sU_ne (fun z => by omega), sU_ne (fun z => by omega), sU_ne (fun z => by omega), sU_ne (fun z => by omega)]
      have c110 : ∀ k : Nat, k ≠ (1 * ρ 1 + 0).toNat → W 110 k = M 110 k := fun k hk => by rw [hW, sU_ne (fun z => by omega), sU_ne (fun z => by omega), sU_ne (fun z => by omega), sU_ne (fun z => by omega), sU_ne (fun z => by omega), sU_ne (fun z => by omega), sU_ne (fun z => by omega)]
      have a110 : W 110 (1 * ρ 1 + 0).toNat = 1 * ρ 3 + 0 := by rw [hW, sU_ne (fun z => by omega), sU_ne (fun z => by omega), sU_ne (fun z => by omega), sU_ne (fun z => by omega), sU_ne (fun z => by omega), sU_ne (fun z => by omega), sU_at]
      have c111 : ∀ k, W 111 k = M 111 k := fun k => by rw [hW, sU_ne (fun z => by omega), sU_ne (fun z => by omega), sU_ne (fun z => by omega), sU_ne (fun z => by omega), sU_ne (fun z => by omega), sU_ne (fun z => by omega), sU_ne (fun z => by omega)]
      exact xz1_of r91_970 r91_971 r93_17 (fun k a b => ⟨c110 k (by omega), c111 k⟩) qxZ1
    have k_xZ2 : xZ2 W := by
      have r91_972 : W 91 972 = 1 * ρ 3 + 0 := by rw [hW, sU_ne (fun z => by omega), sU_ne (fun z => by omega), sU_ne (fun z => by omega), sU_ne (fun z => by omega), sU_ne (fun z => by omega), sU_at]
      have r91_973 : W 91 973 = M 91 973 := by rw [hW, sU_ne (fun z => by omega), sU_ne (fun z => by omega), sU_ne (fun z => by omega), sU_ne (fun z => by omega), sU_ne (fun z => by omega), sU_ne (fun z => by omega), sU_ne (fun z => by omega)]
      have r91_987 : W 91 987 = 1 * (xkE (1 * ρ 3 + 0) (M 91 973)) + 0 := by rw [hW, sU_ne (fun z => by omega), sU_ne (fun z => by omega), sU_ne (fun z => by omega), sU_ne (fun z => by omega), sU_at]
      have r91_988 : W 91 988 = 1 * (xkN (1 * ρ 3 + 0) (M 91 973)) + 0 := by rw [hW, sU_ne (fun z => by omega), sU_ne (fun z => by omega), sU_ne (fun z => by omega), sU_at]
      have r91_989 : W 91 989 = 0 := by rw [hW, sU_ne (fun z => by omega), sU_ne (fun z => by omega), sU_at]
      have r93_17 : W 93 17 = M 93 17 := by rw [hW, sU_ne (fun z => by omega), sU_ne (fun z => by omega), sU_ne (fun z => by omega), sU_ne (fun z => by omega), sU_ne (fun z => by omega), sU_ne (fun z => by omega), sU_ne (fun z => by omega)]
      have c110 : ∀ k : Nat, k ≠ (1 * ρ 1 + 0).toNat → W 110 k = M 110 k := fun k hk => by rw [hW, sU_ne (fun z => by omega), sU_ne (fun z => by omega), sU_ne (fun z => by omega), sU_ne (fun z => by omega), sU_ne (fun z => by omega), sU_ne (fun z => by omega), sU_ne (fun z => by omega)]
      have a110 : W 110 (1 * ρ 1 + 0).toNat = 1 * ρ 3 + 0 := by rw [hW, sU_ne (fun z => by omega), sU_ne (fun z => by omega), sU_ne (fun z => by omega), sU_ne (fun z => by omega), sU_ne (fun z => by omega), sU_ne (fun z => by omega), sU_at]
      have c111 : ∀ k, W 111 k = M 111 k := fun k => by rw [hW, sU_ne (fun z => by omega), sU_ne (fun z => by omega), sU_ne (fun z => by omega), sU_ne (fun z => by omega), sU_ne (fun z => by omega), sU_ne (fun z => by omega), sU_ne (fun z => by omega)]
      have e : 64 + (M 93 17).toNat = (1 * ρ 1 + 0).toNat := by omega
      have g := qxZ2.2.1
      rw [e] at g
      unfold xZ2
      rw [r91_972, r91_973, r91_987, r91_988, r91_989, r93_17, e, a110, c111]
      exact ⟨rfl, g, x10 _, x10 _, fun z => absurd z (by omega)⟩
    have k_xZ3 : xZ3 W := by
      have r91_974 : W 91 974 = M 91 974 := by rw [hW, sU_ne (fun z => by omega), sU_ne (fun z => by omega), sU_ne (fun z => by omega), sU_ne (fun z => by omega), sU_ne (fun z => by omega), sU_ne (fun z => by omega), sU_ne (fun z => by omega)]
      have r93_17 : W 93 17 = M 93 17 := by rw [hW, sU_ne (fun z => by omega), sU_ne (fun z => by omega), sU_ne (fun z => by omega), sU_ne (fun z => by omega), sU_ne (fun z => by omega), sU_ne (fun z => by omega), sU_ne (fun z => by omega)]
      have c108 : ∀ k, W 108 k = M 108 k := fun k => by rw [hW, sU_ne (fun z => by omega), sU_ne (fun z => by omega), sU_ne (fun z => by omega), sU_ne (fun z => by omega), sU_ne (fun z => by omega), sU_ne (fun z => by omega), sU_ne (fun z => by omega)]
      have c109 : ∀ k, W 109 k = M 109 k := fun k => by rw [hW, sU_ne (fun z => by omega), sU_ne (fun z => by omega), sU_ne (fun z => by omega), sU_ne (fun z => by omega), sU_ne (fun z => by omega), sU_ne (fun z => by omega), sU_ne (fun z => by omega)]
      have c110 : ∀ k : Nat, k ≠ (1 * ρ 1 + 0).toNat → W 110 k = M 110 k := fun k hk => by rw [hW, sU_ne (fun z => by omega), sU_ne (fun z => by omega), sU_ne (fun z => by omega), sU_ne (fun z => by omega), sU_ne (fun z => by omega), sU_ne (fun z => by omega), sU_ne (fun z => by omega)]
      have a110 : W 110 (1 * ρ 1 + 0).toNat = 1 * ρ 3 + 0 := by rw [hW, sU_ne (fun z => by omega), sU_ne (fun z => by omega), sU_ne (fun z => by omega), sU_ne (fun z => by omega), sU_ne (fun z => by omega), sU_ne (fun z => by omega), sU_at]
      have c111 : ∀ k, W 111 k = M 111 k := fun k => by rw [hW, sU_ne (fun z => by omega), sU_ne (fun z => by omega), sU_ne (fun z => by omega), sU_ne (fun z => by omega), sU_ne (fun z => by omega), sU_ne (fun z => by omega), sU_ne (fun z => by omega)]
      exact xz3_of r91_974 (by rw [r93_17]; exact Int.le_refl _) (fun k a b => ⟨c108 k, c109 k⟩) (fun k a b => ⟨c110 k (by omega), c111 k⟩) qxZ3
    have k_xZ4 : xZ4 W := by
      have r91_975 : W 91 975 = M 91 975 := by rw [hW, sU_ne (fun z => by omega), sU_ne (fun z => by omega), sU_ne (fun z => by omega), sU_ne (fun z => by omega), sU_ne (fun z => by omega), sU_ne (fun z => by omega), sU_ne (fun z => by omega)]
      have c108 : ∀ k, W 108 k = M 108 k := fun k => by rw [hW, sU_ne (fun z => by omega), sU_ne (fun z => by omega), sU_ne (fun z => by omega), sU_ne (fun z => by omega), sU_ne (fun z => by omega), sU_ne (fun z => by omega), sU_ne (fun z => by omega)]
      have c109 : ∀ k, W 109 k = M 109 k := fun k => by rw [hW, sU_ne (fun z => by omega), sU_ne (fun z => by omega), sU_ne (fun z => by omega), sU_ne (fun z => by omega), sU_ne (fun z => by omega), sU_ne (fun z => by omega), sU_ne (fun z => by omega)]
      have c110 : ∀ k : Nat, k ≠ (1 * ρ 1 + 0).toNat → W 110 k = M 110 k := fun k hk => by rw [hW, sU_ne (fun z => by omega), sU_ne (fun z => by omega), sU_ne (fun z => by omega), sU_ne (fun z => by omega), sU_ne (fun z => by omega), sU_ne (fun z => by omega), sU_ne (fun z => by omega)]
      have a110 : W 110 (1 * ρ 1 + 0).toNat = 1 * ρ 3 + 0 := by rw [hW, sU_ne (fun z => by omega), sU_ne (fun z => by omega), sU_ne (fun z => by omega), sU_ne (fun z => by omega), sU_ne (fun z => by omega), sU_ne (fun z => by omega), sU_at]
      have c111 : ∀ k, W 111 k = M 111 k := fun k => by rw [hW, sU_ne (fun z => by omega), sU_ne (fun z => by omega), sU_ne (fun z => by omega), sU_ne (fun z => by omega), sU_ne (fun z => by omega), sU_ne (fun z => by omega), sU_ne (fun z => by omega)]
      exact xz4_of hI.1 r91_975 (fun k a => ⟨c108 k, c109 k⟩) (fun k a => ⟨c110 k (by omega), c111 k⟩) qxZ4
    have k_xZ5 : xZ5 W := by
      rw [hW]
      exact (uxZ5 rfl (uxZ5 rfl (uxZ5 rfl (uxZ5 rfl (uxZ5 rfl (uxZ5 rfl (uxZ5 (sinc_ok rfl _) hI.2.2.2.2.2.2.2.2.2.2.1)))))))
    have k_xZ6 : xZ6 W := by
      rw [hW]
      exact (uxZ6 rfl (uxZ6 rfl (uxZ6 rfl (uxZ6 rfl (uxZ6 rfl (uxZ6 rfl (uxZ6 (sinc_ok rfl _) hI.2.2.2.2.2.2.2.2.2.2.2.1)))))))
    have k_xZ7 : xZ7 W := by
      have r91_978 : W 91 978 = 0 := by rw [hW, sU_ne (fun z => by omega), sU_at]
      have c110 : ∀ k : Nat, k ≠ (1 * ρ 1 + 0).toNat → W 110 k = M 110 k := fun k hk => by rw [hW, sU_ne (fun z => by omega), sU_ne (fun z => by omega), sU_ne (fun z => by omega), sU_ne (fun z => by omega), sU_ne (fun z => by omega), sU_ne (fun z => by omega), sU_ne (fun z => by omega)]
      have a110 : W 110 (1 * ρ 1 + 0).toNat = 1 * ρ 3 + 0 := by rw [hW, sU_ne (fun z => by omega), sU_ne (fun z => by omega), sU_ne (fun z => by omega), sU_ne (fun z => by omega), sU_ne (fun z => by omega), sU_ne (fun z => by omega), sU_at]
      intro j hj
      rw [r91_978] at hj
      omega
    have k_xZ8 : xZ8 W := by
      rw [hW]
      exact (uxZ8 rfl (uxZ8 rfl (uxZ8 rfl (uxZ8 rfl (uxZ8 rfl (uxZ8 rfl (uxZ8 (sinc_ok rfl _) hI.2.2.2.2.2.2.2.2.2.2.2.2.2.1)))))))
    have k_xZ9 : xZ9 W := by
      have r91_964 : W 91 964 = 0 := by rw [hW, sU_at]
      have r91_980 : W 91 980 = M 91 980 := by rw [hW, sU_ne (fun z => by omega), sU_ne (fun z => by omega), sU_ne (fun z => by omega), sU_ne (fun z => by omega), sU_ne (fun z => by omega), sU_ne (fun z => by omega), sU_ne (fun z => by omega)]
      have r91_981 : W 91 981 = M 91 981 := by rw [hW, sU_ne (fun z => by omega), sU_ne (fun z => by omega), sU_ne (fun z => by omega), sU_ne (fun z => by omega), sU_ne (fun z => by omega), sU_ne (fun z => by omega), sU_ne (fun z => by omega)]
      have r91_982 : W 91 982 = M 91 982 := by rw [hW, sU_ne (fun z => by omega), sU_ne (fun z => by omega), sU_ne (fun z => by omega), sU_ne (fun z => by omega), sU_ne (fun z => by omega), sU_ne (fun z => by omega), sU_ne (fun z => by omega)]
      have c110 : ∀ k : Nat, k ≠ (1 * ρ 1 + 0).toNat → W 110 k = M 110 k := fun k hk => by rw [hW, sU_ne (fun z => by omega), sU_ne (fun z => by omega), sU_ne (fun z => by omega), sU_ne (fun z => by omega), sU_ne (fun z => by omega), sU_ne (fun z => by omega), sU_ne (fun z => by omega)]
      have a110 : W 110 (1 * ρ 1 + 0).toNat = 1 * ρ 3 + 0 := by rw [hW, sU_ne (fun z => by omega), sU_ne (fun z => by omega), sU_ne (fun z => by omega), sU_ne (fun z => by omega), sU_ne (fun z => by omega), sU_ne (fun z => by omega), sU_at]
      have c111 : ∀ k, W 111 k = M 111 k := fun k => by rw [hW, sU_ne (fun z => by omega), sU_ne (fun z => by omega), sU_ne (fun z => by omega), sU_ne (fun z => by omega), sU_ne (fun z => by omega), sU_ne (fun z => by omega), sU_ne (fun z => by omega)]
      intro h
      rw [r91_964] at h
      omega
    have k_xZa : xZa W := by
      have r91_964 : W 91 964 = 0 := by rw [hW, sU_at]
      have r91_981 : W 91 981 = M 91 981 := by rw [hW, sU_ne (fun z => by omega), sU_ne (fun z => by omega), sU_ne (fun z => by omega), sU_ne (fun z => by omega), sU_ne (fun z => by omega), sU_ne (fun z => by omega), sU_ne (fun z => by omega)]
      have r91_960 : W 91 960 = M 91 960 := by rw [hW, sU_ne (fun z => by omega), sU_ne (fun z => by omega), sU_ne (fun z => by omega), sU_ne (fun z => by omega), sU_ne (fun z => by omega), sU_ne (fun z => by omega), sU_ne (fun z => by omega)]
      have r91_961 : W 91 961 = M 91 961 := by rw [hW, sU_ne (fun z => by omega), sU_ne (fun z => by omega), sU_ne (fun z => by omega), sU_ne (fun z => by omega), sU_ne (fun z => by omega), sU_ne (fun z => by omega), sU_ne (fun z => by omega)]
      have r91_962 : W 91 962 = M 91 962 := by rw [hW, sU_ne (fun z => by omega), sU_ne (fun z => by omega), sU_ne (fun z => by omega), sU_ne (fun z => by omega), sU_ne (fun z => by omega), sU_ne (fun z => by omega), sU_ne (fun z => by omega)]
      have r91_963 : W 91 963 = M 91 963 := by rw [hW, sU_ne (fun z => by omega), sU_ne (fun z => by omega), sU_ne (fun z => by omega), sU_ne (fun z => by omega), sU_ne (fun z => by omega), sU_ne (fun z => by omega), sU_ne (fun z => by omega)]
      have c110 : ∀ k : Nat, k ≠ (1 * ρ 1 + 0).toNat → W 110 k = M 110 k := fun k hk => by rw [hW, sU_ne (fun z => by omega), sU_ne (fun z => by omega), sU_ne (fun z => by omega), sU_ne (fun z => by omega), sU_ne (fun z => by omega), sU_ne (fun z => by omega), sU_ne (fun z => by omega)]
      have a110 : W 110 (1 * ρ 1 + 0).toNat = 1 * ρ 3 + 0 := by rw [hW, sU_ne (fun z => by omega), sU_ne (fun z => by omega), sU_ne (fun z => by omega), sU_ne (fun z => by omega), sU_ne (fun z => by omega), sU_ne (fun z => by omega), sU_at]
      have c111 : ∀ k, W 111 k = M 111 k := fun k => by rw [hW, sU_ne (fun z => by omega), sU_ne (fun z => by omega), sU_ne (fun z => by omega), sU_ne (fun z => by omega), sU_ne (fun z => by omega), sU_ne (fun z => by omega), sU_ne (fun z => by omega)]
      intro h
      rw [r91_964] at h
      omega
    have k_xZb : xZb W := by
      rw [hW]
      exact (uxZb rfl (uxZb rfl (uxZb rfl (uxZb rfl (uxZb rfl (uxZb rfl (uxZb (sinc_ok rfl _) hI.2.2.2.2.2.2.2.2.2.2.2.2.2.2.2.2.1)))))))
    have k_xT1 : xT1 W := by
      rw [hW]
      exact (uxT1 rfl (uxT1 rfl (uxT1 rfl (uxT1 rfl (uxT1 rfl (uxT1 rfl (uxT1 (sinc_ok rfl _) hI.2.2.2.2.2.2.2.2.2.2.2.2.2.2.2.2.2)))))))
    exact ⟨base, k2, k3, k_xY1, k_xY2, k_xY3, k_xZ1, k_xZ2, k_xZ3, k_xZ4, k_xZ5, k_xZ6, k_xZ7, k_xZ8, k_xZ9, k_xZa, k_xZb, k_xT1⟩
-- knotValue
def xr_39 : qRu := (4, [[(-64, 0), (1, 1), (-1, 2)], [(64, 0), (-1, 1), (1, 2)], [(2147483648, 0), (1, 3)], [(2147483647, 0), (-1, 3)]], [(93, 17, [(1, 2)])], [(111, [(1, 1)], [(1, 3)])], [(91, 973, [(1, 3)]), (91, 987, [(1, 4)]), (91, 988, [(1, 5)]), (91, 989, []), (91, 979, []), (91, 964, [])], [])
theorem xo_39 : qRok xr_39 := by
  intro ρ M h0 hf hm hI
  have f0 := hf [(-64, 0), (1, 1), (-1, 2)] (by decide)
  have f1 := hf [(64, 0), (-1, 1), (1, 2)] (by decide)
  have f2 := hf [(2147483648, 0), (1, 3)] (by decide)
  have f3 := hf [(2147483647, 0), (-1, 3)] (by decide)
  simp only [qD, h0] at f0 f1 f2 f3
  have m0 : M 93 17 = 1 * ρ 2 + 0 := hm (93, 17, [(1, 2)]) (by decide)
  have qxZ1 := hI.2.2.2.2.2.2.1
  have qxZ2 := hI.2.2.2.2.2.2.2.1
  have qxZ3 := hI.2.2.2.2.2.2.2.2.1
  have qxZ4 := hI.2.2.2.2.2.2.2.2.2.1
  have qxZ8 := hI.2.2.2.2.2.2.2.2.2.2.2.2.2.1
  have qxZ9 := hI.2.2.2.2.2.2.2.2.2.2.2.2.2.2.1
  have qxZa := hI.2.2.2.2.2.2.2.2.2.2.2.2.2.2.2.1
  have hn : (0 : Int) ≤ M 93 17 ∧ M 93 17 ≤ 64 := hI.1 93 17 (0, 64) rfl
  refine ⟨fun a => cond (Nat.blt a 4) (ρ a) (([xkE (M 91 972) (1 * ρ 3 + 0), xkN (M 91 972) (1 * ρ 3 + 0)] : List Int).getD (a - 4) 0), fun a ha => ?_, fun f h => ?_, ?_⟩
  · show cond (Nat.blt a 4) (ρ a) _ = ρ a
    rw [show Nat.blt a 4 = true from Nat.ble_eq_true_of_le ha]; rfl
  · exact nomatch h
  · show sI (sU (sU (sU (sU (sU (sU (sU M 111 (1 * ρ 1 + 0 : Int).toNat (1 * ρ 3 + 0)) 91 973 (1 * ρ 3 + 0)) 91 987 (1 * (xkE (M 91 972) (1 * ρ 3 + 0)) + 0)) 91 988 (1 * (xkN (M 91 972) (1 * ρ 3 + 0)) + 0)) 91 989 (0)) 91 979 (0)) 91 964 (0))
    obtain ⟨W, hW⟩ : ∃ W, W = (sU (sU (sU (sU (sU (sU (sU M 111 (1 * ρ 1 + 0).toNat (1 * ρ 3 + 0)) 91 973 (1 * ρ 3 + 0)) 91 987 (1 * (xkE (M 91 972) (1 * ρ 3 + 0)) + 0)) 91 988 (1 * (xkN (M 91 972) (1 * ρ 3 + 0)) + 0)) 91 989 (0)) 91 979 (0)) 91 964 (0)) := ⟨_, rfl⟩
    rw [← hW]
    have base : sI0 W := by
      rw [hW]
      exact (si_u0 (si_u0 (si_u0 (si_u0 (si_u0 (si_u0 (si_u0 hI.1 (fun r hr => by rw [xt_111 hr]; exact ⟨by show (-2147483648 : Int) ≤ _; omega, by show _ ≤ (2147483647 : Int); omega⟩)) (fun r hr => by cases hr)) (fun r hr => by cases hr)) (fun r hr => by cases hr)) (fun r hr => by cases hr)) (fun r hr => by cases hr)) (fun r hr => by cases hr))
    have k2 : XI2 W := by
      rw [hW]
      exact (xi2_u rfl (xi2_u rfl (xi2_u rfl (xi2_u rfl (xi2_u rfl (xi2_u rfl (xi2_u (sinc_ok rfl _) hI.2.1)))))))
    have k3 : XI3 W := by
      rw [hW]
      exact (xi3_u rfl (xi3_u rfl (xi3_u rfl (xi3_u rfl (xi3_u rfl (xi3_u rfl (xi3_u (sinc_ok rfl _) hI.2.2.1)))))))
    have k_xY1 : xY1 W := by
      rw [hW]
      exact (uxY1 rfl (uxY1 rfl (uxY1 rfl (uxY1 rfl (uxY1 rfl (uxY1 rfl (uxY1 (sinc_ok rfl _) hI.2.2.2.1)))))))
    have k_xY2 : xY2 W := by
      rw [hW]
      exact (uxY2 rfl (uxY2 rfl (uxY2 rfl (uxY2 rfl (uxY2 rfl (uxY2 rfl (uxY2 (sinc_ok rfl _) hI.2.2.2.2.1)))))))
    have k_xY3 : xY3 W := by
      rw [hW]
      exact (uxY3 rfl (uxY3 rfl (uxY3 rfl (uxY3 rfl (uxY3 rfl (uxY3 rfl (uxY3 (sinc_ok rfl _) hI.2.2.2.2.2.1)))))))
    have k_xZ1 : xZ1 W := by
      have r91_970 : W 91 970 = M 91 970 := by rw [hW, sU_ne (fun z => by omega), sU_ne (fun z => by omega), sU_ne (fun z => by omega), sU_ne (fun z => by omega), sU_ne (fun z => by omega), sU_ne (fun z => by omega), sU_ne (fun z => by omega)]
      have r91_971 : W 91 971 = M 91 971 := by rw [hW, sU_ne (fun z => by omega), sU_ne (fun z => by omega), sU_ne (fun z => by omega), sU_ne (fun z => by omega), sU_ne (fun z => by omega), sU_ne (fun z => by omega), sU_ne (fun z => by omega)]
      have r93_17 : W 93 17 = M 93 17 := by rw [hW, sU_ne (fun z => by omega), sU_ne (fun z => by omega), sU_ne (fun z => by omega), sU_ne (fun z => by omega), sU_ne (fun z => by omega), sU_ne (fun z => by omega), sU_ne (fun z => by omega)]
      have c110 : ∀ k, W 110 k = M 110 k := fun k => by rw [hW, sU_ne (fun z => by omega), sU_ne (fun z => by omega), sU_ne (fun z => by omega), sU_ne (fun z => by omega), sU_ne (fun z => by omega), sU_ne (fun z => by omega), sU_ne (fun z => by omega)]
      have c111 : ∀ k : Nat, k ≠ (1 * ρ 1 + 0).toNat → W 111 k = M 111 k := fun k hk => by rw [hW, sU_ne (fun z => by omega), sU_ne (fun z => by omega), sU_ne (fun z => by omega), sU_ne (fun z => by omega), sU_ne (fun z => by omega), sU_ne (fun z => by omega), sU_ne (fun z => by omega)]
      have a111 : W 111 (1 * ρ 1 + 0).toNat = 1 * ρ 3 + 0 := by rw [hW, sU_ne (fun z => by omega), sU_ne (fun z => by omega), sU_ne (fun z => by omega), sU_ne (fun z => by omega), sU_ne (fun z => by omega), sU_ne (fun z => by omega), sU_at]
      exact xz1_of r91_970 r91_971 r93_17 (fun k a b => ⟨c110 k, c111 k (by omega)⟩) qxZ1
    have k_xZ2 : xZ2 W := by
      have r91_972 : W 91 972 = M 91 972 := by rw [hW, sU_ne (fun z => by omega), sU_ne (fun z => by omega), sU_ne (fun z => by omega), sU_ne (fun z => by omega), sU_ne (fun z => by omega), sU_ne (fun z => by omega), sU_ne (fun z => by omega)]
      have r91_973 : W 91 973 = 1 * ρ 3 + 0 := by rw [hW, sU_ne (fun z => by omega), sU_ne (fun z => by omega), sU_ne (fun z => by omega), sU_ne (fun z => by omega), sU_ne (fun z => by omega), sU_at]
      have r91_987 : W 91 987 = 1 * (xkE (M 91 972) (1 * ρ 3 + 0)) + 0 := by rw [hW, sU_ne (fun z => by omega), sU_ne (fun z => by omega), sU_ne (fun z => by omega), sU_ne (fun z => by omega), sU_at]
      have r91_988 : W 91 988 = 1 * (xkN (M 91 972) (1 * ρ 3 + 0)) + 0 := by rw [hW, sU_ne (fun z => by omega), sU_ne (fun z => by omega), sU_ne (fun z => by omega), sU_at]
      have r91_989 : W 91 989 = 0 := by rw [hW, sU_ne (fun z => by omega), sU_ne (fun z => by omega), sU_at]
      have r93_17 : W 93 17 = M 93 17 := by rw [hW, sU_ne (fun z => by omega), sU_ne (fun z => by omega), sU_ne (fun z => by omega), sU_ne (fun z => by omega), sU_ne (fun z => by omega), sU_ne (fun z => by omega), sU_ne (fun z => by omega)]
      have c110 : ∀ k, W 110 k = M 110 k := fun k => by rw [hW, sU_ne (fun z => by omega), sU_ne (fun z => by omega), sU_ne (fun z => by omega), sU_ne (fun z => by omega), sU_ne (fun z => by omega), sU_ne (fun z => by omega), sU_ne (fun z => by omega)]
      have c111 : ∀ k : Nat, k ≠ (1 * ρ 1 + 0).toNat → W 111 k = M 111 k := fun k hk => by rw [hW, sU_ne (fun z => by omega), sU_ne (fun z => by omega), sU_ne (fun z => by omega), sU_ne (fun z => by omega), sU_ne (fun z => by omega), sU_ne (fun z => by omega), sU_ne (fun z => by omega)]
      have a111 : W 111 (1 * ρ 1 + 0).toNat = 1 * ρ 3 + 0 := by rw [hW, sU_ne (fun z => by omega), sU_ne (fun z => by omega), sU_ne (fun z => by omega), sU_ne (fun z => by omega), sU_ne (fun z => by omega), sU_ne (fun z => by omega), sU_at]
      have e : 64 + (M 93 17).toNat = (1 * ρ 1 + 0).toNat := by omega
      have g := qxZ2.1
      rw [e] at g
      unfold xZ2
      rw [r91_972, r91_973, r91_987, r91_988, r91_989, r93_17, e, a111, c110]
      exact ⟨g, rfl, x10 _, x10 _, fun z => absurd z (by omega)⟩
    have k_xZ3 : xZ3 W := by
      have r91_974 : W 91 974 = M 91 974 := by rw [hW, sU_ne (fun z => by omega), sU_ne (fun z => by omega), sU_ne (fun z => by omega), sU_ne (fun z => by omega), sU_ne (fun z => by omega), sU_ne (fun z => by omega), sU_ne (fun z => by omega)]
      have r93_17 : W 93 17 = M 93 17 := by rw [hW, sU_ne (fun z => by omega), sU_ne (fun z => by omega), sU_ne (fun z => by omega), sU_ne (fun z => by omega), sU_ne (fun z => by omega), sU_ne (fun z => by omega), sU_ne (fun z => by omega)]
      have c108 : ∀ k, W 108 k = M 108 k := fun k => by rw [hW, sU_ne (fun z => by omega), sU_ne (fun z => by omega), sU_ne (fun z => by omega), sU_ne (fun z => by omega), sU_ne (fun z => by omega), sU_ne (fun z => by omega), sU_ne (fun z => by omega)]
      have c109 : ∀ k, W 109 k = M 109 k := fun k => by rw [hW, sU_ne (fun z => by omega), sU_ne (fun z => by omega), sU_ne (fun z => by omega), sU_ne (fun z => by omega), sU_ne (fun z => by omega), sU_ne (fun z => by omega), sU_ne (fun z => by omega)]
      have c110 : ∀ k, W 110 k = M 110 k := fun k => by rw [hW, sU_ne (fun z => by omega), sU_ne (fun z => by omega), sU_ne (fun z => by omega), sU_ne (fun z => by omega), sU_ne (fun z => by omega), sU_ne (fun z => by omega), sU_ne (fun z => by omega)]
      have c111 : ∀ k : Nat, k ≠ (1 * ρ 1 + 0).toNat → W 111 k = M 111 k := fun k hk => by rw [hW, sU_ne (fun z => by omega), sU_ne (fun z => by omega), sU_ne (fun z => by omega), sU_ne (fun z => by omega), sU_ne (fun z => by omega), sU_ne (fun z => by omega), sU_ne (fun z => by omega)]
      have a111 : W 111 (1 * ρ 1 + 0).toNat = 1 * ρ 3 + 0 := by rw [hW, sU_ne (fun z => by omega), sU_ne (fun z => by omega), sU_ne (fun z => by omega), sU_ne (fun z => by omega), sU_ne (fun z => by omega), sU_ne (fun z => by omega), sU_at]
      exact xz3_of r91_974 (by rw [r93_17]; exact Int.le_refl _) (fun k a b => ⟨c108 k, c109 k⟩) (fun k a b => ⟨c110 k, c111 k (by omega)⟩) qxZ3
    have k_xZ4 : xZ4 W := by
      have r91_975 : W 91 975 = M 91 975 := by rw [hW, sU_ne (fun z => by omega), sU_ne (fun z => by omega), sU_ne (fun z => by omega), sU_ne (fun z => by omega), sU_ne (fun z => by omega), sU_ne (fun z => by omega), sU_ne (fun z => by omega)]
      have c108 : ∀ k, W 108 k = M 108 k := fun k => by rw [hW, sU_ne (fun z => by omega), sU_ne (fun z => by omega), sU_ne (fun z => by omega), sU_ne (fun z => by omega), sU_ne (fun z => by omega), sU_ne (fun z => by omega), sU_ne (fun z => by omega)]
      have c109 : ∀ k, W 109 k = M 109 k := fun k => by rw [hW, sU_ne (fun z => by omega), sU_ne (fun z => by omega), sU_ne (fun z => by omega), sU_ne (fun z => by omega), sU_ne (fun z => by omega), sU_ne (fun z => by omega), sU_ne (fun z => by omega)]
      have c110 : ∀ k, W 110 k = M 110 k := fun k => by rw [hW, sU_ne (fun z => by omega), sU_ne (fun z => by omega), sU_ne (fun z => by omega), sU_ne (fun z => by omega), sU_ne (fun z => by omega), sU_ne (fun z => by omega), sU_ne (fun z => by omega)]
      have c111 : ∀ k : Nat, k ≠ (1 * ρ 1 + 0).toNat → W 111 k = M 111 k := fun k hk => by rw [hW, sU_ne (fun z => by omega), sU_ne (fun z => by omega), sU_ne (fun z => by omega), sU_ne (fun z => by omega), sU_ne (fun z => by omega), sU_ne (fun z => by omega), sU_ne (fun z => by omega)]
      have a111 : W 111 (1 * ρ 1 + 0).toNat = 1 * ρ 3 + 0 := by rw [hW, sU_ne (fun z => by omega), sU_ne (fun z => by omega), sU_ne (fun z => by omega), sU_ne (fun z => by omega), sU_ne (fun z => by omega), sU_ne (fun z => by omega), sU_at]
      exact xz4_of hI.1 r91_975 (fun k a => ⟨c108 k, c109 k⟩) (fun k a => ⟨c110 k, c111 k (by omega)⟩) qxZ4
    have k_xZ5 : xZ5 W := by
      rw [hW]
      exact (uxZ5 rfl (uxZ5 rfl (uxZ5 rfl (uxZ5 rfl (uxZ5 rfl (uxZ5 rfl (uxZ5 (sinc_ok rfl _) hI.2.2.2.2.2.2.2.2.2.2.1)))))))
    have k_xZ6 : xZ6 W := by
      rw [hW]
      exact (uxZ6 rfl (uxZ6 rfl (uxZ6 rfl (uxZ6 rfl (uxZ6 rfl (uxZ6 rfl (uxZ6 (sinc_ok rfl _) hI.2.2.2.2.2.2.2.2.2.2.2.1)))))))
    have k_xZ7 : xZ7 W := by
      rw [hW]
      exact (uxZ7 rfl (uxZ7 rfl (uxZ7 rfl (uxZ7 rfl (uxZ7 rfl (uxZ7 rfl (uxZ7 (sinc_ok rfl _) hI.2.2.2.2.2.2.2.2.2.2.2.2.1)))))))
    have k_xZ8 : xZ8 W := by
      have r91_979 : W 91 979 = 0 := by rw [hW, sU_ne (fun z => by omega), sU_at]
      have c111 : ∀ k : Nat, k ≠ (1 * ρ 1 + 0).toNat → W 111 k = M 111 k := fun k hk => by rw [hW, sU_ne (fun z => by omega), sU_ne (fun z => by omega), sU_ne (fun z => by omega), sU_ne (fun z => by omega), sU_ne (fun z => by omega), sU_ne (fun z => by omega), sU_ne (fun z => by omega)]
      have a111 : W 111 (1 * ρ 1 + 0).toNat = 1 * ρ 3 + 0 := by rw [hW, sU_ne (fun z => by omega), sU_ne (fun z => by omega), sU_ne (fun z => by omega), sU_ne (fun z => by omega), sU_ne (fun z => by omega), sU_ne (fun z => by omega), sU_at]
      intro j hj
      rw [r91_979] at hj
      omega
    have k_xZ9 : xZ9 W := by
      have r91_964 : W 91 964 = 0 := by rw [hW, sU_at]
      have r91_980 : W 91 980 = M 91 980 := by rw [hW, sU_ne (fun z => by omega), sU_ne (fun z => by omega), sU_ne (fun z => by omega), sU_ne (fun z => by omega), sU_ne (fun z => by omega), sU_ne (fun z => by omega), sU_ne (fun z => by omega)]
      have r91_981 : W 91 981 = M 91 981 := by rw [hW, sU_ne (fun z => by omega), sU_ne (fun z => by omega), sU_ne (fun z => by omega), sU_ne (fun z => by omega), sU_ne (fun z => by omega), sU_ne (fun z => by omega), sU_ne (fun z => by omega)]
      have r91_982 : W 91 982 = M 91 982 := by rw [hW, sU_ne (fun z => by omega), sU_ne (fun z => by omega), sU_ne (fun z => by omega), sU_ne (fun z => by omega), sU_ne (fun z => by omega), sU_ne (fun z => by omega), sU_ne (fun z => by omega)]
      have c110 : ∀ k, W 110 k = M 110 k := fun k => by rw [hW, sU_ne (fun z => by omega), sU_ne (fun z => by omega), sU_ne (fun z => by omega), sU_ne (fun z => by omega), sU_ne (fun z => by omega), sU_ne (fun z => by omega), sU_ne (fun z => by omega)]
      have c111 : ∀ k : Nat, k ≠ (1 * ρ 1 + 0).toNat → W 111 k = M 111 k := fun k hk => by rw [hW, sU_ne (fun z => by omega), sU_ne (fun z => by omega), sU_ne (fun z => by omega), sU_ne (fun z => by omega), sU_ne (fun z => by omega), sU_ne (fun z => by omega), sU_ne (fun z => by omega)]
      have a111 : W 111 (1 * ρ 1 + 0).toNat = 1 * ρ 3 + 0 := by rw [hW, sU_ne (fun z => by omega), sU_ne (fun z => by omega), sU_ne (fun z => by omega), sU_ne (fun z => by omega), sU_ne (fun z => by omega), sU_ne (fun z => by omega), sU_at]
      intro h
      rw [r91_964] at h
      omega
    have k_xZa : xZa W := by
      have r91_964 : W 91 964 = 0 := by rw [hW, sU_at]
      have r91_981 : W 91 981 = M 91 981 := by rw [hW, sU_ne (fun z => by omega), sU_ne (fun z => by omega), sU_ne (fun z => by omega), sU_ne (fun z => by omega), sU_ne (fun z => by omega), sU_ne (fun z => by omega), sU_ne (fun z => by omega)]
      have r91_960 : W 91 960 = M 91 960 := by rw [hW, sU_ne (fun z => by omega), sU_ne (fun z => by omega), sU_ne (fun z => by omega), sU_ne (fun z => by omega), sU_ne (fun z => by omega), sU_ne (fun z => by omega), sU_ne (fun z => by omega)]
      have r91_961 : W 91 961 = M 91 961 := by rw [hW, sU_ne (fun z => by omega), sU_ne (fun z => by omega), sU_ne (fun z => by omega), sU_ne (fun z => by omega), sU_ne (fun z => by omega), sU_ne (fun z => by omega), sU_ne (fun z => by omega)]
      have r91_962 : W 91 962 = M 91 962 := by rw [hW, sU_ne (fun z => by omega), sU_ne (fun z => by omega), sU_ne (fun z => by omega), sU_ne (fun z => by omega), sU_ne (fun z => by omega), sU_ne (fun z => by omega), sU_ne (fun z => by omega)]
      have r91_963 : W 91 963 = M 91 963 := by rw [hW, sU_ne (fun z => by omega), sU_ne (fun z => by omega), sU_ne (fun z => by omega), sU_ne (fun z => by omega), sU_ne (fun z => by omega), sU_ne (fun z => by omega), sU_ne (fun z => by omega)]
      have c110 : ∀ k, W 110 k = M 110 k := fun k => by rw [hW, sU_ne (fun z => by omega), sU_ne (fun z => by omega), sU_ne (fun z => by omega), sU_ne (fun z => by omega), sU_ne (fun z => by omega), sU_ne (fun z => by omega), sU_ne (fun z => by omega)]
      have c111 : ∀ k : Nat, k ≠ (1 * ρ 1 + 0).toNat → W 111 k = M 111 k := fun k hk => by rw [hW, sU_ne (fun z => by omega), sU_ne (fun z => by omega), sU_ne (fun z => by omega), sU_ne (fun z => by omega), sU_ne (fun z => by omega), sU_ne (fun z => by omega), sU_ne (fun z => by omega)]
      have a111 : W 111 (1 * ρ 1 + 0).toNat = 1 * ρ 3 + 0 := by rw [hW, sU_ne (fun z => by omega), sU_ne (fun z => by omega), sU_ne (fun z => by omega), sU_ne (fun z => by omega), sU_ne (fun z => by omega), sU_ne (fun z => by omega), sU_at]
      intro h
      rw [r91_964] at h
      omega
    have k_xZb : xZb W := by
      rw [hW]
      exact (uxZb rfl (uxZb rfl (uxZb rfl (uxZb rfl (uxZb rfl (uxZb rfl (uxZb (sinc_ok rfl _) hI.2.2.2.2.2.2.2.2.2.2.2.2.2.2.2.2.1)))))))
    have k_xT1 : xT1 W := by
      rw [hW]
      exact (uxT1 rfl (uxT1 rfl (uxT1 rfl (uxT1 rfl (uxT1 rfl (uxT1 rfl (uxT1 (sinc_ok rfl _) hI.2.2.2.2.2.2.2.2.2.2.2.2.2.2.2.2.2)))))))
    exact ⟨base, k2, k3, k_xY1, k_xY2, k_xY3, k_xZ1, k_xZ2, k_xZ3, k_xZ4, k_xZ5, k_xZ6, k_xZ7, k_xZ8, k_xZ9, k_xZa, k_xZb, k_xT1⟩
-- kNum
def xr_40 : qRu := (5, [[(1, 1)], [(-1, 1)]], [(91, 972, [(1, 1)]), (91, 973, [(1, 2)]), (91, 987, [(1, 3)]), (91, 988, [(1, 4)])], [], [(91, 989, [(1, 0)])], [[(-1, 0), (1, 3)], [(1, 0), (-1, 3)], [(1, 4)], [(-1, 4)]])
theorem xo_40 : qRok xr_40 := by
  intro ρ M h0 hf hm hI
  have f0 := hf [(1, 1)] (by decide)
  have f1 := hf [(-1, 1)] (by decide)
  simp only [qD, h0] at f0 f1
  have m0 : M 91 972 = 1 * ρ 1 + 0 := hm (91, 972, [(1, 1)]) (by decide)
  have m1 : M 91 973 = 1 * ρ 2 + 0 := hm (91, 973, [(1, 2)]) (by decide)
  have m2 : M 91 987 = 1 * ρ 3 + 0 := hm (91, 987, [(1, 3)]) (by decide)
  have m3 : M 91 988 = 1 * ρ 4 + 0 := hm (91, 988, [(1, 4)]) (by decide)
  have qxZ2 := hI.2.2.2.2.2.2.2.1
  have hE := qxZ2.2.2.1
  have hN := qxZ2.2.2.2.1
  unfold xkE at hE
  unfold xkN at hN
  rw [if_neg (by omega)] at hE
  rw [if_neg (by omega)] at hN
  refine ⟨ρ, fun _ _ => rfl, fun f h => ?_, ?_⟩
  · have h : f ∈ ([[(-1, 0), (1, 3)], [(1, 0), (-1, 3)], [(1, 4)], [(-1, 4)]] : List qF) := h
    simp only [List.mem_cons, List.not_mem_nil, or_false] at h
    rcases h with rfl | rfl | rfl | rfl
    · show 0 ≤ -1 * ρ 0 + (1 * ρ 3 + 0)
      (try rw [h0]); omega
    · show 0 ≤ 1 * ρ 0 + (-1 * ρ 3 + 0)
      (try rw [h0]); omega
    · show 0 ≤ 1 * ρ 4 + 0
      (try rw [h0]); omega
    · show 0 ≤ -1 * ρ 4 + 0
      (try rw [h0]); omega
  · show sI (sU M 91 989 (1 * ρ 0 + 0))
    obtain ⟨W, hW⟩ : ∃ W, W = (sU M 91 989 (1 * ρ 0 + 0)) := ⟨_, rfl⟩
    rw [← hW]
    have base : sI0 W := by
      rw [hW]
      exact (si_u0 hI.1 (fun r hr => by cases hr))
    have k2 : XI2 W := by
      rw [hW]
      exact (xi2_u rfl hI.2.1)
    have k3 : XI3 W := by
      rw [hW]
      exact (xi3_u rfl hI.2.2.1)
    have k_xY1 : xY1 W := by
      rw [hW]
      exact (uxY1 rfl hI.2.2.2.1)
    have k_xY2 : xY2 W := by
      rw [hW]
      exact (uxY2 rfl hI.2.2.2.2.1)
    have k_xY3 : xY3 W := by
      rw [hW]
      exact (uxY3 rfl hI.2.2.2.2.2.1)
    have k_xZ1 : xZ1 W := by
      rw [hW]
      exact (uxZ1 rfl hI.2.2.2.2.2.2.1)
    have k_xZ2 : xZ2 W := by
      have r91_972 : W 91 972 = M 91 972 := by rw [hW, sU_ne (fun z => by omega)]
      have r91_973 : W 91 973 = M 91 973 := by rw [hW, sU_ne (fun z => by omega)]
      have r91_987 : W 91 987 = M 91 987 := by rw [hW, sU_ne (fun z => by omega)]
      have r91_988 : W 91 988 = M 91 988 := by rw [hW, sU_ne (fun z => by omega)]
      have r91_989 : W 91 989 = 1 * ρ 0 + 0 := by rw [hW, sU_at]
      have r93_17 : W 93 17 = M 93 17 := by rw [hW, sU_ne (fun z => by omega)]
      have c110 : ∀ k, W 110 k = M 110 k := fun k => by rw [hW, sU_ne (fun z => by omega)]
      have c111 : ∀ k, W 111 k = M 111 k := fun k => by rw [hW, sU_ne (fun z => by omega)]
      unfold xZ2
      rw [r91_972, r91_973, r91_987, r91_988, r91_989, r93_17, c110, c111]
      exact ⟨qxZ2.1, qxZ2.2.1, qxZ2.2.2.1, qxZ2.2.2.2.1, fun _ => by unfold xkV; omega⟩
    have k_xZ3 : xZ3 W := by
      rw [hW]
      exact (uxZ3 rfl hI.2.2.2.2.2.2.2.2.1)
    have k_xZ4 : xZ4 W := by
      rw [hW]
      exact (uxZ4 rfl hI.2.2.2.2.2.2.2.2.2.1)
    have k_xZ5 : xZ5 W := by
      rw [hW]
      exact (uxZ5 rfl hI.2.2.2.2.2.2.2.2.2.2.1)
    have k_xZ6 : xZ6 W := by
      rw [hW]
      exact (uxZ6 rfl hI.2.2.2.2.2.2.2.2.2.2.2.1)
    have k_xZ7 : xZ7 W := by
      rw [hW]
      exact (uxZ7 rfl hI.2.2.2.2.2.2.2.2.2.2.2.2.1)
    have k_xZ8 : xZ8 W := by
      rw [hW]
      exact (uxZ8 rfl hI.2.2.2.2.2.2.2.2.2.2.2.2.2.1)
    have k_xZ9 : xZ9 W := by
      rw [hW]
      exact (uxZ9 rfl hI.2.2.2.2.2.2.2.2.2.2.2.2.2.2.1)
    have k_xZa : xZa W := by
      rw [hW]
      exact (uxZa rfl hI.2.2.2.2.2.2.2.2.2.2.2.2.2.2.2.1)
    have k_xZb : xZb W := by
      rw [hW]
      exact (uxZb rfl hI.2.2.2.2.2.2.2.2.2.2.2.2.2.2.2.2.1)
    have k_xT1 : xT1 W := by
      rw [hW]
      exact (uxT1 rfl hI.2.2.2.2.2.2.2.2.2.2.2.2.2.2.2.2.2)
    exact ⟨base, k2, k3, k_xY1, k_xY2, k_xY3, k_xZ1, k_xZ2, k_xZ3, k_xZ4, k_xZ5, k_xZ6, k_xZ7, k_xZ8, k_xZ9, k_xZa, k_xZb, k_xT1⟩
-- kName
def xr_41 : qRu := (5, [[(-1, 0), (1, 1)], [(1, 0), (-1, 1)], [(1, 2)], [(5, 0), (-1, 2)]], [(91, 972, [(1, 1)]), (91, 973, [(1, 2)]), (91, 987, [(1, 3)]), (91, 988, [(1, 4)])], [], [(91, 989, [(1, 0)])], [[(-1, 0), (1, 3)], [(1, 0), (-1, 3)], [(1, 4)], [(-1, 4)]])
theorem xo_41 : qRok xr_41 := by
  intro ρ M h0 hf hm hI
  have f0 := hf [(-1, 0), (1, 1)] (by decide)
  have f1 := hf [(1, 0), (-1, 1)] (by decide)
  have f2 := hf [(1, 2)] (by decide)
  have f3 := hf [(5, 0), (-1, 2)] (by decide)
  simp only [qD, h0] at f0 f1 f2 f3
  have m0 : M 91 972 = 1 * ρ 1 + 0 := hm (91, 972, [(1, 1)]) (by decide)
  have m1 : M 91 973 = 1 * ρ 2 + 0 := hm (91, 973, [(1, 2)]) (by decide)
  have m2 : M 91 987 = 1 * ρ 3 + 0 := hm (91, 987, [(1, 3)]) (by decide)
  have m3 : M 91 988 = 1 * ρ 4 + 0 := hm (91, 988, [(1, 4)]) (by decide)
  have qxZ2 := hI.2.2.2.2.2.2.2.1
  have hE := qxZ2.2.2.1
  have hN := qxZ2.2.2.2.1
  unfold xkE at hE
  unfold xkN at hN
  rw [if_neg (by omega)] at hE
  rw [if_neg (by omega)] at hN
  refine ⟨ρ, fun _ _ => rfl, fun f h => ?_, ?_⟩
  · have h : f ∈ ([[(-1, 0), (1, 3)], [(1, 0), (-1, 3)], [(1, 4)], [(-1, 4)]] : List qF) := h
    simp only [List.mem_cons, List.not_mem_nil, or_false] at h
    rcases h with rfl | rfl | rfl | rfl
    · show 0 ≤ -1 * ρ 0 + (1 * ρ 3 + 0)
      (try rw [h0]); omega
    · show 0 ≤ 1 * ρ 0 + (-1 * ρ 3 + 0)
      (try rw [h0]); omega
    · show 0 ≤ 1 * ρ 4 + 0
      (try rw [h0]); omega
    · show 0 ≤ -1 * ρ 4 + 0
      (try rw [h0]); omega
  · show sI (sU M 91 989 (1 * ρ 0 + 0))
    obtain ⟨W, hW⟩ : ∃ W, W = (sU M 91 989 (1 * ρ 0 + 0)) := ⟨_, rfl⟩
    rw [← hW]
    have base : sI0 W := by
      rw [hW]
      exact (si_u0 hI.1 (fun r hr => by cases hr))
    have k2 : XI2 W := by
      rw [hW]
      exact (xi2_u rfl hI.2.1)
    have k3 : XI3 W := by
      rw [hW]
      exact (xi3_u rfl hI.2.2.1)
    have k_xY1 : xY1 W := by
      rw [hW]
      exact (uxY1 rfl hI.2.2.2.1)
    have k_xY2 : xY2 W := by
      rw [hW]
      exact (uxY2 rfl hI.2.2.2.2.1)
    have k_xY3 : xY3 W := by
      rw [hW]
      exact (uxY3 rfl hI.2.2.2.2.2.1)
    have k_xZ1 : xZ1 W := by
      rw [hW]
      exact (uxZ1 rfl hI.2.2.2.2.2.2.1)
    have k_xZ2 : xZ2 W := by
      have r91_972 : W 91 972 = M 91 972 := by rw [hW, sU_ne (fun z => by omega)]
      have r91_973 : W 91 973 = M 91 973 := by rw [hW, sU_ne (fun z => by omega)]
      have r91_987 : W 91 987 = M 91 987 := by rw [hW, sU_ne (fun z => by omega)]
      have r91_988 : W 91 988 = M 91 988 := by rw [hW, sU_ne (fun z => by omega)]
      have r91_989 : W 91 989 = 1 * ρ 0 + 0 := by rw [hW, sU_at]
      have r93_17 : W 93 17 = M 93 17 := by rw [hW, sU_ne (fun z => by omega)]
      have c110 : ∀ k, W 110 k = M 110 k := fun k => by rw [hW, sU_ne (fun z => by omega)]
      have c111 : ∀ k, W 111 k = M 111 k := fun k => by rw [hW, sU_ne (fun z => by omega)]
      unfold xZ2
      rw [r91_972, r91_973, r91_987, r91_988, r91_989, r93_17, c110, c111]
      exact ⟨qxZ2.1, qxZ2.2.1, qxZ2.2.2.1, qxZ2.2.2.2.1, fun _ => by unfold xkV; omega⟩
    have k_xZ3 : xZ3 W := by
      rw [hW]
      exact (uxZ3 rfl hI.2.2.2.2.2.2.2.2.1)
    have k_xZ4 : xZ4 W := by
      rw [hW]
      exact (uxZ4 rfl hI.2.2.2.2.2.2.2.2.2.1)
    have k_xZ5 : xZ5 W := by
      rw [hW]
      exact (uxZ5 rfl hI.2.2.2.2.2.2.2.2.2.2.1)
    have k_xZ6 : xZ6 W := by
      rw [hW]
      exact (uxZ6 rfl hI.2.2.2.2.2.2.2.2.2.2.2.1)
    have k_xZ7 : xZ7 W := by
      rw [hW]
      exact (uxZ7 rfl hI.2.2.2.2.2.2.2.2.2.2.2.2.1)
    have k_xZ8 : xZ8 W := by
      rw [hW]
      exact (uxZ8 rfl hI.2.2.2.2.2.2.2.2.2.2.2.2.2.1)
    have k_xZ9 : xZ9 W := by
      rw [hW]
      exact (uxZ9 rfl hI.2.2.2.2.2.2.2.2.2.2.2.2.2.2.1)
    have k_xZa : xZa W := by
      rw [hW]
      exact (uxZa rfl hI.2.2.2.2.2.2.2.2.2.2.2.2.2.2.2.1)
    have k_xZb : xZb W := by
      rw [hW]
      exact (uxZb rfl hI.2.2.2.2.2.2.2.2.2.2.2.2.2.2.2.2.1)
    have k_xT1 : xT1 W := by
      rw [hW]
      exact (uxT1 rfl hI.2.2.2.2.2.2.2.2.2.2.2.2.2.2.2.2.2)
    exact ⟨base, k2, k3, k_xY1, k_xY2, k_xY3, k_xZ1, k_xZ2, k_xZ3, k_xZ4, k_xZ5, k_xZ6, k_xZ7, k_xZ8, k_xZ9, k_xZa, k_xZb, k_xT1⟩
-- kNot
def xr_42 : qRu := (5, [[(-2, 0), (1, 1)], [(2, 0), (-1, 1)], [(-260, 0), (1, 2)], [(260, 0), (-1, 2)]], [(91, 972, [(1, 1)]), (91, 973, [(1, 2)]), (91, 987, [(1, 3)]), (91, 988, [(1, 4)])], [], [(91, 989, [(1, 0)])], [[(1, 3)], [(-1, 3)], [(-1, 0), (1, 4)], [(1, 0), (-1, 4)]])
theorem xo_42 : qRok xr_42 := by
  intro ρ M h0 hf hm hI
  have f0 := hf [(-2, 0), (1, 1)] (by decide)
  have f1 := hf [(2, 0), (-1, 1)] (by decide)
  have f2 := hf [(-260, 0), (1, 2)] (by decide)
  have f3 := hf [(260, 0), (-1, 2)] (by decide)
  simp only [qD, h0] at f0 f1 f2 f3
  have m0 : M 91 972 = 1 * ρ 1 + 0 := hm (91, 972, [(1, 1)]) (by decide)
  have m1 : M 91 973 = 1 * ρ 2 + 0 := hm (91, 973, [(1, 2)]) (by decide)
  have m2 : M 91 987 = 1 * ρ 3 + 0 := hm (91, 987, [(1, 3)]) (by decide)
  have m3 : M 91 988 = 1 * ρ 4 + 0 := hm (91, 988, [(1, 4)]) (by decide)
  have qxZ2 := hI.2.2.2.2.2.2.2.1
  have hE := qxZ2.2.2.1
  have hN := qxZ2.2.2.2.1
  unfold xkE at hE
  unfold xkN at hN
  rw [if_pos (by omega), if_pos (by omega)] at hE
  rw [if_pos (by omega), if_pos (by omega)] at hN
  refine ⟨ρ, fun _ _ => rfl, fun f h => ?_, ?_⟩
  · have h : f ∈ ([[(1, 3)], [(-1, 3)], [(-1, 0), (1, 4)], [(1, 0), (-1, 4)]] : List qF) := h
    simp only [List.mem_cons, List.not_mem_nil, or_false] at h
    rcases h with rfl | rfl | rfl | rfl
    · show 0 ≤ 1 * ρ 3 + 0
      (try rw [h0]); omega
    · show 0 ≤ -1 * ρ 3 + 0
      (try rw [h0]); omega
    · show 0 ≤ -1 * ρ 0 + (1 * ρ 4 + 0)
      (try rw [h0]); omega
    · show 0 ≤ 1 * ρ 0 + (-1 * ρ 4 + 0)
      (try rw [h0]); omega
  · show sI (sU M 91 989 (1 * ρ 0 + 0))
    obtain ⟨W, hW⟩ : ∃ W, W = (sU M 91 989 (1 * ρ 0 + 0)) := ⟨_, rfl⟩
    rw [← hW]
    have base : sI0 W := by
      rw [hW]
      exact (si_u0 hI.1 (fun r hr => by cases hr))
    have k2 : XI2 W := by
      rw [hW]
      exact (xi2_u rfl hI.2.1)
    have k3 : XI3 W := by
      rw [hW]
      exact (xi3_u rfl hI.2.2.1)
    have k_xY1 : xY1 W := by
      rw [hW]
      exact (uxY1 rfl hI.2.2.2.1)
    have k_xY2 : xY2 W := by
      rw [hW]
      exact (uxY2 rfl hI.2.2.2.2.1)
    have k_xY3 : xY3 W := by
      rw [hW]
      exact (uxY3 rfl hI.2.2.2.2.2.1)
    have k_xZ1 : xZ1 W := by
      rw [hW]
      exact (uxZ1 rfl hI.2.2.2.2.2.2.1)
    have k_xZ2 : xZ2 W := by
      have r91_972 : W 91 972 = M 91 972 := by rw [hW, sU_ne (fun z => by omega)]
      have r91_973 : W 91 973 = M 91 973 := by rw [hW, sU_ne (fun z => by omega)]
      have r91_987 : W 91 987 = M 91 987 := by rw [hW, sU_ne (fun z => by omega)]
      have r91_988 : W 91 988 = M 91 988 := by rw [hW, sU_ne (fun z => by omega)]
      have r91_989 : W 91 989 = 1 * ρ 0 + 0 := by rw [hW, sU_at]
      have r93_17 : W 93 17 = M 93 17 := by rw [hW, sU_ne (fun z => by omega)]
      have c110 : ∀ k, W 110 k = M 110 k := fun k => by rw [hW, sU_ne (fun z => by omega)]
      have c111 : ∀ k, W 111 k = M 111 k := fun k => by rw [hW, sU_ne (fun z => by omega)]
      unfold xZ2
      rw [r91_972, r91_973, r91_987, r91_988, r91_989, r93_17, c110, c111]
      exact ⟨qxZ2.1, qxZ2.2.1, qxZ2.2.2.1, qxZ2.2.2.2.1, fun _ => by unfold xkV; omega⟩
    have k_xZ3 : xZ3 W := by
      rw [hW]
      exact (uxZ3 rfl hI.2.2.2.2.2.2.2.2.1)
    have k_xZ4 : xZ4 W := by
      rw [hW]
      exact (uxZ4 rfl hI.2.2.2.2.2.2.2.2.2.1)
    have k_xZ5 : xZ5 W := by
      rw [hW]
      exact (uxZ5 rfl hI.2.2.2.2.2.2.2.2.2.2.1)
    have k_xZ6 : xZ6 W := by
      rw [hW]
      exact (uxZ6 rfl hI.2.2.2.2.2.2.2.2.2.2.2.1)
    have k_xZ7 : xZ7 W := by
      rw [hW]
      exact (uxZ7 rfl hI.2.2.2.2.2.2.2.2.2.2.2.2.1)
    have k_xZ8 : xZ8 W := by
      rw [hW]
      exact (uxZ8 rfl hI.2.2.2.2.2.2.2.2.2.2.2.2.2.1)
    have k_xZ9 : xZ9 W := by
      rw [hW]
      exact (uxZ9 rfl hI.2.2.2.2.2.2.2.2.2.2.2.2.2.2.1)
    have k_xZa : xZa W := by
      rw [hW]
      exact (uxZa rfl hI.2.2.2.2.2.2.2.2.2.2.2.2.2.2.2.1)
    have k_xZb : xZb W := by
      rw [hW]
      exact (uxZb rfl hI.2.2.2.2.2.2.2.2.2.2.2.2.2.2.2.2.1)
    have k_xT1 : xT1 W := by
      rw [hW]
      exact (uxT1 rfl hI.2.2.2.2.2.2.2.2.2.2.2.2.2.2.2.2.2)
    exact ⟨base, k2, k3, k_xY1, k_xY2, k_xY3, k_xZ1, k_xZ2, k_xZ3, k_xZ4, k_xZ5, k_xZ6, k_xZ7, k_xZ8, k_xZ9, k_xZa, k_xZb, k_xT1⟩
-- kMore
def xr_43 : qRu := (5, [[(-2, 0), (1, 1)], [(2, 0), (-1, 1)], [(-261, 0), (1, 2)]], [(91, 972, [(1, 1)]), (91, 973, [(1, 2)]), (91, 987, [(1, 3)]), (91, 988, [(1, 4)])], [], [(91, 989, [(1, 0)])], [[(1, 0), (1, 3)], [(-1, 0), (-1, 3)], [(-2, 0), (1, 4)], [(2, 0), (-1, 4)]])
theorem xo_43 : qRok xr_43 := by
  intro ρ M h0 hf hm hI
  have f0 := hf [(-2, 0), (1, 1)] (by decide)
  have f1 := hf [(2, 0), (-1, 1)] (by decide)
  have f2 := hf [(-261, 0), (1, 2)] (by decide)
  simp only [qD, h0] at f0 f1 f2
  have m0 : M 91 972 = 1 * ρ 1 + 0 := hm (91, 972, [(1, 1)]) (by decide)
  have m1 : M 91 973 = 1 * ρ 2 + 0 := hm (91, 973, [(1, 2)]) (by decide)
  have m2 : M 91 987 = 1 * ρ 3 + 0 := hm (91, 987, [(1, 3)]) (by decide)
  have m3 : M 91 988 = 1 * ρ 4 + 0 := hm (91, 988, [(1, 4)]) (by decide)
  have qxZ2 := hI.2.2.2.2.2.2.2.1
  have hE := qxZ2.2.2.1
  have hN := qxZ2.2.2.2.1
  unfold xkE at hE
  unfold xkN at hN
  rw [if_pos (by omega), if_neg (by omega)] at hE
  rw [if_pos (by omega), if_neg (by omega)] at hN
  refine ⟨ρ, fun _ _ => rfl, fun f h => ?_, ?_⟩
  · have h : f ∈ ([[(1, 0), (1, 3)], [(-1, 0), (-1, 3)], [(-2, 0), (1, 4)], [(2, 0), (-1, 4)]] : List qF) := h
    simp only [List.mem_cons, List.not_mem_nil, or_false] at h
    rcases h with rfl | rfl | rfl | rfl
    · show 0 ≤ 1 * ρ 0 + (1 * ρ 3 + 0)
      (try rw [h0]); omega
    · show 0 ≤ -1 * ρ 0 + (-1 * ρ 3 + 0)
      (try rw [h0]); omega
    · show 0 ≤ -2 * ρ 0 + (1 * ρ 4 + 0)
      (try rw [h0]); omega
    · show 0 ≤ 2 * ρ 0 + (-1 * ρ 4 + 0)
      (try rw [h0]); omega
  · show sI (sU M 91 989 (1 * ρ 0 + 0))
    obtain ⟨W, hW⟩ : ∃ W, W = (sU M 91 989 (1 * ρ 0 + 0)) := ⟨_, rfl⟩
    rw [← hW]
    have base : sI0 W := by
      rw [hW]
      exact (si_u0 hI.1 (fun r hr => by cases hr))
    have k2 : XI2 W := by
      rw [hW]
      exact (xi2_u rfl hI.2.1)
    have k3 : XI3 W := by
      rw [hW]
      exact (xi3_u rfl hI.2.2.1)
    have k_xY1 : xY1 W := by
      rw [hW]
      exact (uxY1 rfl hI.2.2.2.1)
    have k_xY2 : xY2 W := by
      rw [hW]
      exact (uxY2 rfl hI.2.2.2.2.1)
    have k_xY3 : xY3 W := by
      rw [hW]
      exact (uxY3 rfl hI.2.2.2.2.2.1)
    have k_xZ1 : xZ1 W := by
      rw [hW]
      exact (uxZ1 rfl hI.2.2.2.2.2.2.1)
    have k_xZ2 : xZ2 W := by
      have r91_972 : W 91 972 = M 91 972 := by rw [hW, sU_ne (fun z => by omega)]
      have r91_973 : W 91 973 = M 91 973 := by rw [hW, sU_ne (fun z => by omega)]
      have r91_987 : W 91 987 = M 91 987 := by rw [hW, sU_ne (fun z => by omega)]
      have r91_988 : W 91 988 = M 91 988 := by rw [hW, sU_ne (fun z => by omega)]
      have r91_989 : W 91 989 = 1 * ρ 0 + 0 := by rw [hW, sU_at]
      have r93_17 : W 93 17 = M 93 17 := by rw [hW, sU_ne (fun z => by omega)]
      have c110 : ∀ k, W 110 k = M 110 k := fun k => by rw [hW, sU_ne (fun z => by omega)]
      have c111 : ∀ k, W 111 k = M 111 k := fun k => by rw [hW, sU_ne (fun z => by omega)]
      unfold xZ2
      rw [r91_972, r91_973, r91_987, r91_988, r91_989, r93_17, c110, c111]
      exact ⟨qxZ2.1, qxZ2.2.1, qxZ2.2.2.1, qxZ2.2.2.2.1, fun _ => by unfold xkV; omega⟩
    have k_xZ3 : xZ3 W := by
      rw [hW]
      exact (uxZ3 rfl hI.2.2.2.2.2.2.2.2.1)
    have k_xZ4 : xZ4 W := by
      rw [hW]
      exact (uxZ4 rfl hI.2.2.2.2.2.2.2.2.2.1)
    have k_xZ5 : xZ5 W := by
      rw [hW]
      exact (uxZ5 rfl hI.2.2.2.2.2.2.2.2.2.2.1)
    have k_xZ6 : xZ6 W := by
      rw [hW]
      exact (uxZ6 rfl hI.2.2.2.2.2.2.2.2.2.2.2.1)
    have k_xZ7 : xZ7 W := by
      rw [hW]
      exact (uxZ7 rfl hI.2.2.2.2.2.2.2.2.2.2.2.2.1)
    have k_xZ8 : xZ8 W := by
      rw [hW]
      exact (uxZ8 rfl hI.2.2.2.2.2.2.2.2.2.2.2.2.2.1)
    have k_xZ9 : xZ9 W := by
      rw [hW]
      exact (uxZ9 rfl hI.2.2.2.2.2.2.2.2.2.2.2.2.2.2.1)
    have k_xZa : xZa W := by
      rw [hW]
      exact (uxZa rfl hI.2.2.2.2.2.2.2.2.2.2.2.2.2.2.2.1)
    have k_xZb : xZb W := by
      rw [hW]
      exact (uxZb rfl hI.2.2.2.2.2.2.2.2.2.2.2.2.2.2.2.2.1)
    have k_xT1 : xT1 W := by
      rw [hW]
      exact (uxT1 rfl hI.2.2.2.2.2.2.2.2.2.2.2.2.2.2.2.2.2)
    exact ⟨base, k2, k3, k_xY1, k_xY2, k_xY3, k_xZ1, k_xZ2, k_xZ3, k_xZ4, k_xZ5, k_xZ6, k_xZ7, k_xZ8, k_xZ9, k_xZa, k_xZb, k_xT1⟩
-- kLess
def xr_44 : qRu := (5, [[(-2, 0), (1, 1)], [(2, 0), (-1, 1)], [(259, 0), (-1, 2)]], [(91, 972, [(1, 1)]), (91, 973, [(1, 2)]), (91, 987, [(1, 3)]), (91, 988, [(1, 4)])], [], [(91, 989, [(1, 0)])], [[(1, 0), (1, 3)], [(-1, 0), (-1, 3)], [(-2, 0), (1, 4)], [(2, 0), (-1, 4)]])
theorem xo_44 : qRok xr_44 := by
  intro ρ M h0 hf hm hI
  have f0 := hf [(-2, 0), (1, 1)] (by decide)
  have f1 := hf [(2, 0), (-1, 1)] (by decide)
  have f2 := hf [(259, 0), (-1, 2)] (by decide)
  simp only [qD, h0] at f0 f1 f2
  have m0 : M 91 972 = 1 * ρ 1 + 0 := hm (91, 972, [(1, 1)]) (by decide)
  have m1 : M 91 973 = 1 * ρ 2 + 0 := hm (91, 973, [(1, 2)]) (by decide)
  have m2 : M 91 987 = 1 * ρ 3 + 0 := hm (91, 987, [(1, 3)]) (by decide)
  have m3 : M 91 988 = 1 * ρ 4 + 0 := hm (91, 988, [(1, 4)]) (by decide)
  have qxZ2 := hI.2.2.2.2.2.2.2.1
  have hE := qxZ2.2.2.1
  have hN := qxZ2.2.2.2.1
  unfold xkE at hE
  unfold xkN at hN
  rw [if_pos (by omega), if_neg (by omega)] at hE
  rw [if_pos (by omega), if_neg (by omega)] at hN
  refine ⟨ρ, fun _ _ => rfl, fun f h => ?_, ?_⟩
  · have h : f ∈ ([[(1, 0), (1, 3)], [(-1, 0), (-1, 3)], [(-2, 0), (1, 4)], [(2, 0), (-1, 4)]] : List qF) := h
    simp only [List.mem_cons, List.not_mem_nil, or_false] at h
    rcases h with rfl | rfl | rfl | rfl
    · show 0 ≤ 1 * ρ 0 + (1 * ρ 3 + 0)
      (try rw [h0]); omega
    · show 0 ≤ -1 * ρ 0 + (-1 * ρ 3 + 0)
      (try rw [h0]); omega
    · show 0 ≤ -2 * ρ 0 + (1 * ρ 4 + 0)
      (try rw [h0]); omega
    · show 0 ≤ 2 * ρ 0 + (-1 * ρ 4 + 0)
      (try rw [h0]); omega
  · show sI (sU M 91 989 (1 * ρ 0 + 0))
    obtain ⟨W, hW⟩ : ∃ W, W = (sU M 91 989 (1 * ρ 0 + 0)) := ⟨_, rfl⟩
    rw [← hW]
    have base : sI0 W := by
      rw [hW]
      exact (si_u0 hI.1 (fun r hr => by cases hr))
    have k2 : XI2 W := by
      rw [hW]
      exact (xi2_u rfl hI.2.1)
    have k3 : XI3 W := by
      rw [hW]
      exact (xi3_u rfl hI.2.2.1)
    have k_xY1 : xY1 W := by
      rw [hW]
      exact (uxY1 rfl hI.2.2.2.1)
    have k_xY2 : xY2 W := by
      rw [hW]
      exact (uxY2 rfl hI.2.2.2.2.1)
    have k_xY3 : xY3 W := by
      rw [hW]
      exact (uxY3 rfl hI.2.2.2.2.2.1)
    have k_xZ1 : xZ1 W := by
      rw [hW]
      exact (uxZ1 rfl hI.2.2.2.2.2.2.1)
    have k_xZ2 : xZ2 W := by
      have r91_972 : W 91 972 = M 91 972 := by rw [hW, sU_ne (fun z => by omega)]
      have r91_973 : W 91 973 = M 91 973 := by rw [hW, sU_ne (fun z => by omega)]
      have r91_987 : W 91 987 = M 91 987 := by rw [hW, sU_ne (fun z => by omega)]
      have r91_988 : W 91 988 = M 91 988 := by rw [hW, sU_ne (fun z => by omega)]
      have r91_989 : W 91 989 = 1 * ρ 0 + 0 := by rw [hW, sU_at]
      have r93_17 : W 93 17 = M 93 17 := by rw [hW, sU_ne (fun z => by omega)]
      have c110 : ∀ k, W 110 k = M 110 k := fun k => by rw [hW, sU_ne (fun z => by omega)]
      have c111 : ∀ k, W 111 k = M 111 k := fun k => by rw [hW, sU_ne (fun z => by omega)]
      unfold xZ2
      rw [r91_972, r91_973, r91_987, r91_988, r91_989, r93_17, c110, c111]
      exact ⟨qxZ2.1, qxZ2.2.1, qxZ2.2.2.1, qxZ2.2.2.2.1, fun _ => by unfold xkV; omega⟩
    have k_xZ3 : xZ3 W := by
      rw [hW]
      exact (uxZ3 rfl hI.2.2.2.2.2.2.2.2.1)
    have k_xZ4 : xZ4 W := by
      rw [hW]
      exact (uxZ4 rfl hI.2.2.2.2.2.2.2.2.2.1)
    have k_xZ5 : xZ5 W := by
      rw [hW]
      exact (uxZ5 rfl hI.2.2.2.2.2.2.2.2.2.2.1)
    have k_xZ6 : xZ6 W := by
      rw [hW]
      exact (uxZ6 rfl hI.2.2.2.2.2.2.2.2.2.2.2.1)
    have k_xZ7 : xZ7 W := by
      rw [hW]
      exact (uxZ7 rfl hI.2.2.2.2.2.2.2.2.2.2.2.2.1)
    have k_xZ8 : xZ8 W := by
      rw [hW]
      exact (uxZ8 rfl hI.2.2.2.2.2.2.2.2.2.2.2.2.2.1)
    have k_xZ9 : xZ9 W := by
      rw [hW]
      exact (uxZ9 rfl hI.2.2.2.2.2.2.2.2.2.2.2.2.2.2.1)
    have k_xZa : xZa W := by
      rw [hW]
      exact (uxZa rfl hI.2.2.2.2.2.2.2.2.2.2.2.2.2.2.2.1)
    have k_xZb : xZb W := by
      rw [hW]
      exact (uxZb rfl hI.2.2.2.2.2.2.2.2.2.2.2.2.2.2.2.2.1)
    have k_xT1 : xT1 W := by
      rw [hW]
      exact (uxT1 rfl hI.2.2.2.2.2.2.2.2.2.2.2.2.2.2.2.2.2)
    exact ⟨base, k2, k3, k_xY1, k_xY2, k_xY3, k_xZ1, k_xZ2, k_xZ3, k_xZ4, k_xZ5, k_xZ6, k_xZ7, k_xZ8, k_xZ9, k_xZa, k_xZb, k_xT1⟩
-- knot
def xr_45 : qRu := (6, [[(-1, 0), (-1, 1), (1, 2)], [(1, 0), (1, 1), (-1, 2)], [(63, 0), (-1, 1)], [(1, 3), (-1, 5)]], [(93, 17, [(1, 1)]), (91, 971, [(1, 3)]), (91, 987, [(1, 4)]), (91, 988, [(1, 5)]), (91, 989, [(1, 0)])], [(93, [(17, 0)], [(1, 2)])], [(91, 971, [(1, 3), (1, 4)]), (91, 972, [(1, 6)]), (91, 973, [(1, 7)]), (91, 987, [(1, 8)]), (91, 988, [(1, 9)]), (91, 989, [])], [])
theorem xo_45 : qRok xr_45 := by
  intro ρ M h0 hf hm hI
  have f0 := hf [(-1, 0), (-1, 1), (1, 2)] (by decide)
  have f1 := hf [(1, 0), (1, 1), (-1, 2)] (by decide)
  have f2 := hf [(63, 0), (-1, 1)] (by decide)
  have f3 := hf [(1, 3), (-1, 5)] (by decide)
  simp only [qD, h0] at f0 f1 f2 f3
  have m0 : M 93 17 = 1 * ρ 1 + 0 := hm (93, 17, [(1, 1)]) (by decide)
  have m1 : M 91 971 = 1 * ρ 3 + 0 := hm (91, 971, [(1, 3)]) (by decide)
  have m2 : M 91 987 = 1 * ρ 4 + 0 := hm (91, 987, [(1, 4)]) (by decide)
  have m3 : M 91 988 = 1 * ρ 5 + 0 := hm (91, 988, [(1, 5)]) (by decide)
  have m4 : M 91 989 = 1 * ρ 0 + 0 := hm (91, 989, [(1, 0)]) (by decide)
  simp only [h0] at m4
  have qxZ1 := hI.2.2.2.2.2.2.1
  have qxZ2 := hI.2.2.2.2.2.2.2.1
  have qxZ3 := hI.2.2.2.2.2.2.2.2.1
  have hn : (0 : Int) ≤ M 93 17 ∧ M 93 17 ≤ 64 := hI.1 93 17 (0, 64) rfl
  refine ⟨fun a => cond (Nat.blt a 6) (ρ a) (([M 110 (64 + (1 * ρ 2 + 0).toNat), M 111 (64 + (1 * ρ 2 + 0).toNat), xkE (M 110 (64 + (1 * ρ 2 + 0).toNat)) (M 111 (64 + (1 * ρ 2 + 0).toNat)), xkN (M 110 (64 + (1 * ρ 2 + 0).toNat)) (M 111 (64 + (1 * ρ 2 + 0).toNat))] : List Int).getD (a - 6) 0), fun a ha => ?_, fun f h => ?_, ?_⟩
  · show cond (Nat.blt a 6) (ρ a) _ = ρ a
    rw [show Nat.blt a 6 = true from Nat.ble_eq_true_of_le ha]; rfl
  · exact nomatch h
  · show sI (sU (sU (sU (sU (sU (sU (sU M 93 (17 * ρ 0 + 0 : Int).toNat (1 * ρ 2 + 0)) 91 971 (1 * ρ 3 + (1 * ρ 4 + 0))) 91 972 (1 * (M 110 (64 + (1 * ρ 2 + 0).toNat)) + 0)) 91 973 (1 * (M 111 (64 + (1 * ρ 2 + 0).toNat)) + 0)) 91 987 (1 * (xkE (M 110 (64 + (1 * ρ 2 + 0).toNat)) (M 111 (64 + (1 * ρ 2 + 0).toNat))) + 0)) 91 988 (1 * (xkN (M 110 (64 + (1 * ρ 2 + 0).toNat)) (M 111 (64 + (1 * ρ 2 + 0).toNat))) + 0)) 91 989 (0))
    rw [show (17 * ρ 0 + 0 : Int).toNat = 17 by (try rw [h0]); rfl]
    obtain ⟨W, hW⟩ : ∃ W, W = (sU (sU (sU (sU (sU (sU (sU M 93 17 (1 * ρ 2 + 0)) 91 971 (1 * ρ 3 + (1 * ρ 4 + 0))) 91 972 (1 * (M 110 (64 + (1 * ρ 2 + 0).toNat)) + 0)) 91 973 (1 * (M 111 (64 + (1 * ρ 2 + 0).toNat)) + 0)) 91 987 (1 * (xkE (M 110 (64 + (1 * ρ 2 + 0).toNat)) (M 111 (64 + (1 * ρ 2 + 0).toNat))) + 0)) 91 988 (1 * (xkN (M 110 (64 + (1 * ρ 2 + 0).toNat)) (M 111 (64 + (1 * ρ 2 + 0).toNat))) + 0)) 91 989 (0)) := ⟨_, rfl⟩
    rw [← hW]
    have base : sI0 W := by
      rw [hW]
      exact (si_u0 (si_u0 (si_u0 (si_u0 (si_u0 (si_u0 (si_u0 hI.1 (fun r hr => by have hr : some ((0 : Int), (64 : Int)) = some r := hr; cases hr; exact ⟨by show (0 : Int) ≤ _; (try rw [h0]); omega, by show _ ≤ (64 : Int); (try rw [h0]); omega⟩)) (fun r hr => by cases hr)) (fun r hr => by cases hr)) (fun r hr => by cases hr)) (fun r hr => by cases hr)) (fun r hr => by cases hr)) (fun r hr => by cases hr))
    have k2 : XI2 W := by
      rw [hW]
      exact (xi2_u rfl (xi2_u rfl (xi2_u rfl (xi2_u rfl (xi2_u rfl (xi2_u rfl (xi2_u rfl hI.2.1)))))))
    have k3 : XI3 W := by
      rw [hW]
      exact (xi3_u rfl (xi3_u rfl (xi3_u rfl (xi3_u rfl (xi3_u rfl (xi3_u rfl (xi3_u rfl hI.2.2.1)))))))
    have k_xY1 : xY1 W := by
      rw [hW]
      exact (uxY1 rfl (uxY1 rfl (uxY1 rfl (uxY1 rfl (uxY1 rfl (uxY1 rfl (uxY1 rfl hI.2.2.2.1)))))))
    have k_xY2 : xY2 W := by
      rw [hW]
      exact (uxY2 rfl (uxY2 rfl (uxY2 rfl (uxY2 rfl (uxY2 rfl (uxY2 rfl (uxY2 rfl hI.2.2.2.2.1)))))))
    have k_xY3 : xY3 W := by
      rw [hW]
      exact (uxY3 rfl (uxY3 rfl (uxY3 rfl (uxY3 rfl (uxY3 rfl (uxY3 rfl (uxY3 rfl hI.2.2.2.2.2.1)))))))
    have k_xZ1 : xZ1 W := by
      have r91_970 : W 91 970 = M 91 970 := by rw [hW, sU_ne (fun z => by omega), sU_ne (fun z => by omega), sU_ne (fun z => by omega), sU_ne (fun z => by omega), sU_ne (fun z => by omega), sU_ne (fun z => by omega), sU_ne (fun z => by omega)]
      have r91_971 : W 91 971 = 1 * ρ 3 + (1 * ρ 4 + 0) := by rw [hW, sU_ne (fun z => by omega), sU_ne (fun z => by omega), sU_ne (fun z => by omega), sU_ne (fun z => by omega), sU_ne (fun z => by omega), sU_at]
      have r93_17 : W 93 17 = 1 * ρ 2 + 0 := by rw [hW, sU_ne (fun z => by omega), sU_ne (fun z => by omega), sU_ne (fun z => by omega), sU_ne (fun z => by omega), sU_ne (fun z => by omega), sU_ne (fun z => by omega), sU_at]
      have c110 : ∀ k, W 110 k = M 110 k := fun k => by rw [hW, sU_ne (fun z => by omega), sU_ne (fun z => by omega), sU_ne (fun z => by omega), sU_ne (fun z => by omega), sU_ne (fun z => by omega), sU_ne (fun z => by omega), sU_ne (fun z => by omega)]
      have c111 : ∀ k, W 111 k = M 111 k := fun k => by rw [hW, sU_ne (fun z => by omega), sU_ne (fun z => by omega), sU_ne (fun z => by omega), sU_ne (fun z => by omega), sU_ne (fun z => by omega), sU_ne (fun z => by omega), sU_ne (fun z => by omega)]
      obtain ⟨h1, h2, h3, h4⟩ := qxZ1
      obtain ⟨z1, z2, z3, z4, z5⟩ := qxZ2
      unfold xZ1
      rw [r91_970, r91_971, r93_17]
      have em : (1 * ρ 2 + 0).toNat - (M 91 970).toNat = ((M 93 17).toNat - (M 91 970).toNat) + 1 := by omega
      have ei : 64 + (M 91 970).toNat + ((M 93 17).toNat - (M 91 970).toNat) = 64 + (M 93 17).toNat := by omega
      rw [em]
      refine ⟨h1, by omega, ?_, ?_⟩
      · intro j hj
        rw [c110, c111, dp_congr (M := M) (fun k _ _ => ⟨c110 k, c111 k⟩)]
        by_cases hc : j < (M 93 17).toNat - (M 91 970).toNat
        · exact h3 j hc
        · rw [show j = (M 93 17).toNat - (M 91 970).toNat by omega, ei, ← z1, ← z2, ← z4, ← h4]
          exact ⟨by omega, z5 (by omega)⟩
      · rw [dp_s, dp_congr (M := M) (fun k _ _ => ⟨c110 k, c111 k⟩), c110, c111, ei, ← z1, ← z2, ← z3, ← h4]
        omega
    have k_xZ2 : xZ2 W := by
      have r91_972 : W 91 972 = 1 * (M 110 (64 + (1 * ρ 2 + 0).toNat)) + 0 := by rw [hW, sU_ne (fun z => by omega), sU_ne (fun z => by omega), sU_ne (fun z => by omega), sU_ne (fun z => by omega), sU_at]
      have r91_973 : W 91 973 = 1 * (M 111 (64 + (1 * ρ 2 + 0).toNat)) + 0 := by rw [hW, sU_ne (fun z => by omega), sU_ne (fun z => by omega), sU_ne (fun z => by omega), sU_at]
      have r91_987 : W 91 987 = 1 * (xkE (M 110 (64 + (1 * ρ 2 + 0).toNat)) (M 111 (64 + (1 * ρ 2 + 0).toNat))) + 0 := by rw [hW, sU_ne (fun z => by omega), sU_ne (fun z => by omega), sU_at]
      have r91_988 : W 91 988 = 1 * (xkN (M 110 (64 + (1 * ρ 2 + 0).toNat)) (M 111 (64 + (1 * ρ 2 + 0).toNat))) + 0 := by rw [hW, sU_ne (fun z => by omega), sU_at]
      have r91_989 : W 91 989 = 0 := by rw [hW, sU_at]
      have r93_17 : W 93 17 = 1 * ρ 2 + 0 := by rw [hW, sU_ne (fun z => by omega), sU_ne (fun z => by omega), sU_ne (fun z => by omega), sU_ne (fun z => by omega), sU_ne (fun z => by omega), sU_ne (fun z => by omega), sU_at]
      have c110 : ∀ k, W 110 k = M 110 k := fun k => by rw [hW, sU_ne (fun z => by omega), sU_ne (fun z => by omega), sU_ne (fun z => by omega), sU_ne (fun z => by omega), sU_ne (fun z => by omega), sU_ne (fun z => by omega), sU_ne (fun z => by omega)]
      have c111 : ∀ k, W 111 k = M 111 k := fun k => by rw [hW, sU_ne (fun z => by omega), sU_ne (fun z => by omega), sU_ne (fun z => by omega), sU_ne (fun z => by omega), sU_ne (fun z => by omega), sU_ne (fun z => by omega), sU_ne (fun z => by omega)]
      unfold xZ2
      rw [r91_972, r91_973, r91_987, r91_988, r91_989, r93_17, c110, c111]
      repeat rw [x10]
      exact ⟨rfl, rfl, rfl, rfl, fun z => absurd z (by decide)⟩
    have k_xZ3 : xZ3 W := by
      have r91_974 : W 91 974 = M 91 974 := by rw [hW, sU_ne (fun z => by omega), sU_ne (fun z => by omega), sU_ne (fun z => by omega), sU_ne (fun z => by omega), sU_ne (fun z => by omega), sU_ne (fun z => by omega), sU_ne (fun z => by omega)]
      have r93_17 : W 93 17 = 1 * ρ 2 + 0 := by rw [hW, sU_ne (fun z => by omega), sU_ne (fun z => by omega), sU_ne (fun z => by omega), sU_ne (fun z => by omega), sU_ne (fun z => by omega), sU_ne (fun z => by omega), sU_at]
      have c108 : ∀ k, W 108 k = M 108 k := fun k => by rw [hW, sU_ne (fun z => by omega), sU_ne (fun z => by omega), sU_ne (fun z => by omega), sU_ne (fun z => by omega), sU_ne (fun z => by omega), sU_ne (fun z => by omega), sU_ne (fun z => by omega)]
      have c109 : ∀ k, W 109 k = M 109 k := fun k => by rw [hW, sU_ne (fun z => by omega), sU_ne (fun z => by omega), sU_ne (fun z => by omega), sU_ne (fun z => by omega), sU_ne (fun z => by omega), sU_ne (fun z => by omega), sU_ne (fun z => by omega)]
      have c110 : ∀ k, W 110 k = M 110 k := fun k => by rw [hW, sU_ne (fun z => by omega), sU_ne (fun z => by omega), sU_ne (fun z => by omega), sU_ne (fun z => by omega), sU_ne (fun z => by omega), sU_ne (fun z => by omega), sU_ne (fun z => by omega)]
      have c111 : ∀ k, W 111 k = M 111 k := fun k => by rw [hW, sU_ne (fun z => by omega), sU_ne (fun z => by omega), sU_ne (fun z => by omega), sU_ne (fun z => by omega), sU_ne (fun z => by omega), sU_ne (fun z => by omega), sU_ne (fun z => by omega)]
      exact xz3_of r91_974 (by rw [r93_17]; omega) (fun k a b => ⟨c108 k, c109 k⟩) (fun k a b => ⟨c110 k, c111 k⟩) qxZ3
    have k_xZ4 : xZ4 W := by
      rw [hW]
      exact (uxZ4 rfl (uxZ4 rfl (uxZ4 rfl (uxZ4 rfl (uxZ4 rfl (uxZ4 rfl (uxZ4 rfl hI.2.2.2.2.2.2.2.2.2.1)))))))
    have k_xZ5 : xZ5 W := by
      rw [hW]
      exact (uxZ5 rfl (uxZ5 rfl (uxZ5 rfl (uxZ5 rfl (uxZ5 rfl (uxZ5 rfl (uxZ5 rfl hI.2.2.2.2.2.2.2.2.2.2.1)))))))
    have k_xZ6 : xZ6 W := by
      rw [hW]
      exact (uxZ6 rfl (uxZ6 rfl (uxZ6 rfl (uxZ6 rfl (uxZ6 rfl (uxZ6 rfl (uxZ6 rfl hI.2.2.2.2.2.2.2.2.2.2.2.1)))))))
    have k_xZ7 : xZ7 W := by
      rw [hW]
      exact (uxZ7 rfl (uxZ7 rfl (uxZ7 rfl (uxZ7 rfl (uxZ7 rfl (uxZ7 rfl (uxZ7 rfl hI.2.2.2.2.2.2.2.2.2.2.2.2.1)))))))
    have k_xZ8 : xZ8 W := by
      rw [hW]
      exact (uxZ8 rfl (uxZ8 rfl (uxZ8 rfl (uxZ8 rfl (uxZ8 rfl (uxZ8 rfl (uxZ8 rfl hI.2.2.2.2.2.2.2.2.2.2.2.2.2.1)))))))
    have k_xZ9 : xZ9 W := by
      rw [hW]
      exact (uxZ9 rfl (uxZ9 rfl (uxZ9 rfl (uxZ9 rfl (uxZ9 rfl (uxZ9 rfl (uxZ9 rfl hI.2.2.2.2.2.2.2.2.2.2.2.2.2.2.1)))))))
    have k_xZa : xZa W := by
      rw [hW]
      exact (uxZa rfl (uxZa rfl (uxZa rfl (uxZa rfl (uxZa rfl (uxZa rfl (uxZa rfl hI.2.2.2.2.2.2.2.2.2.2.2.2.2.2.2.1)))))))
    have k_xZb : xZb W := by
      rw [hW]
      exact (uxZb rfl (uxZb rfl (uxZb rfl (uxZb rfl (uxZb rfl (uxZb rfl (uxZb rfl hI.2.2.2.2.2.2.2.2.2.2.2.2.2.2.2.2.1)))))))
    have k_xT1 : xT1 W := by
      rw [hW]
      exact (uxT1 rfl (uxT1 rfl (uxT1 rfl (uxT1 rfl (uxT1 rfl (uxT1 rfl (uxT1 rfl hI.2.2.2.2.2.2.2.2.2.2.2.2.2.2.2.2.2)))))))
    exact ⟨base, k2, k3, k_xY1, k_xY2, k_xY3, k_xZ1, k_xZ2, k_xZ3, k_xZ4, k_xZ5, k_xZ6, k_xZ7, k_xZ8, k_xZ9, k_xZa, k_xZb, k_xT1⟩
-- noKnots
def xr_46 : qRu := (1, [], [(91, 974, [])], [(93, [(17, 0)], [])], [(91, 970, []), (91, 971, []), (91, 972, [(1, 1)]), (91, 973, [(1, 2)]), (91, 987, [(1, 3)]), (91, 988, [(1, 4)]), (91, 989, []), (91, 983, [])], [])
theorem xo_46 : qRok xr_46 := by
  intro ρ M h0 hf hm hI
  have m0 : M 91 974 = 0 := hm (91, 974, []) (by decide)
  have qxZ1 := hI.2.2.2.2.2.2.1
  have qxZ2 := hI.2.2.2.2.2.2.2.1
  have qxZ3 := hI.2.2.2.2.2.2.2.2.1
  have qxZb := hI.2.2.2.2.2.2.2.2.2.2.2.2.2.2.2.2.1
  refine ⟨fun a => cond (Nat.blt a 1) (ρ a) (([M 110 (64 + (0 : Int).toNat), M 111 (64 + (0 : Int).toNat), xkE (M 110 (64 + (0 : Int).toNat)) (M 111 (64 + (0 : Int).toNat)), xkN (M 110 (64 + (0 : Int).toNat)) (M 111 (64 + (0 : Int).toNat))] : List Int).getD (a - 1) 0), fun a ha => ?_, fun f h => ?_, ?_⟩
  · show cond (Nat.blt a 1) (ρ a) _ = ρ a
    rw [show Nat.blt a 1 = true from Nat.ble_eq_true_of_le ha]; rfl
  · exact nomatch h
  · show sI (sU (sU (sU (sU (sU (sU (sU (sU (sU M 93 (17 * ρ 0 + 0 : Int).toNat (0)) 91 970 (0)) 91 971 (0)) 91 972 (1 * (M 110 (64 + (0 : Int).toNat)) + 0)) 91 973 (1 * (M 111 (64 + (0 : Int).toNat)) + 0)) 91 987 (1 * (xkE (M 110 (64 + (0 : Int).toNat)) (M 111 (64 + (0 : Int).toNat))) + 0)) 91 988 (1 * (xkN (M 110 (64 + (0 : Int).toNat)) (M 111 (64 + (0 : Int).toNat))) + 0)) 91 989 (0)) 91 983 (0))
    rw [show (17 * ρ 0 + 0 : Int).toNat = 17 by (try rw [h0]); rfl]
    obtain ⟨W, hW⟩ : ∃ W, W = (sU (sU (sU (sU (sU (sU (sU (sU (sU M 93 17 (0)) 91 970 (0)) 91 971 (0)) 91 972 (1 * (M 110 (64 + (0 : Int).toNat)) + 0)) 91 973 (1 * (M 111 (64 + (0 : Int).toNat)) + 0)) 91 987 (1 * (xkE (M 110 (64 + (0 : Int).toNat)) (M 111 (64 + (0 : Int).toNat))) + 0)) 91 988 (1 * (xkN (M 110 (64 + (0 : Int).toNat)) (M 111 (64 + (0 : Int).toNat))) + 0)) 91 989 (0)) 91 983 (0)) := ⟨_, rfl⟩
    rw [← hW]
    have base : sI0 W := by
      rw [hW]
      exact (si_u0 (si_u0 (si_u0 (si_u0 (si_u0 (si_u0 (si_u0 (si_u0 (si_u0 hI.1 (fun r hr => by have hr : some ((0 : Int), (64 : Int)) = some r := hr; cases hr; exact ⟨by show (0 : Int) ≤ _; (try rw [h0]); omega, by show _ ≤ (64 : Int); (try rw [h0]); omega⟩)) (fun r hr => by cases hr)) (fun r hr => by cases hr)) (fun r hr => by cases hr)) (fun r hr => by cases hr)) (fun r hr => by cases hr)) (fun r hr => by cases hr)) (fun r hr => by cases hr)) (fun r hr => by cases hr))
    have k2 : XI2 W := by
      rw [hW]
      exact (xi2_u rfl (xi2_u rfl (xi2_u rfl (xi2_u rfl (xi2_u rfl (xi2_u rfl (xi2_u rfl (xi2_u rfl (xi2_u rfl hI.2.1)))))))))
    have k3 : XI3 W := by
      rw [hW]
      exact (xi3_u rfl (xi3_u rfl (xi3_u rfl (xi3_u rfl (xi3_u rfl (xi3_u rfl (xi3_u rfl (xi3_u rfl (xi3_u rfl hI.2.2.1)))))))))
    have k_xY1 : xY1 W := by
      rw [hW]
      exact (uxY1 rfl (uxY1 rfl (uxY1 rfl (uxY1 rfl (uxY1 rfl (uxY1 rfl (uxY1 rfl (uxY1 rfl (uxY1 rfl hI.2.2.2.1)))))))))
    have k_xY2 : xY2 W := by
      rw [hW]
      exact (uxY2 rfl (uxY2 rfl (uxY2 rfl (uxY2 rfl (uxY2 rfl (uxY2 rfl (uxY2 rfl (uxY2 rfl (uxY2 rfl hI.2.2.2.2.1)))))))))
    have k_xY3 : xY3 W := by
      rw [hW]
      exact (uxY3 rfl (uxY3 rfl (uxY3 rfl (uxY3 rfl (uxY3 rfl (uxY3 rfl (uxY3 rfl (uxY3 rfl (uxY3 rfl hI.2.2.2.2.2.1)))))))))
    have k_xZ1 : xZ1 W := by
      have r91_970 : W 91 970 = 0 := by rw [hW, sU_ne (fun z => by omega), sU_ne (fun z => by omega), sU_ne (fun z => by omega), sU_ne (fun z => by omega), sU_ne (fun z => by omega), sU_ne (fun z => by omega), sU_ne (fun z => by omega), sU_at]
      have r91_971 : W 91 971 = 0 := by rw [hW, sU_ne (fun z => by omega), sU_ne (fun z => by omega), sU_ne (fun z => by omega), sU_ne (fun z => by omega), sU_ne (fun z => by omega), sU_ne (fun z => by omega), sU_at]
      have r93_17 : W 93 17 = 0 := by rw [hW, sU_ne (fun z => by omega), sU_ne (fun z => by omega), sU_ne (fun z => by omega), sU_ne (fun z => by omega), sU_ne (fun z => by omega), sU_ne (fun z => by omega), sU_ne (fun z => by omega), sU_ne (fun z => by omega), sU_at]
      have c110 : ∀ k, W 110 k = M 110 k := fun k => by rw [hW, sU_ne (fun z => by omega), sU_ne (fun z => by omega), sU_ne (fun z => by omega), sU_ne (fun z => by omega), sU_ne (fun z => by omega), sU_ne (fun z => by omega), sU_ne (fun z => by omega), sU_ne (fun z => by omega), sU_ne (fun z => by omega)]
      have c111 : ∀ k, W 111 k = M 111 k := fun k => by rw [hW, sU_ne (fun z => by omega), sU_ne (fun z => by omega), sU_ne (fun z => by omega), sU_ne (fun z => by omega), sU_ne (fun z => by omega), sU_ne (fun z => by omega), sU_ne (fun z => by omega), sU_ne (fun z => by omega), sU_ne (fun z => by omega)]
      unfold xZ1
      rw [r91_970, r91_971, r93_17]
      exact ⟨by omega, by omega, fun j hj => absurd hj (by omega), rfl⟩
    have k_xZ2 : xZ2 W := by
      have r91_972 : W 91 972 = 1 * (M 110 (64 + (0 : Int).toNat)) + 0 := by rw [hW, sU_ne (fun z => by omega), sU_ne (fun z => by omega), sU_ne (fun z => by omega), sU_ne (fun z => by omega), sU_ne (fun z => by omega), sU_at]
      have r91_973 : W 91 973 = 1 * (M 111 (64 + (0 : Int).toNat)) + 0 := by rw [hW, sU_ne (fun z => by omega), sU_ne (fun z => by omega), sU_ne (fun z => by omega), sU_ne (fun z => by omega), sU_at]
      have r91_987 : W 91 987 = 1 * (xkE (M 110 (64 + (0 : Int).toNat)) (M 111 (64 + (0 : Int).toNat))) + 0 := by rw [hW, sU_ne (fun z => by omega), sU_ne (fun z => by omega), sU_ne (fun z => by omega), sU_at]
      have r91_988 : W 91 988 = 1 * (xkN (M 110 (64 + (0 : Int).toNat)) (M 111 (64 + (0 : Int).toNat))) + 0 := by rw [hW, sU_ne (fun z => by omega), sU_ne (fun z => by omega), sU_at]
      have r91_989 : W 91 989 = 0 := by rw [hW, sU_ne (fun z => by omega), sU_at]
      have r93_17 : W 93 17 = 0 := by rw [hW, sU_ne (fun z => by omega), sU_ne (fun z => by omega), sU_ne (fun z => by omega), sU_ne (fun z => by omega), sU_ne (fun z => by omega), sU_ne (fun z => by omega), sU_ne (fun z => by omega), sU_ne (fun z => by omega), sU_at]
      have c110 : ∀ k, W 110 k = M 110 k := fun k => by rw [hW, sU_ne (fun z => by omega), sU_ne (fun z => by omega), sU_ne (fun z => by omega), sU_ne (fun z => by omega), sU_ne (fun z => by omega), sU_ne (fun z => by omega), sU_ne (fun z => by omega), sU_ne (fun z => by omega), sU_ne (fun z => by omega)]
      have c111 : ∀ k, W 111 k = M 111 k := fun k => by rw [hW, sU_ne (fun z => by omega), sU_ne (fun z => by omega), sU_ne (fun z => by omega), sU_ne (fun z => by omega), sU_ne (fun z => by omega), sU_ne (fun z => by omega), sU_ne (fun z => by omega), sU_ne (fun z => by omega), sU_ne (fun z => by omega)]
      unfold xZ2
      rw [r91_972, r91_973, r91_987, r91_988, r91_989, r93_17, c110, c111]
      repeat rw [x10]
      exact ⟨rfl, rfl, rfl, rfl, fun z => absurd z (by decide)⟩
    have k_xZ3 : xZ3 W := by
      have r91_974 : W 91 974 = M 91 974 := by rw [hW, sU_ne (fun z => by omega), sU_ne (fun z => by omega), sU_ne (fun z => by omega), sU_ne (fun z => by omega), sU_ne (fun z => by omega), sU_ne (fun z => by omega), sU_ne (fun z => by omega), sU_ne (fun z => by omega), sU_ne (fun z => by omega)]
      have r93_17 : W 93 17 = 0 := by rw [hW, sU_ne (fun z => by omega), sU_ne (fun z => by omega), sU_ne (fun z => by omega), sU_ne (fun z => by omega), sU_ne (fun z => by omega), sU_ne (fun z => by omega), sU_ne (fun z => by omega), sU_ne (fun z => by omega), sU_at]
      have c108 : ∀ k, W 108 k = M 108 k := fun k => by rw [hW, sU_ne (fun z => by omega), sU_ne (fun z => by omega), sU_ne (fun z => by omega), sU_ne (fun z => by omega), sU_ne (fun z => by omega), sU_ne (fun z => by omega), sU_ne (fun z => by omega), sU_ne (fun z => by omega), sU_ne (fun z => by omega)]
      have c109 : ∀ k, W 109 k = M 109 k := fun k => by rw [hW, sU_ne (fun z => by omega), sU_ne (fun z => by omega), sU_ne (fun z => by omega), sU_ne (fun z => by omega), sU_ne (fun z => by omega), sU_ne (fun z => by omega), sU_ne (fun z => by omega), sU_ne (fun z => by omega), sU_ne (fun z => by omega)]
      have c110 : ∀ k, W 110 k = M 110 k := fun k => by rw [hW, sU_ne (fun z => by omega), sU_ne (fun z => by omega), sU_ne (fun z => by omega), sU_ne (fun z => by omega), sU_ne (fun z => by omega), sU_ne (fun z => by omega), sU_ne (fun z => by omega), sU_ne (fun z => by omega), sU_ne (fun z => by omega)]
      have c111 : ∀ k, W 111 k = M 111 k := fun k => by rw [hW, sU_ne (fun z => by omega), sU_ne (fun z => by omega), sU_ne (fun z => by omega), sU_ne (fun z => by omega), sU_ne (fun z => by omega), sU_ne (fun z => by omega), sU_ne (fun z => by omega), sU_ne (fun z => by omega), sU_ne (fun z => by omega)]
      intro h
      rw [r91_974] at h
      omega
    have k_xZ4 : xZ4 W := by
      rw [hW]
      exact (uxZ4 rfl (uxZ4 rfl (uxZ4 rfl (uxZ4 rfl (uxZ4 rfl (uxZ4 rfl (uxZ4 rfl (uxZ4 rfl (uxZ4 rfl hI.2.2.2.2.2.2.2.2.2.1)))))))))
    have k_xZ5 : xZ5 W := by
      rw [hW]
      exact (uxZ5 rfl (uxZ5 rfl (uxZ5 rfl (uxZ5 rfl (uxZ5 rfl (uxZ5 rfl (uxZ5 rfl (uxZ5 rfl (uxZ5 rfl hI.2.2.2.2.2.2.2.2.2.2.1)))))))))
    have k_xZ6 : xZ6 W := by
      rw [hW]
      exact (uxZ6 rfl (uxZ6 rfl (uxZ6 rfl (uxZ6 rfl (uxZ6 rfl (uxZ6 rfl (uxZ6 rfl (uxZ6 rfl (uxZ6 rfl hI.2.2.2.2.2.2.2.2.2.2.2.1)))))))))
    have k_xZ7 : xZ7 W := by
      rw [hW]
      exact (uxZ7 rfl (uxZ7 rfl (uxZ7 rfl (uxZ7 rfl (uxZ7 rfl (uxZ7 rfl (uxZ7 rfl (uxZ7 rfl (uxZ7 rfl hI.2.2.2.2.2.2.2.2.2.2.2.2.1)))))))))
    have k_xZ8 : xZ8 W := by
      rw [hW]
      exact (uxZ8 rfl (uxZ8 rfl (uxZ8 rfl (uxZ8 rfl (uxZ8 rfl (uxZ8 rfl (uxZ8 rfl (uxZ8 rfl (uxZ8 rfl hI.2.2.2.2.2.2.2.2.2.2.2.2.2.1)))))))))
    have k_xZ9 : xZ9 W := by
      rw [hW]
      exact (uxZ9 rfl (uxZ9 rfl (uxZ9 rfl (uxZ9 rfl (uxZ9 rfl (uxZ9 rfl (uxZ9 rfl (uxZ9 rfl (uxZ9 rfl hI.2.2.2.2.2.2.2.2.2.2.2.2.2.2.1)))))))))
    have k_xZa : xZa W := by
      rw [hW]
      exact (uxZa rfl (uxZa rfl (uxZa rfl (uxZa rfl (uxZa rfl (uxZa rfl (uxZa rfl (uxZa rfl (uxZa rfl hI.2.2.2.2.2.2.2.2.2.2.2.2.2.2.2.1)))))))))
    have k_xZb : xZb W := by
      have r91_983 : W 91 983 = 0 := by rw [hW, sU_at]
      have r91_970 : W 91 970 = 0 := by rw [hW, sU_ne (fun z => by omega), sU_ne (fun z => by omega), sU_ne (fun z => by omega), sU_ne (fun z => by omega), sU_ne (fun z => by omega), sU_ne (fun z => by omega), sU_ne (fun z => by omega), sU_at]
      have c108 : ∀ k, W 108 k = M 108 k := fun k => by rw [hW, sU_ne (fun z => by omega), sU_ne (fun z => by omega), sU_ne (fun z => by omega), sU_ne (fun z => by omega), sU_ne (fun z => by omega), sU_ne (fun z => by omega), sU_ne (fun z => by omega), sU_ne (fun z => by omega), sU_ne (fun z => by omega)]
      intro h
      rw [r91_983] at h
      omega
    have k_xT1 : xT1 W := by
      rw [hW]
      exact (uxT1 rfl (uxT1 rfl (uxT1 rfl (uxT1 rfl (uxT1 rfl (uxT1 rfl (uxT1 rfl (uxT1 rfl (uxT1 rfl hI.2.2.2.2.2.2.2.2.2.2.2.2.2.2.2.2.2)))))))))
    exact ⟨base, k2, k3, k_xY1, k_xY2, k_xY3, k_xZ1, k_xZ2, k_xZ3, k_xZ4, k_xZ5, k_xZ6, k_xZ7, k_xZ8, k_xZ9, k_xZa, k_xZb, k_xT1⟩
-- lawFrom
def xr_47 : qRu := (4, [[(-2, 0), (1, 1)], [(3, 0), (-1, 1)], [(1, 2), (-1, 3)], [(-1, 2), (1, 3)]], [(93, 17, [(1, 3)])], [(108, [(1, 1)], [(1, 2)])], [(91, 970, [(1, 2)]), (91, 971, []), (91, 983, [(1, 1)]), (91, 976, [])], [])
theorem xo_47 : qRok xr_47 := by
  intro ρ M h0 hf hm hI
  have f0 := hf [(-2, 0), (1, 1)] (by decide)
  have f1 := hf [(3, 0), (-1, 1)] (by decide)
  have f2 := hf [(1, 2), (-1, 3)] (by decide)
  have f3 := hf [(-1, 2), (1, 3)] (by decide)
  simp only [qD, h0] at f0 f1 f2 f3
  have m0 : M 93 17 = 1 * ρ 3 + 0 := hm (93, 17, [(1, 3)]) (by decide)
  have qxZ1 := hI.2.2.2.2.2.2.1
  have qxZ3 := hI.2.2.2.2.2.2.2.2.1
  have qxZ4 := hI.2.2.2.2.2.2.2.2.2.1
  have qxZ5 := hI.2.2.2.2.2.2.2.2.2.2.1
  have qxZb := hI.2.2.2.2.2.2.2.2.2.2.2.2.2.2.2.2.1
  have hn : (0 : Int) ≤ M 93 17 ∧ M 93 17 ≤ 64 := hI.1 93 17 (0, 64) rfl
  refine ⟨ρ, fun _ _ => rfl, fun f h => ?_, ?_⟩
  · exact nomatch h
  · show sI (sU (sU (sU (sU (sU M 108 (1 * ρ 1 + 0 : Int).toNat (1 * ρ 2 + 0)) 91 970 (1 * ρ 2 + 0)) 91 971 (0)) 91 983 (1 * ρ 1 + 0)) 91 976 (0))
    obtain ⟨W, hW⟩ : ∃ W, W = (sU (sU (sU (sU (sU M 108 (1 * ρ 1 + 0).toNat (1 * ρ 2 + 0)) 91 970 (1 * ρ 2 + 0)) 91 971 (0)) 91 983 (1 * ρ 1 + 0)) 91 976 (0)) := ⟨_, rfl⟩
    rw [← hW]
    have base : sI0 W := by
      rw [hW]
      exact (si_u0 (si_u0 (si_u0 (si_u0 (si_u0 hI.1 (fun r hr => by rw [xt_108 hr]; exact ⟨by show (0 : Int) ≤ _; omega, by show _ ≤ (64 : Int); omega⟩)) (fun r hr => by cases hr)) (fun r hr => by cases hr)) (fun r hr => by cases hr)) (fun r hr => by cases hr))
    have k2 : XI2 W := by
      rw [hW]
      exact (xi2_u rfl (xi2_u rfl (xi2_u rfl (xi2_u rfl (xi2_u (sinc_ok rfl _) hI.2.1)))))
    have k3 : XI3 W := by
      rw [hW]
      exact (xi3_u rfl (xi3_u rfl (xi3_u rfl (xi3_u rfl (xi3_u (sinc_ok rfl _) hI.2.2.1)))))
    have k_xY1 : xY1 W := by
      rw [hW]
      exact (uxY1 rfl (uxY1 rfl (uxY1 rfl (uxY1 rfl (uxY1 (sinc_ok rfl _) hI.2.2.2.1)))))
    have k_xY2 : xY2 W := by
      rw [hW]
      exact (uxY2 rfl (uxY2 rfl (uxY2 rfl (uxY2 rfl (uxY2 (sinc_ok rfl _) hI.2.2.2.2.1)))))
    have k_xY3 : xY3 W := by
      rw [hW]
      exact (uxY3 rfl (uxY3 rfl (uxY3 rfl (uxY3 rfl (uxY3 (sinc_ok rfl _) hI.2.2.2.2.2.1)))))
    have k_xZ1 : xZ1 W := by
      have r91_970 : W 91 970 = 1 * ρ 2 + 0 := by rw [hW, sU_ne (fun z => by omega), sU_ne (fun z => by omega), sU_ne (fun z => by omega), sU_at]
      have r91_971 : W 91 971 = 0 := by rw [hW, sU_ne (fun z => by omega), sU_ne (fun z => by omega), sU_at]
      have r93_17 : W 93 17 = M 93 17 := by rw [hW, sU_ne (fun z => by omega), sU_ne (fun z => by omega), sU_ne (fun z => by omega), sU_ne (fun z => by omega), sU_ne (fun z => by omega)]
      have c110 : ∀ k, W 110 k = M 110 k := fun k => by rw [hW, sU_ne (fun z => by omega), sU_ne (fun z => by omega), sU_ne (fun z => by omega), sU_ne (fun z => by omega), sU_ne (fun z => by omega)]
      have c111 : ∀ k, W 111 k = M 111 k := fun k => by rw [hW, sU_ne (fun z => by omega), sU_ne (fun z => by omega), sU_ne (fun z => by omega), sU_ne (fun z => by omega), sU_ne (fun z => by omega)]
      unfold xZ1
      rw [r91_970, r91_971, r93_17]
      rw [show (M 93 17).toNat - (1 * ρ 2 + 0).toNat = 0 by omega]
      exact ⟨by omega, by omega, fun j hj => absurd hj (by omega), rfl⟩
    have k_xZ2 : xZ2 W := by
      rw [hW]
      exact (uxZ2 rfl (uxZ2 rfl (uxZ2 rfl (uxZ2 rfl (uxZ2 (sinc_ok rfl _) hI.2.2.2.2.2.2.2.1)))))
    have k_xZ3 : xZ3 W := by
      have r91_974 : W 91 974 = M 91 974 := by rw [hW, sU_ne (fun z => by omega), sU_ne (fun z => by omega), sU_ne (fun z => by omega), sU_ne (fun z => by omega), sU_ne (fun z => by omega)]
      have r93_17 : W 93 17 = M 93 17 := by rw [hW, sU_ne (fun z => by omega), sU_ne (fun z => by omega), sU_ne (fun z => by omega), sU_ne (fun z => by omega), sU_ne (fun z => by omega)]
      have c108 : ∀ k : Nat, k ≠ (1 * ρ 1 + 0).toNat → W 108 k = M 108 k := fun k hk => by rw [hW, sU_ne (fun z => by omega), sU_ne (fun z => by omega), sU_ne (fun z => by omega), sU_ne (fun z => by omega), sU_ne (fun z => by omega)]
      have a108 : W 108 (1 * ρ 1 + 0).toNat = 1 * ρ 2 + 0 := by rw [hW, sU_ne (fun z => by omega), sU_ne (fun z => by omega), sU_ne (fun z => by omega), sU_ne (fun z => by omega), sU_at]
      have c109 : ∀ k, W 109 k = M 109 k := fun k => by rw [hW, sU_ne (fun z => by omega), sU_ne (fun z => by omega), sU_ne (fun z => by omega), sU_ne (fun z => by omega), sU_ne (fun z => by omega)]
      have c110 : ∀ k, W 110 k = M 110 k := fun k => by rw [hW, sU_ne (fun z => by omega), sU_ne (fun z => by omega), sU_ne (fun z => by omega), sU_ne (fun z => by omega), sU_ne (fun z => by omega)]
      have c111 : ∀ k, W 111 k = M 111 k := fun k => by rw [hW, sU_ne (fun z => by omega), sU_ne (fun z => by omega), sU_ne (fun z => by omega), sU_ne (fun z => by omega), sU_ne (fun z => by omega)]
      intro a k b c
      rw [r91_974] at a
      obtain ⟨p, q⟩ := qxZ3 a k b c
      rw [r93_17, c109]
      by_cases hc : k = (1 * ρ 1 + 0).toNat
      · rw [hc] at p ⊢
        rw [a108]
        exact ⟨p, fun j hj => absurd hj (by omega)⟩
      · rw [c108 k hc]
        exact ⟨p, ol_congr (fun j _ _ => ⟨c110 j, c111 j⟩) q⟩
    have k_xZ4 : xZ4 W := by
      have r91_975 : W 91 975 = M 91 975 := by rw [hW, sU_ne (fun z => by omega), sU_ne (fun z => by omega), sU_ne (fun z => by omega), sU_ne (fun z => by omega), sU_ne (fun z => by omega)]
      have c108 : ∀ k : Nat, k ≠ (1 * ρ 1 + 0).toNat → W 108 k = M 108 k := fun k hk => by rw [hW, sU_ne (fun z => by omega), sU_ne (fun z => by omega), sU_ne (fun z => by omega), sU_ne (fun z => by omega), sU_ne (fun z => by omega)]
      have a108 : W 108 (1 * ρ 1 + 0).toNat = 1 * ρ 2 + 0 := by rw [hW, sU_ne (fun z => by omega), sU_ne (fun z => by omega), sU_ne (fun z => by omega), sU_ne (fun z => by omega), sU_at]
      have c109 : ∀ k, W 109 k = M 109 k := fun k => by rw [hW, sU_ne (fun z => by omega), sU_ne (fun z => by omega), sU_ne (fun z => by omega), sU_ne (fun z => by omega), sU_ne (fun z => by omega)]
      have c110 : ∀ k, W 110 k = M 110 k := fun k => by rw [hW, sU_ne (fun z => by omega), sU_ne (fun z => by omega), sU_ne (fun z => by omega), sU_ne (fun z => by omega), sU_ne (fun z => by omega)]
      have c111 : ∀ k, W 111 k = M 111 k := fun k => by rw [hW, sU_ne (fun z => by omega), sU_ne (fun z => by omega), sU_ne (fun z => by omega), sU_ne (fun z => by omega), sU_ne (fun z => by omega)]
      exact xz4_of hI.1 r91_975 (fun k a => ⟨c108 k (by omega), c109 k⟩) (fun k a => ⟨c110 k, c111 k⟩) qxZ4
    have k_xZ5 : xZ5 W := by
      have r91_976 : W 91 976 = 0 := by rw [hW, sU_at]
      have c108 : ∀ k : Nat, k ≠ (1 * ρ 1 + 0).toNat → W 108 k = M 108 k := fun k hk => by rw [hW, sU_ne (fun z => by omega), sU_ne (fun z => by omega), sU_ne (fun z => by omega), sU_ne (fun z => by omega), sU_ne (fun z => by omega)]
      have a108 : W 108 (1 * ρ 1 + 0).toNat = 1 * ρ 2 + 0 := by rw [hW, sU_ne (fun z => by omega), sU_ne (fun z => by omega), sU_ne (fun z => by omega), sU_ne (fun z => by omega), sU_at]
      intro j hj
      rw [r91_976] at hj
      omega
    have k_xZ6 : xZ6 W := by
      rw [hW]
      exact (uxZ6 rfl (uxZ6 rfl (uxZ6 rfl (uxZ6 rfl (uxZ6 (sinc_ok rfl _) hI.2.2.2.2.2.2.2.2.2.2.2.1)))))
    have k_xZ7 : xZ7 W := by
      rw [hW]
      exact (uxZ7 rfl (uxZ7 rfl (uxZ7 rfl (uxZ7 rfl (uxZ7 (sinc_ok rfl _) hI.2.2.2.2.2.2.2.2.2.2.2.2.1)))))
    have k_xZ8 : xZ8 W := by
      rw [hW]
      exact (uxZ8 rfl (uxZ8 rfl (uxZ8 rfl (uxZ8 rfl (uxZ8 (sinc_ok rfl _) hI.2.2.2.2.2.2.2.2.2.2.2.2.2.1)))))
    have k_xZ9 : xZ9 W := by
      rw [hW]
      exact (uxZ9 rfl (uxZ9 rfl (uxZ9 rfl (uxZ9 rfl (uxZ9 (sinc_ok rfl _) hI.2.2.2.2.2.2.2.2.2.2.2.2.2.2.1)))))
    have k_xZa : xZa W := by
      rw [hW]
      exact (uxZa rfl (uxZa rfl (uxZa rfl (uxZa rfl (uxZa (sinc_ok rfl _) hI.2.2.2.2.2.2.2.2.2.2.2.2.2.2.2.1)))))
    have k_xZb : xZb W := by
      have r91_983 : W 91 983 = 1 * ρ 1 + 0 := by rw [hW, sU_ne (fun z => by omega), sU_at]
      have r91_970 : W 91 970 = 1 * ρ 2 + 0 := by rw [hW, sU_ne (fun z => by omega), sU_ne (fun z => by omega), sU_ne (fun z => by omega), sU_at]
      have c108 : ∀ k : Nat, k ≠ (1 * ρ 1 + 0).toNat → W 108 k = M 108 k := fun k hk => by rw [hW, sU_ne (fun z => by omega), sU_ne (fun z => by omega), sU_ne (fun z => by omega), sU_ne (fun z => by omega), sU_ne (fun z => by omega)]
      have a108 : W 108 (1 * ρ 1 + 0).toNat = 1 * ρ 2 + 0 := by rw [hW, sU_ne (fun z => by omega), sU_ne (fun z => by omega), sU_ne (fun z => by omega), sU_ne (fun z => by omega), sU_at]
      intro a b
      rw [r91_983, r91_970]
      exact a108
    have k_xT1 : xT1 W := by
      rw [hW]
      exact (uxT1 rfl (uxT1 rfl (uxT1 rfl (uxT1 rfl (uxT1 (sinc_ok rfl _) hI.2.2.2.2.2.2.2.2.2.2.2.2.2.2.2.2.2)))))
    exact ⟨base, k2, k3, k_xY1, k_xY2, k_xY3, k_xZ1, k_xZ2, k_xZ3, k_xZ4, k_xZ5, k_xZ6, k_xZ7, k_xZ8, k_xZ9, k_xZa, k_xZb, k_xT1⟩
-- lawTo
def xr_48 : qRu := (5, [[(-2, 0), (1, 1)], [(3, 0), (-1, 1)], [(1, 1), (-1, 3)], [(-1, 1), (1, 3)], [(1, 2), (-1, 4)], [(-1, 2), (1, 4)]], [(93, 17, [(1, 4)]), (91, 983, [(1, 3)])], [(109, [(1, 1)], [(1, 2)])], [(91, 977, [])], [])
theorem xo_48 : qRok xr_48 := by
  intro ρ M h0 hf hm hI
  have f0 := hf [(-2, 0), (1, 1)] (by decide)
  have f1 := hf [(3, 0), (-1, 1)] (by decide)
  have f2 := hf [(1, 1), (-1, 3)] (by decide)
  have f3 := hf [(-1, 1), (1, 3)] (by decide)
  have f4 := hf [(1, 2), (-1, 4)] (by decide)
  have f5 := hf [(-1, 2), (1, 4)] (by decide)
  simp only [qD, h0] at f0 f1 f2 f3 f4 f5
  have m0 : M 93 17 = 1 * ρ 4 + 0 := hm (93, 17, [(1, 4)]) (by decide)
  have m1 : M 91 983 = 1 * ρ 3 + 0 := hm (91, 983, [(1, 3)]) (by decide)
  have qxZ1 := hI.2.2.2.2.2.2.1
  have qxZ3 := hI.2.2.2.2.2.2.2.2.1
  have qxZ4 := hI.2.2.2.2.2.2.2.2.2.1
  have qxZ6 := hI.2.2.2.2.2.2.2.2.2.2.2.1
  have qxZb := hI.2.2.2.2.2.2.2.2.2.2.2.2.2.2.2.2.1
  have hn : (0 : Int) ≤ M 93 17 ∧ M 93 17 ≤ 64 := hI.1 93 17 (0, 64) rfl
  refine ⟨ρ, fun _ _ => rfl, fun f h => ?_, ?_⟩
  · exact nomatch h
  · show sI (sU (sU M 109 (1 * ρ 1 + 0 : Int).toNat (1 * ρ 2 + 0)) 91 977 (0))
    obtain ⟨W, hW⟩ : ∃ W, W = (sU (sU M 109 (1 * ρ 1 + 0).toNat (1 * ρ 2 + 0)) 91 977 (0)) := ⟨_, rfl⟩
    rw [← hW]
    have base : sI0 W := by
      rw [hW]
      exact (si_u0 (si_u0 hI.1 (fun r hr => by rw [xt_109 hr]; exact ⟨by show (0 : Int) ≤ _; omega, by show _ ≤ (64 : Int); omega⟩)) (fun r hr => by cases hr))
    have k2 : XI2 W := by
      rw [hW]
      exact (xi2_u rfl (xi2_u (sinc_ok rfl _) hI.2.1))
    have k3 : XI3 W := by
      rw [hW]
      exact (xi3_u rfl (xi3_u (sinc_ok rfl _) hI.2.2.1))
    have k_xY1 : xY1 W := by
      rw [hW]
      exact (uxY1 rfl (uxY1 (sinc_ok rfl _) hI.2.2.2.1))
    have k_xY2 : xY2 W := by
      rw [hW]
      exact (uxY2 rfl (uxY2 (sinc_ok rfl _) hI.2.2.2.2.1))
    have k_xY3 : xY3 W := by
      rw [hW]
      exact (uxY3 rfl (uxY3 (sinc_ok rfl _) hI.2.2.2.2.2.1))
    have k_xZ1 : xZ1 W := by
      rw [hW]
      exact (uxZ1 rfl (uxZ1 (sinc_ok rfl _) hI.2.2.2.2.2.2.1))
    have k_xZ2 : xZ2 W := by
      rw [hW]
      exact (uxZ2 rfl (uxZ2 (sinc_ok rfl _) hI.2.2.2.2.2.2.2.1))
    have k_xZ3 : xZ3 W := by
      have r91_974 : W 91 974 = M 91 974 := by rw [hW, sU_ne (fun z => by omega), sU_ne (fun z => by omega)]
      have r93_17 : W 93 17 = M 93 17 := by rw [hW, sU_ne (fun z => by omega), sU_ne (fun z => by omega)]
      have c108 : ∀ k, W 108 k = M 108 k := fun k => by rw [hW, sU_ne (fun z => by omega), sU_ne (fun z => by omega)]
      have c109 : ∀ k : Nat, k ≠ (1 * ρ 1 + 0).toNat → W 109 k = M 109 k := fun k hk => by rw [hW, sU_ne (fun z => by omega), sU_ne (fun z => by omega)]
      have a109 : W 109 (1 * ρ 1 + 0).toNat = 1 * ρ 2 + 0 := by rw [hW, sU_ne (fun z => by omega), sU_at]
      have c110 : ∀ k, W 110 k = M 110 k := fun k => by rw [hW, sU_ne (fun z => by omega), sU_ne (fun z => by omega)]
      have c111 : ∀ k, W 111 k = M 111 k := fun k => by rw [hW, sU_ne (fun z => by omega), sU_ne (fun z => by omega)]
      intro a k b c
      rw [r91_974] at a
      rw [r93_17, c108]
      by_cases hc : k = (1 * ρ 1 + 0).toNat
      · have hb := qxZb (by omega) (by omega)
        rw [show (M 91 983).toNat = (1 * ρ 1 + 0).toNat by omega] at hb
        rw [hc, a109, hb, show (1 * ρ 2 + 0).toNat = (M 93 17).toNat by omega]
        exact ⟨by omega, ol_congr (fun j _ _ => ⟨c110 j, c111 j⟩) qxZ1.2.2.1⟩
      · obtain ⟨p, q⟩ := qxZ3 a k b c
        rw [c109 k hc]
        exact ⟨p, ol_congr (fun j _ _ => ⟨c110 j, c111 j⟩) q⟩
    have k_xZ4 : xZ4 W := by
      have r91_975 : W 91 975 = M 91 975 := by rw [hW, sU_ne (fun z => by omega), sU_ne (fun z => by omega)]
      have c108 : ∀ k, W 108 k = M 108 k := fun k => by rw [hW, sU_ne (fun z => by omega), sU_ne (fun z => by omega)]
      have c109 : ∀ k : Nat, k ≠ (1 * ρ 1 + 0).toNat → W 109 k = M 109 k := fun k hk => by rw [hW, sU_ne (fun z => by omega), sU_ne (fun z => by omega)]
      have a109 : W 109 (1 * ρ 1 + 0).toNat = 1 * ρ 2 + 0 := by rw [hW, sU_ne (fun z => by omega), sU_at]
      have c110 : ∀ k, W 110 k = M 110 k := fun k => by rw [hW, sU_ne (fun z => by omega), sU_ne (fun z => by omega)]
      have c111 : ∀ k, W 111 k = M 111 k := fun k => by rw [hW, sU_ne (fun z => by omega), sU_ne (fun z => by omega)]
      exact xz4_of hI.1 r91_975 (fun k a => ⟨c108 k, c109 k (by omega)⟩) (fun k a => ⟨c110 k, c111 k⟩) qxZ4
    have k_xZ5 : xZ5 W := by
      rw [hW]
      exact (uxZ5 rfl (uxZ5 (sinc_ok rfl _) hI.2.2.2.2.2.2.2.2.2.2.1))
    have k_xZ6 : xZ6 W := by
      have r91_977 : W 91 977 = 0 := by rw [hW, sU_at]
      have c109 : ∀ k : Nat, k ≠ (1 * ρ 1 + 0).toNat → W 109 k = M 109 k := fun k hk => by rw [hW, sU_ne (fun z => by omega), sU_ne (fun z => by omega)]
      have a109 : W 109 (1 * ρ 1 + 0).toNat = 1 * ρ 2 + 0 := by rw [hW, sU_ne (fun z => by omega), sU_at]
      intro j hj
      rw [r91_977] at hj
      omega
    have k_xZ7 : xZ7 W := by
      rw [hW]
      exact (uxZ7 rfl (uxZ7 (sinc_ok rfl _) hI.2.2.2.2.2.2.2.2.2.2.2.2.1))
    have k_xZ8 : xZ8 W := by
      rw [hW]
      exact (uxZ8 rfl (uxZ8 (sinc_ok rfl _) hI.2.2.2.2.2.2.2.2.2.2.2.2.2.1))
    have k_xZ9 : xZ9 W := by
      rw [hW]
      exact (uxZ9 rfl (uxZ9 (sinc_ok rfl _) hI.2.2.2.2.2.2.2.2.2.2.2.2.2.2.1))
    have k_xZa : xZa W := by
      rw [hW]
      exact (uxZa rfl (uxZa (sinc_ok rfl _) hI.2.2.2.2.2.2.2.2.2.2.2.2.2.2.2.1))
    have k_xZb : xZb W := by
      rw [hW]
      exact (uxZb rfl (uxZb (sinc_ok rfl _) hI.2.2.2.2.2.2.2.2.2.2.2.2.2.2.2.2.1))
    have k_xT1 : xT1 W := by
      rw [hW]
      exact (uxT1 rfl (uxT1 (sinc_ok rfl _) hI.2.2.2.2.2.2.2.2.2.2.2.2.2.2.2.2.2))
    exact ⟨base, k2, k3, k_xY1, k_xY2, k_xY3, k_xZ1, k_xZ2, k_xZ3, k_xZ4, k_xZ5, k_xZ6, k_xZ7, k_xZ8, k_xZ9, k_xZa, k_xZb, k_xT1⟩
-- noFrom
def xr_49 : qRu := (2, [[(-2, 0), (1, 1)], [(3, 0), (-1, 1)]], [(91, 974, [])], [(108, [(1, 1)], [])], [(91, 983, []), (91, 976, [])], [])
theorem xo_49 : qRok xr_49 := by
  intro ρ M h0 hf hm hI
  have f0 := hf [(-2, 0), (1, 1)] (by decide)
  have f1 := hf [(3, 0), (-1, 1)] (by decide)
  simp only [qD, h0] at f0 f1
  have m0 : M 91 974 = 0 := hm (91, 974, []) (by decide)
  have qxZ3 := hI.2.2.2.2.2.2.2.2.1
  have qxZ4 := hI.2.2.2.2.2.2.2.2.2.1
  have qxZ5 := hI.2.2.2.2.2.2.2.2.2.2.1
  have qxZb := hI.2.2.2.2.2.2.2.2.2.2.2.2.2.2.2.2.1
  refine ⟨ρ, fun _ _ => rfl, fun f h => ?_, ?_⟩
  · exact nomatch h
  · show sI (sU (sU (sU M 108 (1 * ρ 1 + 0 : Int).toNat (0)) 91 983 (0)) 91 976 (0))
    obtain ⟨W, hW⟩ : ∃ W, W = (sU (sU (sU M 108 (1 * ρ 1 + 0).toNat (0)) 91 983 (0)) 91 976 (0)) := ⟨_, rfl⟩
    rw [← hW]
    have base : sI0 W := by
      rw [hW]
      exact (si_u0 (si_u0 (si_u0 hI.1 (fun r hr => by rw [xt_108 hr]; exact ⟨by show (0 : Int) ≤ _; omega, by show _ ≤ (64 : Int); omega⟩)) (fun r hr => by cases hr)) (fun r hr => by cases hr))
    have k2 : XI2 W := by
      rw [hW]
      exact (xi2_u rfl (xi2_u rfl (xi2_u (sinc_ok rfl _) hI.2.1)))
    have k3 : XI3 W := by
      rw [hW]
      exact (xi3_u rfl (xi3_u rfl (xi3_u (sinc_ok rfl _) hI.2.2.1)))
    have k_xY1 : xY1 W := by
      rw [hW]
      exact (uxY1 rfl (uxY1 rfl (uxY1 (sinc_ok rfl _) hI.2.2.2.1)))
    have k_xY2 : xY2 W := by
      rw [hW]
      exact (uxY2 rfl (uxY2 rfl (uxY2 (sinc_ok rfl _) hI.2.2.2.2.1)))
    have k_xY3 : xY3 W := by
      rw [hW]
      exact (uxY3 rfl (uxY3 rfl (uxY3 (sinc_ok rfl _) hI.2.2.2.2.2.1)))
    have k_xZ1 : xZ1 W := by
      rw [hW]
      exact (uxZ1 rfl (uxZ1 rfl (uxZ1 (sinc_ok rfl _) hI.2.2.2.2.2.2.1)))
    have k_xZ2 : xZ2 W := by
      rw [hW]
      exact (uxZ2 rfl (uxZ2 rfl (uxZ2 (sinc_ok rfl _) hI.2.2.2.2.2.2.2.1)))
    have k_xZ3 : xZ3 W := by
      have r91_974 : W 91 974 = M 91 974 := by rw [hW, sU_ne (fun z => by omega), sU_ne (fun z => by omega), sU_ne (fun z => by omega)]
      have r93_17 : W 93 17 = M 93 17 := by rw [hW, sU_ne (fun z => by omega), sU_ne (fun z => by omega), sU_ne (fun z => by omega)]
      have c108 : ∀ k : Nat, k ≠ (1 * ρ 1 + 0).toNat → W 108 k = M 108 k := fun k hk => by rw [hW, sU_ne (fun z => by omega), sU_ne (fun z => by omega), sU_ne (fun z => by omega)]
      have a108 : W 108 (1 * ρ 1 + 0).toNat = 0 := by rw [hW, sU_ne (fun z => by omega), sU_ne (fun z => by omega), sU_at]
      have c109 : ∀ k, W 109 k = M 109 k := fun k => by rw [hW, sU_ne (fun z => by omega), sU_ne (fun z => by omega), sU_ne (fun z => by omega)]
      have c110 : ∀ k, W 110 k = M 110 k := fun k => by rw [hW, sU_ne (fun z => by omega), sU_ne (fun z => by omega), sU_ne (fun z => by omega)]
      have c111 : ∀ k, W 111 k = M 111 k := fun k => by rw [hW, sU_ne (fun z => by omega), sU_ne (fun z => by omega), sU_ne (fun z => by omega)]
      intro h
      rw [r91_974] at h
      omega
    have k_xZ4 : xZ4 W := by
      have r91_975 : W 91 975 = M 91 975 := by rw [hW, sU_ne (fun z => by omega), sU_ne (fun z => by omega), sU_ne (fun z => by omega)]
      have c108 : ∀ k : Nat, k ≠ (1 * ρ 1 + 0).toNat → W 108 k = M 108 k := fun k hk => by rw [hW, sU_ne (fun z => by omega), sU_ne (fun z => by omega), sU_ne (fun z => by omega)]
      have a108 : W 108 (1 * ρ 1 + 0).toNat = 0 := by rw [hW, sU_ne (fun z => by omega), sU_ne (fun z => by omega), sU_at]
      have c109 : ∀ k, W 109 k = M 109 k := fun k => by rw [hW, sU_ne (fun z => by omega), sU_ne (fun z => by omega), sU_ne (fun z => by omega)]
      have c110 : ∀ k, W 110 k = M 110 k := fun k => by rw [hW, sU_ne (fun z => by omega), sU_ne (fun z => by omega), sU_ne (fun z => by omega)]
      have c111 : ∀ k, W 111 k = M 111 k := fun k => by rw [hW, sU_ne (fun z => by omega), sU_ne (fun z => by omega), sU_ne (fun z => by omega)]
      exact xz4_of hI.1 r91_975 (fun k a => ⟨c108 k (by omega), c109 k⟩) (fun k a => ⟨c110 k, c111 k⟩) qxZ4
    have k_xZ5 : xZ5 W := by
      have r91_976 : W 91 976 = 0 := by rw [hW, sU_at]
      have c108 : ∀ k : Nat, k ≠ (1 * ρ 1 + 0).toNat → W 108 k = M 108 k := fun k hk => by rw [hW, sU_ne (fun z => by omega), sU_ne (fun z => by omega), sU_ne (fun z => by omega)]
      have a108 : W 108 (1 * ρ 1 + 0).toNat = 0 := by rw [hW, sU_ne (fun z => by omega), sU_ne (fun z => by omega), sU_at]
      intro j hj
      rw [r91_976] at hj
      omega
    have k_xZ6 : xZ6 W := by
      rw [hW]
      exact (uxZ6 rfl (uxZ6 rfl (uxZ6 (sinc_ok rfl _) hI.2.2.2.2.2.2.2.2.2.2.2.1)))
    have k_xZ7 : xZ7 W := by
      rw [hW]
      exact (uxZ7 rfl (uxZ7 rfl (uxZ7 (sinc_ok rfl _) hI.2.2.2.2.2.2.2.2.2.2.2.2.1)))
    have k_xZ8 : xZ8 W := by
      rw [hW]
      exact (uxZ8 rfl (uxZ8 rfl (uxZ8 (sinc_ok rfl _) hI.2.2.2.2.2.2.2.2.2.2.2.2.2.1)))
    have k_xZ9 : xZ9 W := by
      rw [hW]
      exact (uxZ9 rfl (uxZ9 rfl (uxZ9 (sinc_ok rfl _) hI.2.2.2.2.2.2.2.2.2.2.2.2.2.2.1)))
    have k_xZa : xZa W := by
      rw [hW]
      exact (uxZa rfl (uxZa rfl (uxZa (sinc_ok rfl _) hI.2.2.2.2.2.2.2.2.2.2.2.2.2.2.2.1)))
    have k_xZb : xZb W := by
      have r91_983 : W 91 983 = 0 := by rw [hW, sU_ne (fun z => by omega), sU_at]
      have r91_970 : W 91 970 = M 91 970 := by rw [hW, sU_ne (fun z => by omega), sU_ne (fun z => by omega), sU_ne (fun z => by omega)]
      have c108 : ∀ k : Nat, k ≠ (1 * ρ 1 + 0).toNat → W 108 k = M 108 k := fun k hk => by rw [hW, sU_ne (fun z => by omega), sU_ne (fun z => by omega), sU_ne (fun z => by omega)]
      have a108 : W 108 (1 * ρ 1 + 0).toNat = 0 := by rw [hW, sU_ne (fun z => by omega), sU_ne (fun z => by omega), sU_at]
      intro h
      rw [r91_983] at h
      omega
    have k_xT1 : xT1 W := by
      rw [hW]
      exact (uxT1 rfl (uxT1 rfl (uxT1 (sinc_ok rfl _) hI.2.2.2.2.2.2.2.2.2.2.2.2.2.2.2.2.2)))
    exact ⟨base, k2, k3, k_xY1, k_xY2, k_xY3, k_xZ1, k_xZ2, k_xZ3, k_xZ4, k_xZ5, k_xZ6, k_xZ7, k_xZ8, k_xZ9, k_xZa, k_xZb, k_xT1⟩
-- noTo
def xr_50 : qRu := (2, [[(-2, 0), (1, 1)], [(3, 0), (-1, 1)]], [(91, 974, [])], [(109, [(1, 1)], [])], [(91, 977, [])], [])
theorem xo_50 : qRok xr_50 := by
  intro ρ M h0 hf hm hI
  have f0 := hf [(-2, 0), (1, 1)] (by decide)
  have f1 := hf [(3, 0), (-1, 1)] (by decide)
  simp only [qD, h0] at f0 f1
  have m0 : M 91 974 = 0 := hm (91, 974, []) (by decide)
  have qxZ3 := hI.2.2.2.2.2.2.2.2.1
  have qxZ4 := hI.2.2.2.2.2.2.2.2.2.1
  have qxZ6 := hI.2.2.2.2.2.2.2.2.2.2.2.1
  refine ⟨ρ, fun _ _ => rfl, fun f h => ?_, ?_⟩
  · exact nomatch h
  · show sI (sU (sU M 109 (1 * ρ 1 + 0 : Int).toNat (0)) 91 977 (0))
    obtain ⟨W, hW⟩ : ∃ W, W = (sU (sU M 109 (1 * ρ 1 + 0).toNat (0)) 91 977 (0)) := ⟨_, rfl⟩
    rw [← hW]
    have base : sI0 W := by
      rw [hW]
      exact (si_u0 (si_u0 hI.1 (fun r hr => by rw [xt_109 hr]; exact ⟨by show (0 : Int) ≤ _; omega, by show _ ≤ (64 : Int); omega⟩)) (fun r hr => by cases hr))
    have k2 : XI2 W := by
      rw [hW]
      exact (xi2_u rfl (xi2_u (sinc_ok rfl _) hI.2.1))
    have k3 : XI3 W := by
      rw [hW]
      exact (xi3_u rfl (xi3_u (sinc_ok rfl _) hI.2.2.1))
    have k_xY1 : xY1 W := by
      rw [hW]
      exact (uxY1 rfl (uxY1 (sinc_ok rfl _) hI.2.2.2.1))
    have k_xY2 : xY2 W := by
      rw [hW]
      exact (uxY2 rfl (uxY2 (sinc_ok rfl _) hI.2.2.2.2.1))
    have k_xY3 : xY3 W := by
      rw [hW]
      exact (uxY3 rfl (uxY3 (sinc_ok rfl _) hI.2.2.2.2.2.1))
    have k_xZ1 : xZ1 W := by
      rw [hW]
      exact (uxZ1 rfl (uxZ1 (sinc_ok rfl _) hI.2.2.2.2.2.2.1))
    have k_xZ2 : xZ2 W := by
      rw [hW]
      exact (uxZ2 rfl (uxZ2 (sinc_ok rfl _) hI.2.2.2.2.2.2.2.1))
    have k_xZ3 : xZ3 W := by
      have r91_974 : W 91 974 = M 91 974 := by rw [hW, sU_ne (fun z => by omega), sU_ne (fun z => by omega)]
      have r93_17 : W 93 17 = M 93 17 := by rw [hW, sU_ne (fun z => by omega), sU_ne (fun z => by omega)]
      have c108 : ∀ k, W 108 k = M 108 k := fun k => by rw [hW, sU_ne (fun z => by omega), sU_ne (fun z => by omega)]
      have c109 : ∀ k : Nat, k ≠ (1 * ρ 1 + 0).toNat → W 109 k = M 109 k := fun k hk => by rw [hW, sU_ne (fun z => by omega), sU_ne (fun z => by omega)]
      have a109 : W 109 (1 * ρ 1 + 0).toNat = 0 := by rw [hW, sU_ne (fun z => by omega), sU_at]
      have c110 : ∀ k, W 110 k = M 110 k := fun k => by rw [hW, sU_ne (fun z => by omega), sU_ne (fun z => by omega)]
      have c111 : ∀ k, W 111 k = M 111 k := fun k => by rw [hW, sU_ne (fun z => by omega), sU_ne (fun z => by omega)]
      intro h
      rw [r91_974] at h
      omega
    have k_xZ4 : xZ4 W := by
      have r91_975 : W 91 975 = M 91 975 := by rw [hW, sU_ne (fun z => by omega), sU_ne (fun z => by omega)]
      have c108 : ∀ k, W 108 k = M 108 k := fun k => by rw [hW, sU_ne (fun z => by omega), sU_ne (fun z => by omega)]
      have c109 : ∀ k : Nat, k ≠ (1 * ρ 1 + 0).toNat → W 109 k = M 109 k := fun k hk => by rw [hW, sU_ne (fun z => by omega), sU_ne (fun z => by omega)]
      have a109 : W 109 (1 * ρ 1 + 0).toNat = 0 := by rw [hW, sU_ne (fun z => by omega), sU_at]
      have c110 : ∀ k, W 110 k = M 110 k := fun k => by rw [hW, sU_ne (fun z => by omega), sU_ne (fun z => by omega)]
      have c111 : ∀ k, W 111 k = M 111 k := fun k => by rw [hW, sU_ne (fun z => by omega), sU_ne (fun z => by omega)]
      exact xz4_of hI.1 r91_975 (fun k a => ⟨c108 k, c109 k (by omega)⟩) (fun k a => ⟨c110 k, c111 k⟩) qxZ4
    have k_xZ5 : xZ5 W := by
      rw [hW]
      exact (uxZ5 rfl (uxZ5 (sinc_ok rfl _) hI.2.2.2.2.2.2.2.2.2.2.1))
    have k_xZ6 : xZ6 W := by
      have r91_977 : W 91 977 = 0 := by rw [hW, sU_at]
      have c109 : ∀ k : Nat, k ≠ (1 * ρ 1 + 0).toNat → W 109 k = M 109 k := fun k hk => by rw [hW, sU_ne (fun z => by omega), sU_ne (fun z => by omega)]
      have a109 : W 109 (1 * ρ 1 + 0).toNat = 0 := by rw [hW, sU_ne (fun z => by omega), sU_at]
      intro j hj
      rw [r91_977] at hj
      omega
    have k_xZ7 : xZ7 W := by
      rw [hW]
      exact (uxZ7 rfl (uxZ7 (sinc_ok rfl _) hI.2.2.2.2.2.2.2.2.2.2.2.2.1))
    have k_xZ8 : xZ8 W := by
      rw [hW]
      exact (uxZ8 rfl (uxZ8 (sinc_ok rfl _) hI.2.2.2.2.2.2.2.2.2.2.2.2.2.1))
    have k_xZ9 : xZ9 W := by
      rw [hW]
      exact (uxZ9 rfl (uxZ9 (sinc_ok rfl _) hI.2.2.2.2.2.2.2.2.2.2.2.2.2.2.1))
    have k_xZa : xZa W := by
      rw [hW]
      exact (uxZa rfl (uxZa (sinc_ok rfl _) hI.2.2.2.2.2.2.2.2.2.2.2.2.2.2.2.1))
    have k_xZb : xZb W := by
      rw [hW]
      exact (uxZb rfl (uxZb (sinc_ok rfl _) hI.2.2.2.2.2.2.2.2.2.2.2.2.2.2.2.2.1))
    have k_xT1 : xT1 W := by
      rw [hW]
      exact (uxT1 rfl (uxT1 (sinc_ok rfl _) hI.2.2.2.2.2.2.2.2.2.2.2.2.2.2.2.2.2))
    exact ⟨base, k2, k3, k_xY1, k_xY2, k_xY3, k_xZ1, k_xZ2, k_xZ3, k_xZ4, k_xZ5, k_xZ6, k_xZ7, k_xZ8, k_xZ9, k_xZa, k_xZb, k_xT1⟩
-- fresh1
def xr_51 : qRu := (1, [], [(109, 2, []), (109, 3, [])], [], [(91, 974, [(1, 0)])], [])
theorem xo_51 : qRok xr_51 := by
  intro ρ M h0 hf hm hI
  have m0 : M 109 2 = 0 := hm (109, 2, []) (by decide)
  have m1 : M 109 3 = 0 := hm (109, 3, []) (by decide)
  have qxZ3 := hI.2.2.2.2.2.2.2.2.1
  have hn : (0 : Int) ≤ M 93 17 ∧ M 93 17 ≤ 64 := hI.1 93 17 (0, 64) rfl
  refine ⟨ρ, fun _ _ => rfl, fun f h => ?_, ?_⟩
  · exact nomatch h
  · show sI (sU M 91 974 (1 * ρ 0 + 0))
    obtain ⟨W, hW⟩ : ∃ W, W = (sU M 91 974 (1 * ρ 0 + 0)) := ⟨_, rfl⟩
    rw [← hW]
    have base : sI0 W := by
      rw [hW]
      exact (si_u0 hI.1 (fun r hr => by cases hr))
    have k2 : XI2 W := by
      rw [hW]
      exact (xi2_u rfl hI.2.1)
    have k3 : XI3 W := by
      rw [hW]
      exact (xi3_u rfl hI.2.2.1)
    have k_xY1 : xY1 W := by
      rw [hW]
      exact (uxY1 rfl hI.2.2.2.1)
    have k_xY2 : xY2 W := by
      rw [hW]
      exact (uxY2 rfl hI.2.2.2.2.1)
    have k_xY3 : xY3 W := by
      rw [hW]
      exact (uxY3 rfl hI.2.2.2.2.2.1)
    have k_xZ1 : xZ1 W := by
      rw [hW]
      exact (uxZ1 rfl hI.2.2.2.2.2.2.1)
    have k_xZ2 : xZ2 W := by
      rw [hW]
      exact (uxZ2 rfl hI.2.2.2.2.2.2.2.1)
    have k_xZ3 : xZ3 W := by
      have r91_974 : W 91 974 = 1 * ρ 0 + 0 := by rw [hW, sU_at]
      have r93_17 : W 93 17 = M 93 17 := by rw [hW, sU_ne (fun z => by omega)]
      have c108 : ∀ k, W 108 k = M 108 k := fun k => by rw [hW, sU_ne (fun z => by omega)]
      have c109 : ∀ k, W 109 k = M 109 k := fun k => by rw [hW, sU_ne (fun z => by omega)]
      have c110 : ∀ k, W 110 k = M 110 k := fun k => by rw [hW, sU_ne (fun z => by omega)]
      have c111 : ∀ k, W 111 k = M 111 k := fun k => by rw [hW, sU_ne (fun z => by omega)]
      intro a k b c
      rw [r93_17, c108, c109]
      have h2 : M 109 k = 0 := by
        rcases (show k = 2 ∨ k = 3 by omega) with rfl | rfl
        · exact m0
        · exact m1
      rw [h2]
      exact ⟨by omega, fun j hj => absurd hj (by omega)⟩
    have k_xZ4 : xZ4 W := by
      rw [hW]
      exact (uxZ4 rfl hI.2.2.2.2.2.2.2.2.2.1)
    have k_xZ5 : xZ5 W := by
      rw [hW]
      exact (uxZ5 rfl hI.2.2.2.2.2.2.2.2.2.2.1)
    have k_xZ6 : xZ6 W := by
      rw [hW]
      exact (uxZ6 rfl hI.2.2.2.2.2.2.2.2.2.2.2.1)
    have k_xZ7 : xZ7 W := by
      rw [hW]
      exact (uxZ7 rfl hI.2.2.2.2.2.2.2.2.2.2.2.2.1)
    have k_xZ8 : xZ8 W := by
      rw [hW]
      exact (uxZ8 rfl hI.2.2.2.2.2.2.2.2.2.2.2.2.2.1)
    have k_xZ9 : xZ9 W := by
      rw [hW]
      exact (uxZ9 rfl hI.2.2.2.2.2.2.2.2.2.2.2.2.2.2.1)
    have k_xZa : xZa W := by
      rw [hW]
      exact (uxZa rfl hI.2.2.2.2.2.2.2.2.2.2.2.2.2.2.2.1)
    have k_xZb : xZb W := by
      rw [hW]
      exact (uxZb rfl hI.2.2.2.2.2.2.2.2.2.2.2.2.2.2.2.2.1)
    have k_xT1 : xT1 W := by
      rw [hW]
      exact (uxT1 rfl hI.2.2.2.2.2.2.2.2.2.2.2.2.2.2.2.2.2)
    exact ⟨base, k2, k3, k_xY1, k_xY2, k_xY3, k_xZ1, k_xZ2, k_xZ3, k_xZ4, k_xZ5, k_xZ6, k_xZ7, k_xZ8, k_xZ9, k_xZa, k_xZb, k_xT1⟩
-- fresh0
def xr_52 : qRu := (1, [], [], [], [(91, 974, [])], [])
theorem xo_52 : qRok xr_52 := by
  intro ρ M h0 hf hm hI
  have qxZ3 := hI.2.2.2.2.2.2.2.2.1
  refine ⟨ρ, fun _ _ => rfl, fun f h => ?_, ?_⟩
  · exact nomatch h
  · show sI (sU M 91 974 (0))
    obtain ⟨W, hW⟩ : ∃ W, W = (sU M 91 974 (0)) := ⟨_, rfl⟩
    rw [← hW]
    have base : sI0 W := by
      rw [hW]
      exact (si_u0 hI.1 (fun r hr => by cases hr))
    have k2 : XI2 W := by
      rw [hW]
      exact (xi2_u rfl hI.2.1)
    have k3 : XI3 W := by
      rw [hW]
      exact (xi3_u rfl hI.2.2.1)
    have k_xY1 : xY1 W := by
      rw [hW]
      exact (uxY1 rfl hI.2.2.2.1)
    have k_xY2 : xY2 W := by
      rw [hW]
      exact (uxY2 rfl hI.2.2.2.2.1)
    have k_xY3 : xY3 W := by
      rw [hW]
      exact (uxY3 rfl hI.2.2.2.2.2.1)
    have k_xZ1 : xZ1 W := by
      rw [hW]
      exact (uxZ1 rfl hI.2.2.2.2.2.2.1)
    have k_xZ2 : xZ2 W := by
      rw [hW]
      exact (uxZ2 rfl hI.2.2.2.2.2.2.2.1)
    have k_xZ3 : xZ3 W := by
      have r91_974 : W 91 974 = 0 := by rw [hW, sU_at]
      have r93_17 : W 93 17 = M 93 17 := by rw [hW, sU_ne (fun z => by omega)]
      have c108 : ∀ k, W 108 k = M 108 k := fun k => by rw [hW, sU_ne (fun z => by omega)]
      have c109 : ∀ k, W 109 k = M 109 k := fun k => by rw [hW, sU_ne (fun z => by omega)]
      have c110 : ∀ k, W 110 k = M 110 k := fun k => by rw [hW, sU_ne (fun z => by omega)]
      have c111 : ∀ k, W 111 k = M 111 k := fun k => by rw [hW, sU_ne (fun z => by omega)]
      intro h
      rw [r91_974] at h
      omega
    have k_xZ4 : xZ4 W := by
      rw [hW]
      exact (uxZ4 rfl hI.2.2.2.2.2.2.2.2.2.1)
    have k_xZ5 : xZ5 W := by
      rw [hW]
      exact (uxZ5 rfl hI.2.2.2.2.2.2.2.2.2.2.1)
    have k_xZ6 : xZ6 W := by
      rw [hW]
      exact (uxZ6 rfl hI.2.2.2.2.2.2.2.2.2.2.2.1)
    have k_xZ7 : xZ7 W := by
      rw [hW]
      exact (uxZ7 rfl hI.2.2.2.2.2.2.2.2.2.2.2.2.1)
    have k_xZ8 : xZ8 W := by
      rw [hW]
      exact (uxZ8 rfl hI.2.2.2.2.2.2.2.2.2.2.2.2.2.1)
    have k_xZ9 : xZ9 W := by
      rw [hW]
      exact (uxZ9 rfl hI.2.2.2.2.2.2.2.2.2.2.2.2.2.2.1)
    have k_xZa : xZa W := by
      rw [hW]
      exact (uxZa rfl hI.2.2.2.2.2.2.2.2.2.2.2.2.2.2.2.1)
    have k_xZb : xZb W := by
      rw [hW]
      exact (uxZb rfl hI.2.2.2.2.2.2.2.2.2.2.2.2.2.2.2.2.1)
    have k_xT1 : xT1 W := by
      rw [hW]
      exact (uxT1 rfl hI.2.2.2.2.2.2.2.2.2.2.2.2.2.2.2.2.2)
    exact ⟨base, k2, k3, k_xY1, k_xY2, k_xY3, k_xZ1, k_xZ2, k_xZ3, k_xZ4, k_xZ5, k_xZ6, k_xZ7, k_xZ8, k_xZ9, k_xZa, k_xZb, k_xT1⟩
-- off
def xr_53 : qRu := (1, [], [], [], [(91, 975, []), (91, 976, []), (91, 977, []), (91, 978, []), (91, 979, [])], [])
theorem xo_53 : qRok xr_53 := by
  intro ρ M h0 hf hm hI
  have qxZ4 := hI.2.2.2.2.2.2.2.2.2.1
  have qxZ5 := hI.2.2.2.2.2.2.2.2.2.2.1
  have qxZ6 := hI.2.2.2.2.2.2.2.2.2.2.2.1
  have qxZ7 := hI.2.2.2.2.2.2.2.2.2.2.2.2.1
  have qxZ8 := hI.2.2.2.2.2.2.2.2.2.2.2.2.2.1
  refine ⟨ρ, fun _ _ => rfl, fun f h => ?_, ?_⟩
  · exact nomatch h
  · show sI (sU (sU (sU (sU (sU M 91 975 (0)) 91 976 (0)) 91 977 (0)) 91 978 (0)) 91 979 (0))
    obtain ⟨W, hW⟩ : ∃ W, W = (sU (sU (sU (sU (sU M 91 975 (0)) 91 976 (0)) 91 977 (0)) 91 978 (0)) 91 979 (0)) := ⟨_, rfl⟩
    rw [← hW]
    have base : sI0 W := by
      rw [hW]
      exact (si_u0 (si_u0 (si_u0 (si_u0 (si_u0 hI.1 (fun r hr => by cases hr)) (fun r hr => by cases hr)) (fun r hr => by cases hr)) (fun r hr => by cases hr)) (fun r hr => by cases hr))
    have k2 : XI2 W := by
      rw [hW]
      exact (xi2_u rfl (xi2_u rfl (xi2_u rfl (xi2_u rfl (xi2_u rfl hI.2.1)))))
    have k3 : XI3 W := by
      rw [hW]
      exact (xi3_u rfl (xi3_u rfl (xi3_u rfl (xi3_u rfl (xi3_u rfl hI.2.2.1)))))
    have k_xY1 : xY1 W := by
      rw [hW]
      exact (uxY1 rfl (uxY1 rfl (uxY1 rfl (uxY1 rfl (uxY1 rfl hI.2.2.2.1)))))
    have k_xY2 : xY2 W := by
      rw [hW]
      exact (uxY2 rfl (uxY2 rfl (uxY2 rfl (uxY2 rfl (uxY2 rfl hI.2.2.2.2.1)))))
    have k_xY3 : xY3 W := by
      rw [hW]
      exact (uxY3 rfl (uxY3 rfl (uxY3 rfl (uxY3 rfl (uxY3 rfl hI.2.2.2.2.2.1)))))
    have k_xZ1 : xZ1 W := by
      rw [hW]
      exact (uxZ1 rfl (uxZ1 rfl (uxZ1 rfl (uxZ1 rfl (uxZ1 rfl hI.2.2.2.2.2.2.1)))))
    have k_xZ2 : xZ2 W := by
      rw [hW]
      exact (uxZ2 rfl (uxZ2 rfl (uxZ2 rfl (uxZ2 rfl (uxZ2 rfl hI.2.2.2.2.2.2.2.1)))))
    have k_xZ3 : xZ3 W := by
      rw [hW]
      exact (uxZ3 rfl (uxZ3 rfl (uxZ3 rfl (uxZ3 rfl (uxZ3 rfl hI.2.2.2.2.2.2.2.2.1)))))
    have k_xZ4 : xZ4 W := by
      have r91_975 : W 91 975 = 0 := by rw [hW, sU_ne (fun z => by omega), sU_ne (fun z => by omega), sU_ne (fun z => by omega), sU_ne (fun z => by omega), sU_at]
      have c108 : ∀ k, W 108 k = M 108 k := fun k => by rw [hW, sU_ne (fun z => by omega), sU_ne (fun z => by omega), sU_ne (fun z => by omega), sU_ne (fun z => by omega), sU_ne (fun z => by omega)]
      have c109 : ∀ k, W 109 k = M 109 k := fun k => by rw [hW, sU_ne (fun z => by omega), sU_ne (fun z => by omega), sU_ne (fun z => by omega), sU_ne (fun z => by omega), sU_ne (fun z => by omega)]
      have c110 : ∀ k, W 110 k = M 110 k := fun k => by rw [hW, sU_ne (fun z => by omega), sU_ne (fun z => by omega), sU_ne (fun z => by omega), sU_ne (fun z => by omega), sU_ne (fun z => by omega)]
      have c111 : ∀ k, W 111 k = M 111 k := fun k => by rw [hW, sU_ne (fun z => by omega), sU_ne (fun z => by omega), sU_ne (fun z => by omega), sU_ne (fun z => by omega), sU_ne (fun z => by omega)]
      intro h
      rw [r91_975] at h
      omega
    have k_xZ5 : xZ5 W := by
      have r91_976 : W 91 976 = 0 := by rw [hW, sU_ne (fun z => by omega), sU_ne (fun z => by omega), sU_ne (fun z => by omega), sU_at]
      have c108 : ∀ k, W 108 k = M 108 k := fun k => by rw [hW, sU_ne (fun z => by omega), sU_ne (fun z => by omega), sU_ne (fun z => by omega), sU_ne (fun z => by omega), sU_ne (fun z => by omega)]
      intro j hj
      rw [r91_976] at hj
      omega
    have k_xZ6 : xZ6 W := by
      have r91_977 : W 91 977 = 0 := by rw [hW, sU_ne (fun z => by omega), sU_ne (fun z => by omega), sU_at]
      have c109 : ∀ k, W 109 k = M 109 k := fun k => by rw [hW, sU_ne (fun z => by omega), sU_ne (fun z => by omega), sU_ne (fun z => by omega), sU_ne (fun z => by omega), sU_ne (fun z => by omega)]
      intro j hj
      rw [r91_977] at hj
      omega
    have k_xZ7 : xZ7 W := by
      have r91_978 : W 91 978 = 0 := by rw [hW, sU_ne (fun z => by omega), sU_at]
      have c110 : ∀ k, W 110 k = M 110 k := fun k => by rw [hW, sU_ne (fun z => by omega), sU_ne (fun z => by omega), sU_ne (fun z => by omega), sU_ne (fun z => by omega), sU_ne (fun z => by omega)]
      intro j hj
      rw [r91_978] at hj
      omega
    have k_xZ8 : xZ8 W := by
      have r91_979 : W 91 979 = 0 := by rw [hW, sU_at]
      have c111 : ∀ k, W 111 k = M 111 k := fun k => by rw [hW, sU_ne (fun z => by omega), sU_ne (fun z => by omega), sU_ne (fun z => by omega), sU_ne (fun z => by omega), sU_ne (fun z => by omega)]
      intro j hj
      rw [r91_979] at hj
      omega
    have k_xZ9 : xZ9 W := by
      rw [hW]
      exact (uxZ9 rfl (uxZ9 rfl (uxZ9 rfl (uxZ9 rfl (uxZ9 rfl hI.2.2.2.2.2.2.2.2.2.2.2.2.2.2.1)))))
    have k_xZa : xZa W := by
      rw [hW]
      exact (uxZa rfl (uxZa rfl (uxZa rfl (uxZa rfl (uxZa rfl hI.2.2.2.2.2.2.2.2.2.2.2.2.2.2.2.1)))))
    have k_xZb : xZb W := by
      rw [hW]
      exact (uxZb rfl (uxZb rfl (uxZb rfl (uxZb rfl (uxZb rfl hI.2.2.2.2.2.2.2.2.2.2.2.2.2.2.2.2.1)))))
    have k_xT1 : xT1 W := by
      rw [hW]
      exact (uxT1 rfl (uxT1 rfl (uxT1 rfl (uxT1 rfl (uxT1 rfl hI.2.2.2.2.2.2.2.2.2.2.2.2.2.2.2.2.2)))))
    exact ⟨base, k2, k3, k_xY1, k_xY2, k_xY3, k_xZ1, k_xZ2, k_xZ3, k_xZ4, k_xZ5, k_xZ6, k_xZ7, k_xZ8, k_xZ9, k_xZa, k_xZb, k_xT1⟩
-- cp108
def xr_54 : qRu := (5, [[(1, 1)], [(1, 0), (-1, 1)], [(-2, 0), (-1, 1), (1, 2)], [(2, 0), (1, 1), (-1, 2)], [(1, 1), (-1, 4)], [(-1, 1), (1, 4)]], [(91, 976, [(1, 4)]), (108, 1002, [(1, 3)]), (91, 975, [])], [(108, [(1, 1)], [(1, 3)])], [(91, 976, [(1, 4), (1, 0)])], [])
theorem xo_54 : qRok xr_54 := by
  intro ρ M h0 hf hm hI
  have f0 := hf [(1, 1)] (by decide)
  have f1 := hf [(1, 0), (-1, 1)] (by decide)
  have f2 := hf [(-2, 0), (-1, 1), (1, 2)] (by decide)
  have f3 := hf [(2, 0), (1, 1), (-1, 2)] (by decide)
  have f4 := hf [(1, 1), (-1, 4)] (by decide)
  have f5 := hf [(-1, 1), (1, 4)] (by decide)
  simp only [qD, h0] at f0 f1 f2 f3 f4 f5
  have m0 : M 91 976 = 1 * ρ 4 + 0 := hm (91, 976, [(1, 4)]) (by decide)
  have m1 : M 108 (zIx ρ (1000 + 2)) = 1 * ρ 3 + 0 := hm (108, 1002, [(1, 3)]) (by decide)
  rw [zix_p] at m1
  have m2 : M 91 975 = 0 := hm (91, 975, []) (by decide)
  have qxZ3 := hI.2.2.2.2.2.2.2.2.1
  have qxZ4 := hI.2.2.2.2.2.2.2.2.2.1
  have qxZ5 := hI.2.2.2.2.2.2.2.2.2.2.1
  have qxZb := hI.2.2.2.2.2.2.2.2.2.2.2.2.2.2.2.2.1
  have hv : 0 ≤ M 108 (ρ 2).toNat ∧ M 108 (ρ 2).toNat ≤ 64 := hI.1 108 (ρ 2).toNat (0, 64) (xs_108 (by omega))
  refine ⟨ρ, fun _ _ => rfl, fun f h => ?_, ?_⟩
  · exact nomatch h
  · show sI (sU (sU M 108 (1 * ρ 1 + 0 : Int).toNat (1 * ρ 3 + 0)) 91 976 (1 * ρ 4 + (1 * ρ 0 + 0)))
    obtain ⟨W, hW⟩ : ∃ W, W = (sU (sU M 108 (1 * ρ 1 + 0).toNat (1 * ρ 3 + 0)) 91 976 (1 * ρ 4 + (1 * ρ 0 + 0))) := ⟨_, rfl⟩
    rw [← hW]
    have base : sI0 W := by
      rw [hW]
      exact (si_u0 (si_u0 hI.1 (fun r hr => by rw [xt_108 hr]; exact ⟨by show (0 : Int) ≤ _; omega, by show _ ≤ (64 : Int); omega⟩)) (fun r hr => by cases hr))
    have k2 : XI2 W := by
      rw [hW]
      exact (xi2_u rfl (xi2_u (sinc_ok rfl _) hI.2.1))
    have k3 : XI3 W := by
      rw [hW]
      exact (xi3_u rfl (xi3_u (sinc_ok rfl _) hI.2.2.1))
    have k_xY1 : xY1 W := by
      rw [hW]
      exact (uxY1 rfl (uxY1 (sinc_ok rfl _) hI.2.2.2.1))
    have k_xY2 : xY2 W := by
      rw [hW]
      exact (uxY2 rfl (uxY2 (sinc_ok rfl _) hI.2.2.2.2.1))
    have k_xY3 : xY3 W := by
      rw [hW]
      exact (uxY3 rfl (uxY3 (sinc_ok rfl _) hI.2.2.2.2.2.1))
    have k_xZ1 : xZ1 W := by
      rw [hW]
      exact (uxZ1 rfl (uxZ1 (sinc_ok rfl _) hI.2.2.2.2.2.2.1))
    have k_xZ2 : xZ2 W := by
      rw [hW]
      exact (uxZ2 rfl (uxZ2 (sinc_ok rfl _) hI.2.2.2.2.2.2.2.1))
    have k_xZ3 : xZ3 W := by
      have r91_974 : W 91 974 = M 91 974 := by rw [hW, sU_ne (fun z => by omega), sU_ne (fun z => by omega)]
      have r93_17 : W 93 17 = M 93 17 := by rw [hW, sU_ne (fun z => by omega), sU_ne (fun z => by omega)]
      have c108 : ∀ k : Nat, k ≠ (1 * ρ 1 + 0).toNat → W 108 k = M 108 k := fun k hk => by rw [hW, sU_ne (fun z => by omega), sU_ne (fun z => by omega)]
      have a108 : W 108 (1 * ρ 1 + 0).toNat = 1 * ρ 3 + 0 := by rw [hW, sU_ne (fun z => by omega), sU_at]
      have c109 : ∀ k, W 109 k = M 109 k := fun k => by rw [hW, sU_ne (fun z => by omega), sU_ne (fun z => by omega)]
      have c110 : ∀ k, W 110 k = M 110 k := fun k => by rw [hW, sU_ne (fun z => by omega), sU_ne (fun z => by omega)]
      have c111 : ∀ k, W 111 k = M 111 k := fun k => by rw [hW, sU_ne (fun z => by omega), sU_ne (fun z => by omega)]
      exact xz3_of r91_974 (by rw [r93_17]; exact Int.le_refl _) (fun k a b => ⟨c108 k (by omega), c109 k⟩) (fun k a b => ⟨c110 k, c111 k⟩) qxZ3
    have k_xZ4 : xZ4 W := by
      have r91_975 : W 91 975 = M 91 975 := by rw [hW, sU_ne (fun z => by omega), sU_ne (fun z => by omega)]
      have c108 : ∀ k : Nat, k ≠ (1 * ρ 1 + 0).toNat → W 108 k = M 108 k := fun k hk => by rw [hW, sU_ne (fun z => by omega), sU_ne (fun z => by omega)]
      have a108 : W 108 (1 * ρ 1 + 0).toNat = 1 * ρ 3 + 0 := by rw [hW, sU_ne (fun z => by omega), sU_at]
      have c109 : ∀ k, W 109 k = M 109 k := fun k => by rw [hW, sU_ne (fun z => by omega), sU_ne (fun z => by omega)]
      have c110 : ∀ k, W 110 k = M 110 k := fun k => by rw [hW, sU_ne (fun z => by omega), sU_ne (fun z => by omega)]
      have c111 : ∀ k, W 111 k = M 111 k := fun k => by rw [hW, sU_ne (fun z => by omega), sU_ne (fun z => by omega)]
      intro h
      rw [r91_975] at h
      omega
    have k_xZ5 : xZ5 W := by
      have r91_976 : W 91 976 = 1 * ρ 4 + (1 * ρ 0 + 0) := by rw [hW, sU_at]
      have c108 : ∀ k : Nat, k ≠ (1 * ρ 1 + 0).toNat → W 108 k = M 108 k := fun k hk => by rw [hW, sU_ne (fun z => by omega), sU_ne (fun z => by omega)]
      have a108 : W 108 (1 * ρ 1 + 0).toNat = 1 * ρ 3 + 0 := by rw [hW, sU_ne (fun z => by omega), sU_at]
      intro j hj
      rw [r91_976] at hj
      by_cases hc : j = (1 * ρ 1 + 0).toNat
      · rw [hc, a108, c108 _ (by omega), show 2 + (1 * ρ 1 + 0).toNat = (ρ 2).toNat by omega, m1]
      · rw [c108 j hc, c108 (2 + j) (by omega)]
        exact qxZ5 j (by omega)
    have k_xZ6 : xZ6 W := by
      rw [hW]
      exact (uxZ6 rfl (uxZ6 (sinc_ok rfl _) hI.2.2.2.2.2.2.2.2.2.2.2.1))
    have k_xZ7 : xZ7 W := by
      rw [hW]
      exact (uxZ7 rfl (uxZ7 (sinc_ok rfl _) hI.2.2.2.2.2.2.2.2.2.2.2.2.1))
    have k_xZ8 : xZ8 W := by
      rw [hW]
      exact (uxZ8 rfl (uxZ8 (sinc_ok rfl _) hI.2.2.2.2.2.2.2.2.2.2.2.2.2.1))
    have k_xZ9 : xZ9 W := by
      rw [hW]
      exact (uxZ9 rfl (uxZ9 (sinc_ok rfl _) hI.2.2.2.2.2.2.2.2.2.2.2.2.2.2.1))
    have k_xZa : xZa W := by
      rw [hW]
      exact (uxZa rfl (uxZa (sinc_ok rfl _) hI.2.2.2.2.2.2.2.2.2.2.2.2.2.2.2.1))
    have k_xZb : xZb W := by
      have r91_983 : W 91 983 = M 91 983 := by rw [hW, sU_ne (fun z => by omega), sU_ne (fun z => by omega)]
      have r91_970 : W 91 970 = M 91 970 := by rw [hW, sU_ne (fun z => by omega), sU_ne (fun z => by omega)]
      have c108 : ∀ k : Nat, k ≠ (1 * ρ 1 + 0).toNat → W 108 k = M 108 k := fun k hk => by rw [hW, sU_ne (fun z => by omega), sU_ne (fun z => by omega)]
      have a108 : W 108 (1 * ρ 1 + 0).toNat = 1 * ρ 3 + 0 := by rw [hW, sU_ne (fun z => by omega), sU_at]
      intro a b
      rw [r91_983] at a b
      rw [r91_983, r91_970, c108 _ (by omega)]
      exact qxZb a b
    have k_xT1 : xT1 W := by
      rw [hW]
      exact (uxT1 rfl (uxT1 (sinc_ok rfl _) hI.2.2.2.2.2.2.2.2.2.2.2.2.2.2.2.2.2))
    exact ⟨base, k2, k3, k_xY1, k_xY2, k_xY3, k_xZ1, k_xZ2, k_xZ3, k_xZ4, k_xZ5, k_xZ6, k_xZ7, k_xZ8, k_xZ9, k_xZa, k_xZb, k_xT1⟩
-- cp109
def xr_55 : qRu := (5, [[(1, 1)], [(1, 0), (-1, 1)], [(-2, 0), (-1, 1), (1, 2)], [(2, 0), (1, 1), (-1, 2)], [(1, 1), (-1, 4)], [(-1, 1), (1, 4)]], [(91, 977, [(1, 4)]), (109, 1002, [(1, 3)]), (91, 975, [])], [(109, [(1, 1)], [(1, 3)])], [(91, 977, [(1, 4), (1, 0)])], [])
theorem xo_55 : qRok xr_55 := by
  intro ρ M h0 hf hm hI
  have f0 := hf [(1, 1)] (by decide)
  have f1 := hf [(1, 0), (-1, 1)] (by decide)
  have f2 := hf [(-2, 0), (-1, 1), (1, 2)] (by decide)
  have f3 := hf [(2, 0), (1, 1), (-1, 2)] (by decide)
  have f4 := hf [(1, 1), (-1, 4)] (by decide)
  have f5 := hf [(-1, 1), (1, 4)] (by decide)
  simp only [qD, h0] at f0 f1 f2 f3 f4 f5
  have m0 : M 91 977 = 1 * ρ 4 + 0 := hm (91, 977, [(1, 4)]) (by decide)
  have m1 : M 109 (zIx ρ (1000 + 2)) = 1 * ρ 3 + 0 := hm (109, 1002, [(1, 3)]) (by decide)
  rw [zix_p] at m1
  have m2 : M 91 975 = 0 := hm (91, 975, []) (by decide)
  have qxZ3 := hI.2.2.2.2.2.2.2.2.1
  have qxZ4 := hI.2.2.2.2.2.2.2.2.2.1
  have qxZ6 := hI.2.2.2.2.2.2.2.2.2.2.2.1
  have hv : 0 ≤ M 109 (ρ 2).toNat ∧ M 109 (ρ 2).toNat ≤ 64 := hI.1 109 (ρ 2).toNat (0, 64) (xs_109 (by omega))
  refine ⟨ρ, fun _ _ => rfl, fun f h => ?_, ?_⟩
  · exact nomatch h
  · show sI (sU (sU M 109 (1 * ρ 1 + 0 : Int).toNat (1 * ρ 3 + 0)) 91 977 (1 * ρ 4 + (1 * ρ 0 + 0)))
    obtain ⟨W, hW⟩ : ∃ W, W = (sU (sU M 109 (1 * ρ 1 + 0).toNat (1 * ρ 3 + 0)) 91 977 (1 * ρ 4 + (1 * ρ 0 + 0))) := ⟨_, rfl⟩
    rw [← hW]
    have base : sI0 W := by
      rw [hW]
      exact (si_u0 (si_u0 hI.1 (fun r hr => by rw [xt_109 hr]; exact ⟨by show (0 : Int) ≤ _; omega, by show _ ≤ (64 : Int); omega⟩)) (fun r hr => by cases hr))
    have k2 : XI2 W := by
      rw [hW]
      exact (xi2_u rfl (xi2_u (sinc_ok rfl _) hI.2.1))
    have k3 : XI3 W := by
      rw [hW]
      exact (xi3_u rfl (xi3_u (sinc_ok rfl _) hI.2.2.1))
    have k_xY1 : xY1 W := by
      rw [hW]
      exact (uxY1 rfl (uxY1 (sinc_ok rfl _) hI.2.2.2.1))
    have k_xY2 : xY2 W := by
      rw [hW]
      exact (uxY2 rfl (uxY2 (sinc_ok rfl _) hI.2.2.2.2.1))
    have k_xY3 : xY3 W := by
      rw [hW]
      exact (uxY3 rfl (uxY3 (sinc_ok rfl _) hI.2.2.2.2.2.1))
    have k_xZ1 : xZ1 W := by
      rw [hW]
      exact (uxZ1 rfl (uxZ1 (sinc_ok rfl _) hI.2.2.2.2.2.2.1))
    have k_xZ2 : xZ2 W := by
      rw [hW]
      exact (uxZ2 rfl (uxZ2 (sinc_ok rfl _) hI.2.2.2.2.2.2.2.1))
    have k_xZ3 : xZ3 W := by
      have r91_974 : W 91 974 = M 91 974 := by rw [hW, sU_ne (fun z => by omega), sU_ne (fun z => by omega)]
      have r93_17 : W 93 17 = M 93 17 := by rw [hW, sU_ne (fun z => by omega), sU_ne (fun z => by omega)]
      have c108 : ∀ k, W 108 k = M 108 k := fun k => by rw [hW, sU_ne (fun z => by omega), sU_ne (fun z => by omega)]
      have c109 : ∀ k : Nat, k ≠ (1 * ρ 1 + 0).toNat → W 109 k = M 109 k := fun k hk => by rw [hW, sU_ne (fun z => by omega), sU_ne (fun z => by omega)]
      have a109 : W 109 (1 * ρ 1 + 0).toNat = 1 * ρ 3 + 0 := by rw [hW, sU_ne (fun z => by omega), sU_at]
      have c110 : ∀ k, W 110 k = M 110 k := fun k => by rw [hW, sU_ne (fun z => by omega), sU_ne (fun z => by omega)]
      have c111 : ∀ k, W 111 k = M 111 k := fun k => by rw [hW, sU_ne (fun z => by omega), sU_ne (fun z => by omega)]
      exact xz3_of r91_974 (by rw [r93_17]; exact Int.le_refl _) (fun k a b => ⟨c108 k, c109 k (by omega)⟩) (fun k a b => ⟨c110 k, c111 k⟩) qxZ3
    have k_xZ4 : xZ4 W := by
      have r91_975 : W 91 975 = M 91 975 := by rw [hW, sU_ne (fun z => by omega), sU_ne (fun z => by omega)]
      have c108 : ∀ k, W 108 k = M 108 k := fun k => by rw [hW, sU_ne (fun z => by omega), sU_ne (fun z => by omega)]
      have c109 : ∀ k : Nat, k ≠ (1 * ρ 1 + 0).toNat → W 109 k = M 109 k := fun k hk => by rw [hW, sU_ne (fun z => by omega), sU_ne (fun z => by omega)]
      have a109 : W 109 (1 * ρ 1 + 0).toNat = 1 * ρ 3 + 0 := by rw [hW, sU_ne (fun z => by omega), sU_at]
      have c110 : ∀ k, W 110 k = M 110 k := fun k => by rw [hW, sU_ne (fun z => by omega), sU_ne (fun z => by omega)]
      have c111 : ∀ k, W 111 k = M 111 k := fun k => by rw [hW, sU_ne (fun z => by omega), sU_ne (fun z => by omega)]
      intro h
      rw [r91_975] at h
      omega
    have k_xZ5 : xZ5 W := by
      rw [hW]
      exact (uxZ5 rfl (uxZ5 (sinc_ok rfl _) hI.2.2.2.2.2.2.2.2.2.2.1))
    have k_xZ6 : xZ6 W := by
      have r91_977 : W 91 977 = 1 * ρ 4 + (1 * ρ 0 + 0) := by rw [hW, sU_at]
      have c109 : ∀ k : Nat, k ≠ (1 * ρ 1 + 0).toNat → W 109 k = M 109 k := fun k hk => by rw [hW, sU_ne (fun z => by omega), sU_ne (fun z => by omega)]
      have a109 : W 109 (1 * ρ 1 + 0).toNat = 1 * ρ 3 + 0 := by rw [hW, sU_ne (fun z => by omega), sU_at]
      intro j hj
      rw [r91_977] at hj
      by_cases hc : j = (1 * ρ 1 + 0).toNat
      · rw [hc, a109, c109 _ (by omega), show 2 + (1 * ρ 1 + 0).toNat = (ρ 2).toNat by omega, m1]
      · rw [c109 j hc, c109 (2 + j) (by omega)]
        exact qxZ6 j (by omega)
    have k_xZ7 : xZ7 W := by
      rw [hW]
      exact (uxZ7 rfl (uxZ7 (sinc_ok rfl _) hI.2.2.2.2.2.2.2.2.2.2.2.2.1))
    have k_xZ8 : xZ8 W := by
      rw [hW]
      exact (uxZ8 rfl (uxZ8 (sinc_ok rfl _) hI.2.2.2.2.2.2.2.2.2.2.2.2.2.1))
    have k_xZ9 : xZ9 W := by
      rw [hW]
      exact (uxZ9 rfl (uxZ9 (sinc_ok rfl _) hI.2.2.2.2.2.2.2.2.2.2.2.2.2.2.1))
    have k_xZa : xZa W := by
      rw [hW]
      exact (uxZa rfl (uxZa (sinc_ok rfl _) hI.2.2.2.2.2.2.2.2.2.2.2.2.2.2.2.1))
    have k_xZb : xZb W := by
      rw [hW]
      exact (uxZb rfl (uxZb (sinc_ok rfl _) hI.2.2.2.2.2.2.2.2.2.2.2.2.2.2.2.2.1))
    have k_xT1 : xT1 W := by
      rw [hW]
      exact (uxT1 rfl (uxT1 (sinc_ok rfl _) hI.2.2.2.2.2.2.2.2.2.2.2.2.2.2.2.2.2))
    exact ⟨base, k2, k3, k_xY1, k_xY2, k_xY3, k_xZ1, k_xZ2, k_xZ3, k_xZ4, k_xZ5, k_xZ6, k_xZ7, k_xZ8, k_xZ9, k_xZa, k_xZb, k_xT1⟩
-- cp110
def xr_56 : qRu := (5, [[(1, 1)], [(63, 0), (-1, 1)], [(-64, 0), (-1, 1), (1, 2)], [(64, 0), (1, 1), (-1, 2)], [(1, 1), (-1, 4)], [(-1, 1), (1, 4)]], [(91, 978, [(1, 4)]), (110, 1002, [(1, 3)]), (91, 975, [])], [(110, [(1, 1)], [(1, 3)])], [(91, 978, [(1, 4), (1, 0)]), (91, 964, [])], [])
theorem xo_56 : qRok xr_56 := by
  intro ρ M h0 hf hm hI
  have f0 := hf [(1, 1)] (by decide)
  have f1 := hf [(63, 0), (-1, 1)] (by decide)
  have f2 := hf [(-64, 0), (-1, 1), (1, 2)] (by decide)
  have f3 := hf [(64, 0), (1, 1), (-1, 2)] (by decide)
  have f4 := hf [(1, 1), (-1, 4)] (by decide)
  have f5 := hf [(-1, 1), (1, 4)] (by decide)
  simp only [qD, h0] at f0 f1 f2 f3 f4 f5
  have m0 : M 91 978 = 1 * ρ 4 + 0 := hm (91, 978, [(1, 4)]) (by decide)
  have m1 : M 110 (zIx ρ (1000 + 2)) = 1 * ρ 3 + 0 := hm (110, 1002, [(1, 3)]) (by decide)
  rw [zix_p] at m1
  have m2 : M 91 975 = 0 := hm (91, 975, []) (by decide)
  have qxZ1 := hI.2.2.2.2.2.2.1
  have qxZ2 := hI.2.2.2.2.2.2.2.1
  have qxZ3 := hI.2.2.2.2.2.2.2.2.1
  have qxZ4 := hI.2.2.2.2.2.2.2.2.2.1
  have qxZ7 := hI.2.2.2.2.2.2.2.2.2.2.2.2.1
  have qxZ9 := hI.2.2.2.2.2.2.2.2.2.2.2.2.2.2.1
  have qxZa := hI.2.2.2.2.2.2.2.2.2.2.2.2.2.2.2.1
  have hv : 0 ≤ M 110 (ρ 2).toNat ∧ M 110 (ρ 2).toNat ≤ 2 := hI.1 110 (ρ 2).toNat (0, 2) (xs_110 (by omega))
  have hn : (0 : Int) ≤ M 93 17 ∧ M 93 17 ≤ 64 := hI.1 93 17 (0, 64) rfl
  refine ⟨ρ, fun _ _ => rfl, fun f h => ?_, ?_⟩
  · exact nomatch h
  · show sI (sU (sU (sU M 110 (1 * ρ 1 + 0 : Int).toNat (1 * ρ 3 + 0)) 91 978 (1 * ρ 4 + (1 * ρ 0 + 0))) 91 964 (0))
    obtain ⟨W, hW⟩ : ∃ W, W = (sU (sU (sU M 110 (1 * ρ 1 + 0).toNat (1 * ρ 3 + 0)) 91 978 (1 * ρ 4 + (1 * ρ 0 + 0))) 91 964 (0)) := ⟨_, rfl⟩
    rw [← hW]
    have base : sI0 W := by
      rw [hW]
      exact (si_u0 (si_u0 (si_u0 hI.1 (fun r hr => by rw [xt_110 hr]; exact ⟨by show (0 : Int) ≤ _; omega, by show _ ≤ (2 : Int); omega⟩)) (fun r hr => by cases hr)) (fun r hr => by cases hr))
    have k2 : XI2 W := by
      rw [hW]
      exact (xi2_u rfl (xi2_u rfl (xi2_u (sinc_ok rfl _) hI.2.1)))
    have k3 : XI3 W := by
      rw [hW]
      exact (xi3_u rfl (xi3_u rfl (xi3_u (sinc_ok rfl _) hI.2.2.1)))
    have k_xY1 : xY1 W := by
      rw [hW]
      exact (uxY1 rfl (uxY1 rfl (uxY1 (sinc_ok rfl _) hI.2.2.2.1)))
    have k_xY2 : xY2 W := by
      rw [hW]
      exact (uxY2 rfl (uxY2 rfl (uxY2 (sinc_ok rfl _) hI.2.2.2.2.1)))
    have k_xY3 : xY3 W := by
      rw [hW]
      exact (uxY3 rfl (uxY3 rfl (uxY3 (sinc_ok rfl _) hI.2.2.2.2.2.1)))
    have k_xZ1 : xZ1 W := by
      have r91_970 : W 91 970 = M 91 970 := by rw [hW, sU_ne (fun z => by omega), sU_ne (fun z => by omega), sU_ne (fun z => by omega)]
      have r91_971 : W 91 971 = M 91 971 := by rw [hW, sU_ne (fun z => by omega), sU_ne (fun z => by omega), sU_ne (fun z => by omega)]
      have r93_17 : W 93 17 = M 93 17 := by rw [hW, sU_ne (fun z => by omega), sU_ne (fun z => by omega), sU_ne (fun z => by omega)]
      have c110 : ∀ k : Nat, k ≠ (1 * ρ 1 + 0).toNat → W 110 k = M 110 k := fun k hk => by rw [hW, sU_ne (fun z => by omega), sU_ne (fun z => by omega), sU_ne (fun z => by omega)]
      have a110 : W 110 (1 * ρ 1 + 0).toNat = 1 * ρ 3 + 0 := by rw [hW, sU_ne (fun z => by omega), sU_ne (fun z => by omega), sU_at]
      have c111 : ∀ k, W 111 k = M 111 k := fun k => by rw [hW, sU_ne (fun z => by omega), sU_ne (fun z => by omega), sU_ne (fun z => by omega)]
      exact xz1_of r91_970 r91_971 r93_17 (fun k a b => ⟨c110 k (by omega), c111 k⟩) qxZ1
    have k_xZ2 : xZ2 W := by
      have r91_972 : W 91 972 = M 91 972 := by rw [hW, sU_ne (fun z => by omega), sU_ne (fun z => by omega), sU_ne (fun z => by omega)]
      have r91_973 : W 91 973 = M 91 973 := by rw [hW, sU_ne (fun z => by omega), sU_ne (fun z => by omega), sU_ne (fun z => by omega)]
      have r91_987 : W 91 987 = M 91 987 := by rw [hW, sU_ne (fun z => by omega), sU_ne (fun z => by omega), sU_ne (fun z => by omega)]
      have r91_988 : W 91 988 = M 91 988 := by rw [hW, sU_ne (fun z => by omega), sU_ne (fun z => by omega), sU_ne (fun z => by omega)]
      have r91_989 : W 91 989 = M 91 989 := by rw [hW, sU_ne (fun z => by omega), sU_ne (fun z => by omega), sU_ne (fun z => by omega)]
      have r93_17 : W 93 17 = M 93 17 := by rw [hW, sU_ne (fun z => by omega), sU_ne (fun z => by omega), sU_ne (fun z => by omega)]
      have c110 : ∀ k : Nat, k ≠ (1 * ρ 1 + 0).toNat → W 110 k = M 110 k := fun k hk => by rw [hW, sU_ne (fun z => by omega), sU_ne (fun z => by omega), sU_ne (fun z => by omega)]
      have a110 : W 110 (1 * ρ 1 + 0).toNat = 1 * ρ 3 + 0 := by rw [hW, sU_ne (fun z => by omega), sU_ne (fun z => by omega), sU_at]
      have c111 : ∀ k, W 111 k = M 111 k := fun k => by rw [hW, sU_ne (fun z => by omega), sU_ne (fun z => by omega), sU_ne (fun z => by omega)]
      unfold xZ2
      rw [r91_972, r91_973, r91_987, r91_988, r91_989, r93_17, c110 _ (by omega), c111]
      exact qxZ2
    have k_xZ3 : xZ3 W := by
      have r91_974 : W 91 974 = M 91 974 := by rw [hW, sU_ne (fun z => by omega), sU_ne (fun z => by omega), sU_ne (fun z => by omega)]
      have r93_17 : W 93 17 = M 93 17 := by rw [hW, sU_ne (fun z => by omega), sU_ne (fun z => by omega), sU_ne (fun z => by omega)]
      have c108 : ∀ k, W 108 k = M 108 k := fun k => by rw [hW, sU_ne (fun z => by omega), sU_ne (fun z => by omega), sU_ne (fun z => by omega)]
      have c109 : ∀ k, W 109 k = M 109 k := fun k => by rw [hW, sU_ne (fun z => by omega), sU_ne (fun z => by omega), sU_ne (fun z => by omega)]
      have c110 : ∀ k : Nat, k ≠ (1 * ρ 1 + 0).toNat → W 110 k = M 110 k := fun k hk => by rw [hW, sU_ne (fun z => by omega), sU_ne (fun z => by omega), sU_ne (fun z => by omega)]
      have a110 : W 110 (1 * ρ 1 + 0).toNat = 1 * ρ 3 + 0 := by rw [hW, sU_ne (fun z => by omega), sU_ne (fun z => by omega), sU_at]
      have c111 : ∀ k, W 111 k = M 111 k := fun k => by rw [hW, sU_ne (fun z => by omega), sU_ne (fun z => by omega), sU_ne (fun z => by omega)]
      exact xz3_of r91_974 (by rw [r93_17]; exact Int.le_refl _) (fun k a b => ⟨c108 k, c109 k⟩) (fun k a b => ⟨c110 k (by omega), c111 k⟩) qxZ3
    have k_xZ4 : xZ4 W := by
      have r91_975 : W 91 975 = M 91 975 := by rw [hW, sU_ne (fun z => by omega), sU_ne (fun z => by omega), sU_ne (fun z => by omega)]
      have c108 : ∀ k, W 108 k = M 108 k := fun k => by rw [hW, sU_ne (fun z => by omega), sU_ne (fun z => by omega), sU_ne (fun z => by omega)]
      have c109 : ∀ k, W 109 k = M 109 k := fun k => by rw [hW, sU_ne (fun z => by omega), sU_ne (fun z => by omega), sU_ne (fun z => by omega)]
      have c110 : ∀ k : Nat, k ≠ (1 * ρ 1 + 0).toNat → W 110 k = M 110 k := fun k hk => by rw [hW, sU_ne (fun z => by omega), sU_ne (fun z => by omega), sU_ne (fun z => by omega)]
      have a110 : W 110 (1 * ρ 1 + 0).toNat = 1 * ρ 3 + 0 := by rw [hW, sU_ne (fun z => by omega), sU_ne (fun z => by omega), sU_at]
      have c111 : ∀ k, W 111 k = M 111 k := fun k => by rw [hW, sU_ne (fun z => by omega), sU_ne (fun z => by omega), sU_ne (fun z => by omega)]
      intro h
      rw [r91_975] at h
      omega
    have k_xZ5 : xZ5 W := by
      rw [hW]
      exact (uxZ5 rfl (uxZ5 rfl (uxZ5 (sinc_ok rfl _) hI.2.2.2.2.2.2.2.2.2.2.1)))
    have k_xZ6 : xZ6 W := by
      rw [hW]
      exact (uxZ6 rfl (uxZ6 rfl (uxZ6 (sinc_ok rfl _) hI.2.2.2.2.2.2.2.2.2.2.2.1)))
    have k_xZ7 : xZ7 W := by
      have r91_978 : W 91 978 = 1 * ρ 4 + (1 * ρ 0 + 0) := by rw [hW, sU_ne (fun z => by omega), sU_at]
      have c110 : ∀ k : Nat, k ≠ (1 * ρ 1 + 0).toNat → W 110 k = M 110 k := fun k hk => by rw [hW, sU_ne (fun z => by omega), sU_ne (fun z => by omega), sU_ne (fun z => by omega)]
      have a110 : W 110 (1 * ρ 1 + 0).toNat = 1 * ρ 3 + 0 := by rw [hW, sU_ne (fun z => by omega), sU_ne (fun z => by omega), sU_at]
      intro j hj
      rw [r91_978] at hj
      by_cases hc : j = (1 * ρ 1 + 0).toNat
      · rw [hc, a110, c110 _ (by omega), show 64 + (1 * ρ 1 + 0).toNat = (ρ 2).toNat by omega, m1]
      · rw [c110 j hc, c110 (64 + j) (by omega)]
        exact qxZ7 j (by omega)
    have k_xZ8 : xZ8 W := by
      rw [hW]
      exact (uxZ8 rfl (uxZ8 rfl (uxZ8 (sinc_ok rfl _) hI.2.2.2.2.2.2.2.2.2.2.2.2.2.1)))
    have k_xZ9 : xZ9 W := by
      have r91_964 : W 91 964 = 0 := by rw [hW, sU_at]
      have r91_980 : W 91 980 = M 91 980 := by rw [hW, sU_ne (fun z => by omega), sU_ne (fun z => by omega), sU_ne (fun z => by omega)]
      have r91_981 : W 91 981 = M 91 981 := by rw [hW, sU_ne (fun z => by omega), sU_ne (fun z => by omega), sU_ne (fun z => by omega)]
      have r91_982 : W 91 982 = M 91 982 := by rw [hW, sU_ne (fun z => by omega), sU_ne (fun z => by omega), sU_ne (fun z => by omega)]
      have c110 : ∀ k : Nat, k ≠ (1 * ρ 1 + 0).toNat → W 110 k = M 110 k := fun k hk => by rw [hW, sU_ne (fun z => by omega), sU_ne (fun z => by omega), sU_ne (fun z => by omega)]
      have a110 : W 110 (1 * ρ 1 + 0).toNat = 1 * ρ 3 + 0 := by rw [hW, sU_ne (fun z => by omega), sU_ne (fun z => by omega), sU_at]
      have c111 : ∀ k, W 111 k = M 111 k := fun k => by rw [hW, sU_ne (fun z => by omega), sU_ne (fun z => by omega), sU_ne (fun z => by omega)]
      intro h
      rw [r91_964] at h
      omega
    have k_xZa : xZa W := by
      have r91_964 : W 91 964 = 0 := by rw [hW, sU_at]
      have r91_981 : W 91 981 = M 91 981 := by rw [hW, sU_ne (fun z => by omega), sU_ne (fun z => by omega), sU_ne (fun z => by omega)]
      have r91_960 : W 91 960 = M 91 960 := by rw [hW, sU_ne (fun z => by omega), sU_ne (fun z => by omega), sU_ne (fun z => by omega)]
      have r91_961 : W 91 961 = M 91 961 := by rw [hW, sU_ne (fun z => by omega), sU_ne (fun z => by omega), sU_ne (fun z => by omega)]
      have r91_962 : W 91 962 = M 91 962 := by rw [hW, sU_ne (fun z => by omega), sU_ne (fun z => by omega), sU_ne (fun z => by omega)]
      have r91_963 : W 91 963 = M 91 963 := by rw [hW, sU_ne (fun z => by omega), sU_ne (fun z => by omega), sU_ne (fun z => by omega)]
      have c110 : ∀ k : Nat, k ≠ (1 * ρ 1 + 0).toNat → W 110 k = M 110 k := fun k hk => by rw [hW, sU_ne (fun z => by omega), sU_ne (fun z => by omega), sU_ne (fun z => by omega)]
      have a110 : W 110 (1 * ρ 1 + 0).toNat = 1 * ρ 3 + 0 := by rw [hW, sU_ne (fun z => by omega), sU_ne (fun z => by omega), sU_at]
      have c111 : ∀ k, W 111 k = M 111 k := fun k => by rw [hW, sU_ne (fun z => by omega), sU_ne (fun z => by omega), sU_ne (fun z => by omega)]
      intro h
      rw [r91_964] at h
      omega
    have k_xZb : xZb W := by
      rw [hW]
      exact (uxZb rfl (uxZb rfl (uxZb (sinc_ok rfl _) hI.2.2.2.2.2.2.2.2.2.2.2.2.2.2.2.2.1)))
    have k_xT1 : xT1 W := by
      rw [hW]
      exact (uxT1 rfl (uxT1 rfl (uxT1 (sinc_ok rfl _) hI.2.2.2.2.2.2.2.2.2.2.2.2.2.2.2.2.2)))
    exact ⟨base, k2, k3, k_xY1, k_xY2, k_xY3, k_xZ1, k_xZ2, k_xZ3, k_xZ4, k_xZ5, k_xZ6, k_xZ7, k_xZ8, k_xZ9, k_xZa, k_xZb, k_xT1⟩
-- cp111
def xr_57 : qRu := (5, [[(1, 1)], [(63, 0), (-1, 1)], [(-64, 0), (-1, 1), (1, 2)], [(64, 0), (1, 1), (-1, 2)], [(1, 1), (-1, 4)], [(-1, 1), (1, 4)]], [(91, 979, [(1, 4)]), (111, 1002, [(1, 3)]), (91, 975, [])], [(111, [(1, 1)], [(1, 3)])], [(91, 979, [(1, 4), (1, 0)]), (91, 964, [])], [])
theorem xo_57 : qRok xr_57 := by
  intro ρ M h0 hf hm hI
  have f0 := hf [(1, 1)] (by decide)
  have f1 := hf [(63, 0), (-1, 1)] (by decide)
  have f2 := hf [(-64, 0), (-1, 1), (1, 2)] (by decide)
  have f3 := hf [(64, 0), (1, 1), (-1, 2)] (by decide)
  have f4 := hf [(1, 1), (-1, 4)] (by decide)
  have f5 := hf [(-1, 1), (1, 4)] (by decide)
  simp only [qD, h0] at f0 f1 f2 f3 f4 f5
  have m0 : M 91 979 = 1 * ρ 4 + 0 := hm (91, 979, [(1, 4)]) (by decide)
  have m1 : M 111 (zIx ρ (1000 + 2)) = 1 * ρ 3 + 0 := hm (111, 1002, [(1, 3)]) (by decide)
  rw [zix_p] at m1
  have m2 : M 91 975 = 0 := hm (91, 975, []) (by decide)
  have qxZ1 := hI.2.2.2.2.2.2.1
  have qxZ2 := hI.2.2.2.2.2.2.2.1
  have qxZ3 := hI.2.2.2.2.2.2.2.2.1
  have qxZ4 := hI.2.2.2.2.2.2.2.2.2.1
  have qxZ8 := hI.2.2.2.2.2.2.2.2.2.2.2.2.2.1
  have qxZ9 := hI.2.2.2.2.2.2.2.2.2.2.2.2.2.2.1
  have qxZa := hI.2.2.2.2.2.2.2.2.2.2.2.2.2.2.2.1
  have hv : (-2147483648) ≤ M 111 (ρ 2).toNat ∧ M 111 (ρ 2).toNat ≤ 2147483647 := hI.1 111 (ρ 2).toNat ((-2147483648), 2147483647) (xs_111 (by omega))
  have hn : (0 : Int) ≤ M 93 17 ∧ M 93 17 ≤ 64 := hI.1 93 17 (0, 64) rfl
  refine ⟨ρ, fun _ _ => rfl, fun f h => ?_, ?_⟩
  · exact nomatch h
  · show sI (sU (sU (sU M 111 (1 * ρ 1 + 0 : Int).toNat (1 * ρ 3 + 0)) 91 979 (1 * ρ 4 + (1 * ρ 0 + 0))) 91 964 (0))
    obtain ⟨W, hW⟩ : ∃ W, W = (sU (sU (sU M 111 (1 * ρ 1 + 0).toNat (1 * ρ 3 + 0)) 91 979 (1 * ρ 4 + (1 * ρ 0 + 0))) 91 964 (0)) := ⟨_, rfl⟩
    rw [← hW]
    have base : sI0 W := by
      rw [hW]
      exact (si_u0 (si_u0 (si_u0 hI.1 (fun r hr => by rw [xt_111 hr]; exact ⟨by show (-2147483648 : Int) ≤ _; omega, by show _ ≤ (2147483647 : Int); omega⟩)) (fun r hr => by cases hr)) (fun r hr => by cases hr))
    have k2 : XI2 W := by
      rw [hW]
      exact (xi2_u rfl (xi2_u rfl (xi2_u (sinc_ok rfl _) hI.2.1)))
    have k3 : XI3 W := by
      rw [hW]
      exact (xi3_u rfl (xi3_u rfl (xi3_u (sinc_ok rfl _) hI.2.2.1)))
    have k_xY1 : xY1 W := by
      rw [hW]
      exact (uxY1 rfl (uxY1 rfl (uxY1 (sinc_ok rfl _) hI.2.2.2.1)))
    have k_xY2 : xY2 W := by
      rw [hW]
      exact (uxY2 rfl (uxY2 rfl (uxY2 (sinc_ok rfl _) hI.2.2.2.2.1)))
    have k_xY3 : xY3 W := by
      rw [hW]
      exact (uxY3 rfl (uxY3 rfl (uxY3 (sinc_ok rfl _) hI.2.2.2.2.2.1)))
    have k_xZ1 : xZ1 W := by
      have r91_970 : W 91 970 = M 91 970 := by rw [hW, sU_ne (fun z => by omega), sU_ne (fun z => by omega), sU_ne (fun z => by omega)]
      have r91_971 : W 91 971 = M 91 971 := by rw [hW, sU_ne (fun z => by omega), sU_ne (fun z => by omega), sU_ne (fun z => by omega)]
      have r93_17 : W 93 17 = M 93 17 := by rw [hW, sU_ne (fun z => by omega), sU_ne (fun z => by omega), sU_ne (fun z => by omega)]
      have c110 : ∀ k, W 110 k = M 110 k := fun k => by rw [hW, sU_ne (fun z => by omega), sU_ne (fun z => by omega), sU_ne (fun z => by omega)]
      have c111 : ∀ k : Nat, k ≠ (1 * ρ 1 + 0).toNat → W 111 k = M 111 k := fun k hk => by rw [hW, sU_ne (fun z => by omega), sU_ne (fun z => by omega), sU_ne (fun z => by omega)]
      have a111 : W 111 (1 * ρ 1 + 0).toNat = 1 * ρ 3 + 0 := by rw [hW, sU_ne (fun z => by omega), sU_ne (fun z => by omega), sU_at]
      exact xz1_of r91_970 r91_971 r93_17 (fun k a b => ⟨c110 k, c111 k (by omega)⟩) qxZ1
    have k_xZ2 : xZ2 W := by
      have r91_972 : W 91 972 = M 91 972 := by rw [hW, sU_ne (fun z => by omega), sU_ne (fun z => by omega), sU_ne (fun z => by omega)]
      have r91_973 : W 91 973 = M 91 973 := by rw [hW, sU_ne (fun z => by omega), sU_ne (fun z => by omega), sU_ne (fun z => by omega)]
      have r91_987 : W 91 987 = M 91 987 := by rw [hW, sU_ne (fun z => by omega), sU_ne (fun z => by omega), sU_ne (fun z => by omega)]
      have r91_988 : W 91 988 = M 91 988 := by rw [hW, sU_ne (fun z => by omega), sU_ne (fun z => by omega), sU_ne (fun z => by omega)]
      have r91_989 : W 91 989 = M 91 989 := by rw [hW, sU_ne (fun z => by omega), sU_ne (fun z => by omega), sU_ne (fun z => by omega)]
      have r93_17 : W 93 17 = M 93 17 := by rw [hW, sU_ne (fun z => by omega), sU_ne (fun z => by omega), sU_ne (fun z => by omega)]
      have c110 : ∀ k, W 110 k = M 110 k := fun k => by rw [hW, sU_ne (fun z => by omega), sU_ne (fun z => by omega), sU_ne (fun z => by omega)]
      have c111 : ∀ k : Nat, k ≠ (1 * ρ 1 + 0).toNat → W 111 k = M 111 k := fun k hk => by rw [hW, sU_ne (fun z => by omega), sU_ne (fun z => by omega), sU_ne (fun z => by omega)]
      have a111 : W 111 (1 * ρ 1 + 0).toNat = 1 * ρ 3 + 0 := by rw [hW, sU_ne (fun z => by omega), sU_ne (fun z => by omega), sU_at]
      unfold xZ2
      rw [r91_972, r91_973, r91_987, r91_988, r91_989, r93_17, c110, c111 _ (by omega)]
      exact qxZ2
    have k_xZ3 : xZ3 W := by
      have r91_974 : W 91 974 = M 91 974 := by rw [hW, sU_ne (fun z => by omega), sU_ne (fun z => by omega), sU_ne (fun z => by omega)]
      have r93_17 : W 93 17 = M 93 17 := by rw [hW, sU_ne (fun z => by omega), sU_ne (fun z => by omega), sU_ne (fun z => by omega)]
      have c108 : ∀ k, W 108 k = M 108 k := fun k => by rw [hW, sU_ne (fun z => by omega), sU_ne (fun z => by omega), sU_ne (fun z => by omega)]
      have c109 : ∀ k, W 109 k = M 109 k := fun k => by rw [hW, sU_ne (fun z => by omega), sU_ne (fun z => by omega), sU_ne (fun z => by omega)]
      have c110 : ∀ k, W 110 k = M 110 k := fun k => by rw [hW, sU_ne (fun z => by omega), sU_ne (fun z => by omega), sU_ne (fun z => by omega)]
      have c111 : ∀ k : Nat, k ≠ (1 * ρ 1 + 0).toNat → W 111 k = M 111 k := fun k hk => by rw [hW, sU_ne (fun z => by omega), sU_ne (fun z => by omega), sU_ne (fun z => by omega)]
      have a111 : W 111 (1 * ρ 1 + 0).toNat = 1 * ρ 3 + 0 := by rw [hW, sU_ne (fun z => by omega), sU_ne (fun z => by omega), sU_at]
      exact xz3_of r91_974 (by rw [r93_17]; exact Int.le_refl _) (fun k a b => ⟨c108 k, c109 k⟩) (fun k a b => ⟨c110 k, c111 k (by omega)⟩) qxZ3
    have k_xZ4 : xZ4 W := by
      have r91_975 : W 91 975 = M 91 975 := by rw [hW, sU_ne (fun z => by omega), sU_ne (fun z => by omega), sU_ne (fun z => by omega)]
      have c108 : ∀ k, W 108 k = M 108 k := fun k => by rw [hW, sU_ne (fun z => by omega), sU_ne (fun z => by omega), sU_ne (fun z => by omega)]
      have c109 : ∀ k, W 109 k = M 109 k := fun k => by rw [hW, sU_ne (fun z => by omega), sU_ne (fun z => by omega), sU_ne (fun z => by omega)]
      have c110 : ∀ k, W 110 k = M 110 k := fun k => by rw [hW, sU_ne (fun z => by omega), sU_ne (fun z => by omega), sU_ne (fun z => by omega)]
      have c111 : ∀ k : Nat, k ≠ (1 * ρ 1 + 0).toNat → W 111 k = M 111 k := fun k hk => by rw [hW, sU_ne (fun z => by omega), sU_ne (fun z => by omega), sU_ne (fun z => by omega)]
      have a111 : W 111 (1 * ρ 1 + 0).toNat = 1 * ρ 3 + 0 := by rw [hW, sU_ne (fun z => by omega), sU_ne (fun z => by omega), sU_at]
      intro h
      rw [r91_975] at h
      omega
    have k_xZ5 : xZ5 W := by
      rw [hW]
      exact (uxZ5 rfl (uxZ5 rfl (uxZ5 (sinc_ok rfl _) hI.2.2.2.2.2.2.2.2.2.2.1)))
    have k_xZ6 : xZ6 W := by
      rw [hW]
      exact (uxZ6 rfl (uxZ6 rfl (uxZ6 (sinc_ok rfl _) hI.2.2.2.2.2.2.2.2.2.2.2.1)))
    have k_xZ7 : xZ7 W := by
      rw [hW]
      exact (uxZ7 rfl (uxZ7 rfl (uxZ7 (sinc_ok rfl _) hI.2.2.2.2.2.2.2.2.2.2.2.2.1)))
    have k_xZ8 : xZ8 W := by
      have r91_979 : W 91 979 = 1 * ρ 4 + (1 * ρ 0 + 0) := by rw [hW, sU_ne (fun z => by omega), sU_at]
      have c111 : ∀ k : Nat, k ≠ (1 * ρ 1 + 0).toNat → W 111 k = M 111 k := fun k hk => by rw [hW, sU_ne (fun z => by omega), sU_ne (fun z => by omega), sU_ne (fun z => by omega)]
      have a111 : W 111 (1 * ρ 1 + 0).toNat = 1 * ρ 3 + 0 := by rw [hW, sU_ne (fun z => by omega), sU_ne (fun z => by omega), sU_at]
      intro j hj
      rw [r91_979] at hj
      by_cases hc : j = (1 * ρ 1 + 0).toNat
      · rw [hc, a111, c111 _ (by omega), show 64 + (1 * ρ 1 + 0).toNat = (ρ 2).toNat by omega, m1]
      · rw [c111 j hc, c111 (64 + j) (by omega)]
        exact qxZ8 j (by omega)
    have k_xZ9 : xZ9 W := by
      have r91_964 : W 91 964 = 0 := by rw [hW, sU_at]
      have r91_980 : W 91 980 = M 91 980 := by rw [hW, sU_ne (fun z => by omega), sU_ne (fun z => by omega), sU_ne (fun z => by omega)]
      have r91_981 : W 91 981 = M 91 981 := by rw [hW, sU_ne (fun z => by omega), sU_ne (fun z => by omega), sU_ne (fun z => by omega)]
      have r91_982 : W 91 982 = M 91 982 := by rw [hW, sU_ne (fun z => by omega), sU_ne (fun z => by omega), sU_ne (fun z => by omega)]
      have c110 : ∀ k, W 110 k = M 110 k := fun k => by rw [hW, sU_ne (fun z => by omega), sU_ne (fun z => by omega), sU_ne (fun z => by omega)]
      have c111 : ∀ k : Nat, k ≠ (1 * ρ 1 + 0).toNat → W 111 k = M 111 k := fun k hk => by rw [hW, sU_ne (fun z => by omega), sU_ne (fun z => by omega), sU_ne (fun z => by omega)]
      have a111 : W 111 (1 * ρ 1 + 0).toNat = 1 * ρ 3 + 0 := by rw [hW, sU_ne (fun z => by omega), sU_ne (fun z => by omega), sU_at]
      intro h
      rw [r91_964] at h
      omega
    have k_xZa : xZa W := by
      have r91_964 : W 91 964 = 0 := by rw [hW, sU_at]
      have r91_981 : W 91 981 = M 91 981 := by rw [hW, sU_ne (fun z => by omega), sU_ne (fun z => by omega), sU_ne (fun z => by omega)]
      have r91_960 : W 91 960 = M 91 960 := by rw [hW, sU_ne (fun z => by omega), sU_ne (fun z => by omega), sU_ne (fun z => by omega)]
      have r91_961 : W 91 961 = M 91 961 := by rw [hW, sU_ne (fun z => by omega), sU_ne (fun z => by omega), sU_ne (fun z => by omega)]
      have r91_962 : W 91 962 = M 91 962 := by rw [hW, sU_ne (fun z => by omega), sU_ne (fun z => by omega), sU_ne (fun z => by omega)]
      have r91_963 : W 91 963 = M 91 963 := by rw [hW, sU_ne (fun z => by omega), sU_ne (fun z => by omega), sU_ne (fun z => by omega)]
      have c110 : ∀ k, W 110 k = M 110 k := fun k => by rw [hW, sU_ne (fun z => by omega), sU_ne (fun z => by omega), sU_ne (fun z => by omega)]
      have c111 : ∀ k : Nat, k ≠ (1 * ρ 1 + 0).toNat → W 111 k = M 111 k := fun k hk => by rw [hW, sU_ne (fun z => by omega), sU_ne (fun z => by omega), sU_ne (fun z => by omega)]
      have a111 : W 111 (1 * ρ 1 + 0).toNat = 1 * ρ 3 + 0 := by rw [hW, sU_ne (fun z => by omega), sU_ne (fun z => by omega), sU_at]
      intro h
      rw [r91_964] at h
      omega
    have k_xZb : xZb W := by
      rw [hW]
      exact (uxZb rfl (uxZb rfl (uxZb (sinc_ok rfl _) hI.2.2.2.2.2.2.2.2.2.2.2.2.2.2.2.2.1)))
    have k_xT1 : xT1 W := by
      rw [hW]
      exact (uxT1 rfl (uxT1 rfl (uxT1 (sinc_ok rfl _) hI.2.2.2.2.2.2.2.2.2.2.2.2.2.2.2.2.2)))
    exact ⟨base, k2, k3, k_xY1, k_xY2, k_xY3, k_xZ1, k_xZ2, k_xZ3, k_xZ4, k_xZ5, k_xZ6, k_xZ7, k_xZ8, k_xZ9, k_xZa, k_xZb, k_xT1⟩
-- on
def xr_58 : qRu := (5, [[(-2, 0), (1, 1)], [(2, 0), (-1, 1)], [(-2, 0), (1, 2)], [(2, 0), (-1, 2)], [(-64, 0), (1, 3)], [(64, 0), (-1, 3)], [(-64, 0), (1, 4)], [(64, 0), (-1, 4)]], [(91, 974, [(1, 0)]), (91, 976, [(1, 1)]), (91, 977, [(1, 2)]), (91, 978, [(1, 3)]), (91, 979, [(1, 4)])], [], [(91, 975, [(1, 0)])], [])
theorem xo_58 : qRok xr_58 := by
  intro ρ M h0 hf hm hI
  have f0 := hf [(-2, 0), (1, 1)] (by decide)
  have f1 := hf [(2, 0), (-1, 1)] (by decide)
  have f2 := hf [(-2, 0), (1, 2)] (by decide)
  have f3 := hf [(2, 0), (-1, 2)] (by decide)
  have f4 := hf [(-64, 0), (1, 3)] (by decide)
  have f5 := hf [(64, 0), (-1, 3)] (by decide)
  have f6 := hf [(-64, 0), (1, 4)] (by decide)
  have f7 := hf [(64, 0), (-1, 4)] (by decide)
  simp only [qD, h0] at f0 f1 f2 f3 f4 f5 f6 f7
  have m0 : M 91 974 = 1 * ρ 0 + 0 := hm (91, 974, [(1, 0)]) (by decide)
  have m1 : M 91 976 = 1 * ρ 1 + 0 := hm (91, 976, [(1, 1)]) (by decide)
  have m2 : M 91 977 = 1 * ρ 2 + 0 := hm (91, 977, [(1, 2)]) (by decide)
  have m3 : M 91 978 = 1 * ρ 3 + 0 := hm (91, 978, [(1, 3)]) (by decide)
  have m4 : M 91 979 = 1 * ρ 4 + 0 := hm (91, 979, [(1, 4)]) (by decide)
  simp only [h0] at m0
  have qxZ3 := hI.2.2.2.2.2.2.2.2.1
  have qxZ4 := hI.2.2.2.2.2.2.2.2.2.1
  have qxZ5 := hI.2.2.2.2.2.2.2.2.2.2.1
  have qxZ6 := hI.2.2.2.2.2.2.2.2.2.2.2.1
  have qxZ7 := hI.2.2.2.2.2.2.2.2.2.2.2.2.1
  have qxZ8 := hI.2.2.2.2.2.2.2.2.2.2.2.2.2.1
  have hn : (0 : Int) ≤ M 93 17 ∧ M 93 17 ≤ 64 := hI.1 93 17 (0, 64) rfl
  refine ⟨ρ, fun _ _ => rfl, fun f h => ?_, ?_⟩
  · exact nomatch h
  · show sI (sU M 91 975 (1 * ρ 0 + 0))
    obtain ⟨W, hW⟩ : ∃ W, W = (sU M 91 975 (1 * ρ 0 + 0)) := ⟨_, rfl⟩
    rw [← hW]
    have base : sI0 W := by
      rw [hW]
      exact (si_u0 hI.1 (fun r hr => by cases hr))
    have k2 : XI2 W := by
      rw [hW]
      exact (xi2_u rfl hI.2.1)
    have k3 : XI3 W := by
      rw [hW]
      exact (xi3_u rfl hI.2.2.1)
    have k_xY1 : xY1 W := by
      rw [hW]
      exact (uxY1 rfl hI.2.2.2.1)
    have k_xY2 : xY2 W := by
      rw [hW]
      exact (uxY2 rfl hI.2.2.2.2.1)
    have k_xY3 : xY3 W := by
      rw [hW]
      exact (uxY3 rfl hI.2.2.2.2.2.1)
    have k_xZ1 : xZ1 W := by
      rw [hW]
      exact (uxZ1 rfl hI.2.2.2.2.2.2.1)
    have k_xZ2 : xZ2 W := by
      rw [hW]
      exact (uxZ2 rfl hI.2.2.2.2.2.2.2.1)
    have k_xZ3 : xZ3 W := by
      rw [hW]
      exact (uxZ3 rfl hI.2.2.2.2.2.2.2.2.1)
    have k_xZ4 : xZ4 W := by
      have r91_975 : W 91 975 = 1 * ρ 0 + 0 := by rw [hW, sU_at]
      have c108 : ∀ k, W 108 k = M 108 k := fun k => by rw [hW, sU_ne (fun z => by omega)]
      have c109 : ∀ k, W 109 k = M 109 k := fun k => by rw [hW, sU_ne (fun z => by omega)]
      have c110 : ∀ k, W 110 k = M 110 k := fun k => by rw [hW, sU_ne (fun z => by omega)]
      have c111 : ∀ k, W 111 k = M 111 k := fun k => by rw [hW, sU_ne (fun z => by omega)]
      intro a k b
      rw [c108, c109, qxZ5 k (by omega), qxZ6 k (by omega)]
      obtain ⟨p, q⟩ := qxZ3 (by omega) (2 + k) (by omega) (by omega)
      have h9 : (0 : Int) ≤ M 109 (2 + k) ∧ M 109 (2 + k) ≤ 64 := hI.1 109 (2 + k) (0, 64) (xs_109 (by omega))
      have h8 : (0 : Int) ≤ M 108 (2 + k) ∧ M 108 (2 + k) ≤ 64 := hI.1 108 (2 + k) (0, 64) (xs_108 (by omega))
      refine ol_shift (fun j hj => ?_) q
      rw [c110, c111, qxZ7 _ (by omega), qxZ8 _ (by omega), Nat.add_assoc]
      exact ⟨rfl, rfl⟩
    have k_xZ5 : xZ5 W := by
      rw [hW]
      exact (uxZ5 rfl hI.2.2.2.2.2.2.2.2.2.2.1)
    have k_xZ6 : xZ6 W := by
      rw [hW]
      exact (uxZ6 rfl hI.2.2.2.2.2.2.2.2.2.2.2.1)
    have k_xZ7 : xZ7 W := by
      rw [hW]
      exact (uxZ7 rfl hI.2.2.2.2.2.2.2.2.2.2.2.2.1)
    have k_xZ8 : xZ8 W := by
      rw [hW]
      exact (uxZ8 rfl hI.2.2.2.2.2.2.2.2.2.2.2.2.2.1)
    have k_xZ9 : xZ9 W := by
      rw [hW]
      exact (uxZ9 rfl hI.2.2.2.2.2.2.2.2.2.2.2.2.2.2.1)
    have k_xZa : xZa W := by
      rw [hW]
      exact (uxZa rfl hI.2.2.2.2.2.2.2.2.2.2.2.2.2.2.2.1)
    have k_xZb : xZb W := by
      rw [hW]
      exact (uxZb rfl hI.2.2.2.2.2.2.2.2.2.2.2.2.2.2.2.2.1)
    have k_xT1 : xT1 W := by
      rw [hW]
      exact (uxT1 rfl hI.2.2.2.2.2.2.2.2.2.2.2.2.2.2.2.2.2)
    exact ⟨base, k2, k3, k_xY1, k_xY2, k_xY3, k_xZ1, k_xZ2, k_xZ3, k_xZ4, k_xZ5, k_xZ6, k_xZ7, k_xZ8, k_xZ9, k_xZa, k_xZb, k_xT1⟩
-- evalStart
def xr_59 : qRu := (3, [[(1, 1)], [(1, 0), (-1, 1)]], [(108, 1001, [(1, 2)])], [], [(91, 964, [(1, 0)]), (91, 980, [(1, 2)]), (91, 981, [(1, 2)]), (91, 982, []), (91, 960, [(1, 3)]), (91, 961, [(1, 4)]), (91, 962, [(1, 5)]), (91, 963, [(1, 6)])], [])
theorem xo_59 : qRok xr_59 := by
  intro ρ M h0 hf hm hI
  have f0 := hf [(1, 1)] (by decide)
  have f1 := hf [(1, 0), (-1, 1)] (by decide)
  simp only [qD, h0] at f0 f1
  have m0 : M 108 (zIx ρ (1000 + 1)) = 1 * ρ 2 + 0 := hm (108, 1001, [(1, 2)]) (by decide)
  rw [zix_p] at m0
  have qxZ9 := hI.2.2.2.2.2.2.2.2.2.2.2.2.2.2.1
  have qxZa := hI.2.2.2.2.2.2.2.2.2.2.2.2.2.2.2.1
  have h8 : (0 : Int) ≤ M 108 (ρ 1).toNat ∧ M 108 (ρ 1).toNat ≤ 64 := hI.1 108 (ρ 1).toNat (0, 64) (xs_108 (by omega))
  refine ⟨fun a => cond (Nat.blt a 3) (ρ a) (([M 110 ((1 * ρ 2 + 0).toNat), M 111 ((1 * ρ 2 + 0).toNat), xkN (M 110 ((1 * ρ 2 + 0).toNat)) (M 111 ((1 * ρ 2 + 0).toNat)), xkE (M 110 ((1 * ρ 2 + 0).toNat)) (M 111 ((1 * ρ 2 + 0).toNat))] : List Int).getD (a - 3) 0), fun a ha => ?_, fun f h => ?_, ?_⟩
  · show cond (Nat.blt a 3) (ρ a) _ = ρ a
    rw [show Nat.blt a 3 = true from Nat.ble_eq_true_of_le ha]; rfl
  · exact nomatch h
  · show sI (sU (sU (sU (sU (sU (sU (sU (sU M 91 964 (1 * ρ 0 + 0)) 91 980 (1 * ρ 2 + 0)) 91 981 (1 * ρ 2 + 0)) 91 982 (0)) 91 960 (1 * (M 110 ((1 * ρ 2 + 0).toNat)) + 0)) 91 961 (1 * (M 111 ((1 * ρ 2 + 0).toNat)) + 0)) 91 962 (1 * (xkN (M 110 ((1 * ρ 2 + 0).toNat)) (M 111 ((1 * ρ 2 + 0).toNat))) + 0)) 91 963 (1 * (xkE (M 110 ((1 * ρ 2 + 0).toNat)) (M 111 ((1 * ρ 2 + 0).toNat))) + 0))
    obtain ⟨W, hW⟩ : ∃ W, W = (sU (sU (sU (sU (sU (sU (sU (sU M 91 964 (1 * ρ 0 + 0)) 91 980 (1 * ρ 2 + 0)) 91 981 (1 * ρ 2 + 0)) 91 982 (0)) 91 960 (1 * (M 110 ((1 * ρ 2 + 0).toNat)) + 0)) 91 961 (1 * (M 111 ((1 * ρ 2 + 0).toNat)) + 0)) 91 962 (1 * (xkN (M 110 ((1 * ρ 2 + 0).toNat)) (M 111 ((1 * ρ 2 + 0).toNat))) + 0)) 91 963 (1 * (xkE (M 110 ((1 * ρ 2 + 0).toNat)) (M 111 ((1 * ρ 2 + 0).toNat))) + 0)) := ⟨_, rfl⟩
    rw [← hW]
    have base : sI0 W := by
      rw [hW]
      exact (si_u0 (si_u0 (si_u0 (si_u0 (si_u0 (si_u0 (si_u0 (si_u0 hI.1 (fun r hr => by cases hr)) (fun r hr => by cases hr)) (fun r hr => by cases hr)) (fun r hr => by cases hr)) (fun r hr => by cases hr)) (fun r hr => by cases hr)) (fun r hr => by cases hr)) (fun r hr => by cases hr))
    have k2 : XI2 W := by
      rw [hW]
      exact (xi2_u rfl (xi2_u rfl (xi2_u rfl (xi2_u rfl (xi2_u rfl (xi2_u rfl (xi2_u rfl (xi2_u rfl hI.2.1))))))))
    have k3 : XI3 W := by
      rw [hW]
      exact (xi3_u rfl (xi3_u rfl (xi3_u rfl (xi3_u rfl (xi3_u rfl (xi3_u rfl (xi3_u rfl (xi3_u rfl hI.2.2.1))))))))
    have k_xY1 : xY1 W := by
      rw [hW]
      exact (uxY1 rfl (uxY1 rfl (uxY1 rfl (uxY1 rfl (uxY1 rfl (uxY1 rfl (uxY1 rfl (uxY1 rfl hI.2.2.2.1))))))))
    have k_xY2 : xY2 W := by
      rw [hW]
      exact (uxY2 rfl (uxY2 rfl (uxY2 rfl (uxY2 rfl (uxY2 rfl (uxY2 rfl (uxY2 rfl (uxY2 rfl hI.2.2.2.2.1))))))))
    have k_xY3 : xY3 W := by
      rw [hW]
      exact (uxY3 rfl (uxY3 rfl (uxY3 rfl (uxY3 rfl (uxY3 rfl (uxY3 rfl (uxY3 rfl (uxY3 rfl hI.2.2.2.2.2.1))))))))
    have k_xZ1 : xZ1 W := by
      rw [hW]
      exact (uxZ1 rfl (uxZ1 rfl (uxZ1 rfl (uxZ1 rfl (uxZ1 rfl (uxZ1 rfl (uxZ1 rfl (uxZ1 rfl hI.2.2.2.2.2.2.1))))))))
    have k_xZ2 : xZ2 W := by
      rw [hW]
      exact (uxZ2 rfl (uxZ2 rfl (uxZ2 rfl (uxZ2 rfl (uxZ2 rfl (uxZ2 rfl (uxZ2 rfl (uxZ2 rfl hI.2.2.2.2.2.2.2.1))))))))
    have k_xZ3 : xZ3 W := by
      rw [hW]
      exact (uxZ3 rfl (uxZ3 rfl (uxZ3 rfl (uxZ3 rfl (uxZ3 rfl (uxZ3 rfl (uxZ3 rfl (uxZ3 rfl hI.2.2.2.2.2.2.2.2.1))))))))
    have k_xZ4 : xZ4 W := by
      rw [hW]
      exact (uxZ4 rfl (uxZ4 rfl (uxZ4 rfl (uxZ4 rfl (uxZ4 rfl (uxZ4 rfl (uxZ4 rfl (uxZ4 rfl hI.2.2.2.2.2.2.2.2.2.1))))))))
    have k_xZ5 : xZ5 W := by
      rw [hW]
      exact (uxZ5 rfl (uxZ5 rfl (uxZ5 rfl (uxZ5 rfl (uxZ5 rfl (uxZ5 rfl (uxZ5 rfl (uxZ5 rfl hI.2.2.2.2.2.2.2.2.2.2.1))))))))
    have k_xZ6 : xZ6 W := by
      rw [hW]
      exact (uxZ6 rfl (uxZ6 rfl (uxZ6 rfl (uxZ6 rfl (uxZ6 rfl (uxZ6 rfl (uxZ6 rfl (uxZ6 rfl hI.2.2.2.2.2.2.2.2.2.2.2.1))))))))
    have k_xZ7 : xZ7 W := by
      rw [hW]
      exact (uxZ7 rfl (uxZ7 rfl (uxZ7 rfl (uxZ7 rfl (uxZ7 rfl (uxZ7 rfl (uxZ7 rfl (uxZ7 rfl hI.2.2.2.2.2.2.2.2.2.2.2.2.1))))))))
    have k_xZ8 : xZ8 W := by
      rw [hW]
      exact (uxZ8 rfl (uxZ8 rfl (uxZ8 rfl (uxZ8 rfl (uxZ8 rfl (uxZ8 rfl (uxZ8 rfl (uxZ8 rfl hI.2.2.2.2.2.2.2.2.2.2.2.2.2.1))))))))
    have k_xZ9 : xZ9 W := by
      have r91_964 : W 91 964 = 1 * ρ 0 + 0 := by rw [hW, sU_ne (fun z => by omega), sU_ne (fun z => by omega), sU_ne (fun z => by omega), sU_ne (fun z => by omega), sU_ne (fun z => by omega), sU_ne (fun z => by omega), sU_ne (fun z => by omega), sU_at]
      have r91_980 : W 91 980 = 1 * ρ 2 + 0 := by rw [hW, sU_ne (fun z => by omega), sU_ne (fun z => by omega), sU_ne (fun z => by omega), sU_ne (fun z => by omega), sU_ne (fun z => by omega), sU_ne (fun z => by omega), sU_at]
      have r91_981 : W 91 981 = 1 * ρ 2 + 0 := by rw [hW, sU_ne (fun z => by omega), sU_ne (fun z => by omega), sU_ne (fun z => by omega), sU_ne (fun z => by omega), sU_ne (fun z => by omega), sU_at]
      have r91_982 : W 91 982 = 0 := by rw [hW, sU_ne (fun z => by omega), sU_ne (fun z => by omega), sU_ne (fun z => by omega), sU_ne (fun z => by omega), sU_at]
      have c110 : ∀ k, W 110 k = M 110 k := fun k => by rw [hW, sU_ne (fun z => by omega), sU_ne (fun z => by omega), sU_ne (fun z => by omega), sU_ne (fun z => by omega), sU_ne (fun z => by omega), sU_ne (fun z => by omega), sU_ne (fun z => by omega), sU_ne (fun z => by omega)]
      have c111 : ∀ k, W 111 k = M 111 k := fun k => by rw [hW, sU_ne (fun z => by omega), sU_ne (fun z => by omega), sU_ne (fun z => by omega), sU_ne (fun z => by omega), sU_ne (fun z => by omega), sU_ne (fun z => by omega), sU_ne (fun z => by omega), sU_ne (fun z => by omega)]
      intro h
      rw [r91_980, r91_981, r91_982, Nat.sub_self]
      exact ⟨by omega, Int.le_refl _, rfl⟩
    have k_xZa : xZa W := by
      have r91_964 : W 91 964 = 1 * ρ 0 + 0 := by rw [hW, sU_ne (fun z => by omega), sU_ne (fun z => by omega), sU_ne (fun z => by omega), sU_ne (fun z => by omega), sU_ne (fun z => by omega), sU_ne (fun z => by omega), sU_ne (fun z => by omega), sU_at]
      have r91_981 : W 91 981 = 1 * ρ 2 + 0 := by rw [hW, sU_ne (fun z => by omega), sU_ne (fun z => by omega), sU_ne (fun z => by omega), sU_ne (fun z => by omega), sU_ne (fun z => by omega), sU_at]
      have r91_960 : W 91 960 = 1 * (M 110 ((1 * ρ 2 + 0).toNat)) + 0 := by rw [hW, sU_ne (fun z => by omega), sU_ne (fun z => by omega), sU_ne (fun z => by omega), sU_at]
      have r91_961 : W 91 961 = 1 * (M 111 ((1 * ρ 2 + 0).toNat)) + 0 := by rw [hW, sU_ne (fun z => by omega), sU_ne (fun z => by omega), sU_at]
      have r91_962 : W 91 962 = 1 * (xkN (M 110 ((1 * ρ 2 + 0).toNat)) (M 111 ((1 * ρ 2 + 0).toNat))) + 0 := by rw [hW, sU_ne (fun z => by omega), sU_at]
      have r91_963 : W 91 963 = 1 * (xkE (M 110 ((1 * ρ 2 + 0).toNat)) (M 111 ((1 * ρ 2 + 0).toNat))) + 0 := by rw [hW, sU_at]
      have c110 : ∀ k, W 110 k = M 110 k := fun k => by rw [hW, sU_ne (fun z => by omega), sU_ne (fun z => by omega), sU_ne (fun z => by omega), sU_ne (fun z => by omega), sU_ne (fun z => by omega), sU_ne (fun z => by omega), sU_ne (fun z => by omega), sU_ne (fun z => by omega)]
      have c111 : ∀ k, W 111 k = M 111 k := fun k => by rw [hW, sU_ne (fun z => by omega), sU_ne (fun z => by omega), sU_ne (fun z => by omega), sU_ne (fun z => by omega), sU_ne (fun z => by omega), sU_ne (fun z => by omega), sU_ne (fun z => by omega), sU_ne (fun z => by omega)]
      intro h
      rw [r91_960, r91_961, r91_962, r91_963, r91_981, c110, c111]
      repeat rw [x10]
      exact ⟨rfl, rfl, rfl, rfl⟩
    have k_xZb : xZb W := by
      rw [hW]
      exact (uxZb rfl (uxZb rfl (uxZb rfl (uxZb rfl (uxZb rfl (uxZb rfl (uxZb rfl (uxZb rfl hI.2.2.2.2.2.2.2.2.2.2.2.2.2.2.2.2.1))))))))
    have k_xT1 : xT1 W := by
      rw [hW]
      exact (uxT1 rfl (uxT1 rfl (uxT1 rfl (uxT1 rfl (uxT1 rfl (uxT1 rfl (uxT1 rfl (uxT1 rfl hI.2.2.2.2.2.2.2.2.2.2.2.2.2.2.2.2.2))))))))
    exact ⟨base, k2, k3, k_xY1, k_xY2, k_xY3, k_xZ1, k_xZ2, k_xZ3, k_xZ4, k_xZ5, k_xZ6, k_xZ7, k_xZ8, k_xZ9, k_xZa, k_xZb, k_xT1⟩
-- evalNeed
def xr_60 : qRu := (10, [[(1, 1)], [(1, 0), (-1, 1)], [(-1, 0), (1, 3), (-1, 4)], [(1, 2), (-1, 9)], [(-1, 2), (1, 9)]], [(91, 975, [(1, 0)]), (91, 964, [(1, 0)]), (108, 1001, [(1, 2)]), (109, 1001, [(1, 3)]), (91, 980, [(1, 9)]), (91, 981, [(1, 4)]), (91, 982, [(1, 5)]), (91, 962, [(1, 6)]), (91, 960, [(1, 7)]), (91, 961, [(1, 8)])], [], [], [[(1, 5), (-1, 6)], [(1, 6)], [(-1, 2), (1, 4), (-1, 5)]])
theorem xo_60 : qRok xr_60 := by
  intro ρ M h0 hf hm hI
  have f0 := hf [(1, 1)] (by decide)
  have f1 := hf [(1, 0), (-1, 1)] (by decide)
  have f2 := hf [(-1, 0), (1, 3), (-1, 4)] (by decide)
  have f3 := hf [(1, 2), (-1, 9)] (by decide)
  have f4 := hf [(-1, 2), (1, 9)] (by decide)
  simp only [qD, h0] at f0 f1 f2 f3 f4
  have m0 : M 91 975 = 1 * ρ 0 + 0 := hm (91, 975, [(1, 0)]) (by decide)
  have m1 : M 91 964 = 1 * ρ 0 + 0 := hm (91, 964, [(1, 0)]) (by decide)
  have m2 : M 108 (zIx ρ (1000 + 1)) = 1 * ρ 2 + 0 := hm (108, 1001, [(1, 2)]) (by decide)
  rw [zix_p] at m2
  have m3 : M 109 (zIx ρ (1000 + 1)) = 1 * ρ 3 + 0 := hm (109, 1001, [(1, 3)]) (by decide)
  rw [zix_p] at m3
  have m4 : M 91 980 = 1 * ρ 9 + 0 := hm (91, 980, [(1, 9)]) (by decide)
  have m5 : M 91 981 = 1 * ρ 4 + 0 := hm (91, 981, [(1, 4)]) (by decide)
  have m6 : M 91 982 = 1 * ρ 5 + 0 := hm (91, 982, [(1, 5)]) (by decide)
  have m7 : M 91 962 = 1 * ρ 6 + 0 := hm (91, 962, [(1, 6)]) (by decide)
  have m8 : M 91 960 = 1 * ρ 7 + 0 := hm (91, 960, [(1, 7)]) (by decide)
  have m9 : M 91 961 = 1 * ρ 8 + 0 := hm (91, 961, [(1, 8)]) (by decide)
  simp only [h0] at m0 m1
  have qxZ4 := hI.2.2.2.2.2.2.2.2.2.1
  have qxZ9 := hI.2.2.2.2.2.2.2.2.2.2.2.2.2.2.1
  have qxZa := hI.2.2.2.2.2.2.2.2.2.2.2.2.2.2.2.1
  have h9 := qxZ9 (by omega)
  have ha := qxZa (by omega)
  have hO := qxZ4 (by omega) (ρ 1).toNat (by omega) ((M 91 981).toNat - (M 91 980).toNat) (by omega)
  rw [show (M 108 (ρ 1).toNat).toNat = (M 91 980).toNat by omega, show (M 91 980).toNat + ((M 91 981).toNat - (M 91 980).toNat) = (M 91 981).toNat by omega, ← ha.1, ← ha.2.1, ← ha.2.2.1, ← h9.2.2] at hO
  have hl := dp_le M (M 91 980).toNat ((M 91 981).toNat - (M 91 980).toNat)
  rw [← h9.2.2] at hl
  have hg := en_ge (M 91 960) (M 91 961)
  rw [← ha.2.2.1] at hg
  refine ⟨ρ, fun _ _ => rfl, fun f h => ?_, ?_⟩
  · have h : f ∈ ([[(1, 5), (-1, 6)], [(1, 6)], [(-1, 2), (1, 4), (-1, 5)]] : List qF) := h
    simp only [List.mem_cons, List.not_mem_nil, or_false] at h
    rcases h with rfl | rfl | rfl
    · show 0 ≤ 1 * ρ 5 + (-1 * ρ 6 + 0)
      (try rw [h0]); omega
    · show 0 ≤ 1 * ρ 6 + 0
      (try rw [h0]); omega
    · show 0 ≤ -1 * ρ 2 + (1 * ρ 4 + (-1 * ρ 5 + 0))
      (try rw [h0]); omega
  · show sI M
    exact hI
-- evalName
def xr_61 : qRu := (10, [[(1, 1)], [(1, 0), (-1, 1)], [(-1, 0), (1, 3), (-1, 4)], [(1, 2), (-1, 9)], [(-1, 2), (1, 9)], [(-1, 0), (1, 7)], [(1, 0), (-1, 7)]], [(91, 975, [(1, 0)]), (91, 964, [(1, 0)]), (108, 1001, [(1, 2)]), (109, 1001, [(1, 3)]), (91, 980, [(1, 9)]), (91, 981, [(1, 4)]), (91, 982, [(1, 5)]), (91, 962, [(1, 6)]), (91, 960, [(1, 7)]), (91, 961, [(1, 8)])], [], [], [[(1, 8)], [(5, 0), (-1, 8)]])
theorem xo_61 : qRok xr_61 := by
  intro ρ M h0 hf hm hI
  have f0 := hf [(1, 1)] (by decide)
  have f1 := hf [(1, 0), (-1, 1)] (by decide)
  have f2 := hf [(-1, 0), (1, 3), (-1, 4)] (by decide)
  have f3 := hf [(1, 2), (-1, 9)] (by decide)
  have f4 := hf [(-1, 2), (1, 9)] (by decide)
  have f5 := hf [(-1, 0), (1, 7)] (by decide)
  have f6 := hf [(1, 0), (-1, 7)] (by decide)
  simp only [qD, h0] at f0 f1 f2 f3 f4 f5 f6
  have m0 : M 91 975 = 1 * ρ 0 + 0 := hm (91, 975, [(1, 0)]) (by decide)
  have m1 : M 91 964 = 1 * ρ 0 + 0 := hm (91, 964, [(1, 0)]) (by decide)
  have m2 : M 108 (zIx ρ (1000 + 1)) = 1 * ρ 2 + 0 := hm (108, 1001, [(1, 2)]) (by decide)
  rw [zix_p] at m2
  have m3 : M 109 (zIx ρ (1000 + 1)) = 1 * ρ 3 + 0 := hm (109, 1001, [(1, 3)]) (by decide)
  rw [zix_p] at m3
  have m4 : M 91 980 = 1 * ρ 9 + 0 := hm (91, 980, [(1, 9)]) (by decide)
  have m5 : M 91 981 = 1 * ρ 4 + 0 := hm (91, 981, [(1, 4)]) (by decide)
  have m6 : M 91 982 = 1 * ρ 5 + 0 := hm (91, 982, [(1, 5)]) (by decide)
  have m7 : M 91 962 = 1 * ρ 6 + 0 := hm (91, 962, [(1, 6)]) (by decide)
  have m8 : M 91 960 = 1 * ρ 7 + 0 := hm (91, 960, [(1, 7)]) (by decide)
  have m9 : M 91 961 = 1 * ρ 8 + 0 := hm (91, 961, [(1, 8)]) (by decide)
  simp only [h0] at m0 m1
  have qxZ4 := hI.2.2.2.2.2.2.2.2.2.1
  have qxZ9 := hI.2.2.2.2.2.2.2.2.2.2.2.2.2.2.1
  have qxZa := hI.2.2.2.2.2.2.2.2.2.2.2.2.2.2.2.1
  have h9 := qxZ9 (by omega)
  have ha := qxZa (by omega)
  have hO := qxZ4 (by omega) (ρ 1).toNat (by omega) ((M 91 981).toNat - (M 91 980).toNat) (by omega)
  rw [show (M 108 (ρ 1).toNat).toNat = (M 91 980).toNat by omega, show (M 91 980).toNat + ((M 91 981).toNat - (M 91 980).toNat) = (M 91 981).toNat by omega, ← ha.1, ← ha.2.1, ← ha.2.2.1, ← h9.2.2] at hO
  have hl := dp_le M (M 91 980).toNat ((M 91 981).toNat - (M 91 980).toNat)
  rw [← h9.2.2] at hl
  have hg := en_ge (M 91 960) (M 91 961)
  rw [← ha.2.2.1] at hg
  have hv := hO.2
  unfold xkV at hv
  refine ⟨ρ, fun _ _ => rfl, fun f h => ?_, ?_⟩
  · have h : f ∈ ([[(1, 8)], [(5, 0), (-1, 8)]] : List qF) := h
    simp only [List.mem_cons, List.not_mem_nil, or_false] at h
    rcases h with rfl | rfl
    · show 0 ≤ 1 * ρ 8 + 0
      (try rw [h0]); omega
    · show 0 ≤ 5 * ρ 0 + (-1 * ρ 8 + 0)
      (try rw [h0]); omega
  · show sI M
    exact hI
-- eVal
def xr_62 : qRu := (5, [[(1, 0), (-1, 1)]], [(91, 964, [(1, 0)]), (91, 960, [(1, 1)]), (91, 961, [(1, 2)]), (91, 963, [(1, 3)]), (91, 962, [(1, 4)])], [], [], [[(-1, 0), (1, 3)], [(1, 0), (-1, 3)], [(1, 4)], [(-1, 4)]])
theorem xo_62 : qRok xr_62 := by
  intro ρ M h0 hf hm hI
  have f0 := hf [(1, 0), (-1, 1)] (by decide)
  simp only [qD, h0] at f0
  have m0 : M 91 964 = 1 * ρ 0 + 0 := hm (91, 964, [(1, 0)]) (by decide)
  have m1 : M 91 960 = 1 * ρ 1 + 0 := hm (91, 960, [(1, 1)]) (by decide)
  have m2 : M 91 961 = 1 * ρ 2 + 0 := hm (91, 961, [(1, 2)]) (by decide)
  have m3 : M 91 963 = 1 * ρ 3 + 0 := hm (91, 963, [(1, 3)]) (by decide)
  have m4 : M 91 962 = 1 * ρ 4 + 0 := hm (91, 962, [(1, 4)]) (by decide)
  simp only [h0] at m0
  have qxZa := hI.2.2.2.2.2.2.2.2.2.2.2.2.2.2.2.1
  have hE := (qxZa (by omega)).2.2.2
  have hN := (qxZa (by omega)).2.2.1
  unfold xkE at hE
  unfold xkN at hN
  rw [if_neg (by omega)] at hE
  rw [if_neg (by omega)] at hN
  refine ⟨ρ, fun _ _ => rfl, fun f h => ?_, ?_⟩
  · have h : f ∈ ([[(-1, 0), (1, 3)], [(1, 0), (-1, 3)], [(1, 4)], [(-1, 4)]] : List qF) := h
    simp only [List.mem_cons, List.not_mem_nil, or_false] at h
    rcases h with rfl | rfl | rfl | rfl
    · show 0 ≤ -1 * ρ 0 + (1 * ρ 3 + 0)
      (try rw [h0]); omega
    · show 0 ≤ 1 * ρ 0 + (-1 * ρ 3 + 0)
      (try rw [h0]); omega
    · show 0 ≤ 1 * ρ 4 + 0
      (try rw [h0]); omega
    · show 0 ≤ -1 * ρ 4 + 0
      (try rw [h0]); omega
  · show sI M
    exact hI
-- eNot
def xr_63 : qRu := (5, [[(-2, 0), (1, 1)], [(2, 0), (-1, 1)], [(-260, 0), (1, 2)], [(260, 0), (-1, 2)]], [(91, 964, [(1, 0)]), (91, 960, [(1, 1)]), (91, 961, [(1, 2)]), (91, 963, [(1, 3)]), (91, 962, [(1, 4)])], [], [], [[(1, 3)], [(-1, 3)], [(-1, 0), (1, 4)], [(1, 0), (-1, 4)]])
theorem xo_63 : qRok xr_63 := by
  intro ρ M h0 hf hm hI
  have f0 := hf [(-2, 0), (1, 1)] (by decide)
  have f1 := hf [(2, 0), (-1, 1)] (by decide)
  have f2 := hf [(-260, 0), (1, 2)] (by decide)
  have f3 := hf [(260, 0), (-1, 2)] (by decide)
  simp only [qD, h0] at f0 f1 f2 f3
  have m0 : M 91 964 = 1 * ρ 0 + 0 := hm (91, 964, [(1, 0)]) (by decide)
  have m1 : M 91 960 = 1 * ρ 1 + 0 := hm (91, 960, [(1, 1)]) (by decide)
  have m2 : M 91 961 = 1 * ρ 2 + 0 := hm (91, 961, [(1, 2)]) (by decide)
  have m3 : M 91 963 = 1 * ρ 3 + 0 := hm (91, 963, [(1, 3)]) (by decide)
  have m4 : M 91 962 = 1 * ρ 4 + 0 := hm (91, 962, [(1, 4)]) (by decide)
  simp only [h0] at m0
  have qxZa := hI.2.2.2.2.2.2.2.2.2.2.2.2.2.2.2.1
  have hE := (qxZa (by omega)).2.2.2
  have hN := (qxZa (by omega)).2.2.1
  unfold xkE at hE
  unfold xkN at hN
  rw [if_pos (by omega), if_pos (by omega)] at hE
  rw [if_pos (by omega), if_pos (by omega)] at hN
  refine ⟨ρ, fun _ _ => rfl, fun f h => ?_, ?_⟩
  · have h : f ∈ ([[(1, 3)], [(-1, 3)], [(-1, 0), (1, 4)], [(1, 0), (-1, 4)]] : List qF) := h
    simp only [List.mem_cons, List.not_mem_nil, or_false] at h
    rcases h with rfl | rfl | rfl | rfl
    · show 0 ≤ 1 * ρ 3 + 0
      (try rw [h0]); omega
    · show 0 ≤ -1 * ρ 3 + 0
      (try rw [h0]); omega
    · show 0 ≤ -1 * ρ 0 + (1 * ρ 4 + 0)
      (try rw [h0]); omega
    · show 0 ≤ 1 * ρ 0 + (-1 * ρ 4 + 0)
      (try rw [h0]); omega
  · show sI M
    exact hI
-- eMore
def xr_64 : qRu := (5, [[(-2, 0), (1, 1)], [(2, 0), (-1, 1)], [(-261, 0), (1, 2)]], [(91, 964, [(1, 0)]), (91, 960, [(1, 1)]), (91, 961, [(1, 2)]), (91, 963, [(1, 3)]), (91, 962, [(1, 4)])], [], [], [[(1, 0), (1, 3)], [(-1, 0), (-1, 3)], [(-2, 0), (1, 4)], [(2, 0), (-1, 4)]])
theorem xo_64 : qRok xr_64 := by
  intro ρ M h0 hf hm hI
  have f0 := hf [(-2, 0), (1, 1)] (by decide)
  have f1 := hf [(2, 0), (-1, 1)] (by decide)
  have f2 := hf [(-261, 0), (1, 2)] (by decide)
  simp only [qD, h0] at f0 f1 f2
  have m0 : M 91 964 = 1 * ρ 0 + 0 := hm (91, 964, [(1, 0)]) (by decide)
  have m1 : M 91 960 = 1 * ρ 1 + 0 := hm (91, 960, [(1, 1)]) (by decide)
  have m2 : M 91 961 = 1 * ρ 2 + 0 := hm (91, 961, [(1, 2)]) (by decide)
  have m3 : M 91 963 = 1 * ρ 3 + 0 := hm (91, 963, [(1, 3)]) (by decide)
  have m4 : M 91 962 = 1 * ρ 4 + 0 := hm (91, 962, [(1, 4)]) (by decide)
  simp only [h0] at m0
  have qxZa := hI.2.2.2.2.2.2.2.2.2.2.2.2.2.2.2.1
  have hE := (qxZa (by omega)).2.2.2
  have hN := (qxZa (by omega)).2.2.1
  unfold xkE at hE
  unfold xkN at hN
  rw [if_pos (by omega), if_neg (by omega)] at hE
  rw [if_pos (by omega), if_neg (by omega)] at hN
  refine ⟨ρ, fun _ _ => rfl, fun f h => ?_, ?_⟩
  · have h : f ∈ ([[(1, 0), (1, 3)], [(-1, 0), (-1, 3)], [(-2, 0), (1, 4)], [(2, 0), (-1, 4)]] : List qF) := h
    simp only [List.mem_cons, List.not_mem_nil, or_false] at h
    rcases h with rfl | rfl | rfl | rfl
    · show 0 ≤ 1 * ρ 0 + (1 * ρ 3 + 0)
      (try rw [h0]); omega
    · show 0 ≤ -1 * ρ 0 + (-1 * ρ 3 + 0)
      (try rw [h0]); omega
    · show 0 ≤ -2 * ρ 0 + (1 * ρ 4 + 0)
      (try rw [h0]); omega
    · show 0 ≤ 2 * ρ 0 + (-1 * ρ 4 + 0)
      (try rw [h0]); omega
  · show sI M
    exact hI
-- eLess
def xr_65 : qRu := (5, [[(-2, 0), (1, 1)], [(2, 0), (-1, 1)], [(259, 0), (-1, 2)]], [(91, 964, [(1, 0)]), (91, 960, [(1, 1)]), (91, 961, [(1, 2)]), (91, 963, [(1, 3)]), (91, 962, [(1, 4)])], [], [], [[(1, 0), (1, 3)], [(-1, 0), (-1, 3)], [(-2, 0), (1, 4)], [(2, 0), (-1, 4)]])
theorem xo_65 : qRok xr_65 := by
  intro ρ M h0 hf hm hI
  have f0 := hf [(-2, 0), (1, 1)] (by decide)
  have f1 := hf [(2, 0), (-1, 1)] (by decide)
  have f2 := hf [(259, 0), (-1, 2)] (by decide)
  simp only [qD, h0] at f0 f1 f2
  have m0 : M 91 964 = 1 * ρ 0 + 0 := hm (91, 964, [(1, 0)]) (by decide)
  have m1 : M 91 960 = 1 * ρ 1 + 0 := hm (91, 960, [(1, 1)]) (by decide)
  have m2 : M 91 961 = 1 * ρ 2 + 0 := hm (91, 961, [(1, 2)]) (by decide)
  have m3 : M 91 963 = 1 * ρ 3 + 0 := hm (91, 963, [(1, 3)]) (by decide)
  have m4 : M 91 962 = 1 * ρ 4 + 0 := hm (91, 962, [(1, 4)]) (by decide)
  simp only [h0] at m0
  have qxZa := hI.2.2.2.2.2.2.2.2.2.2.2.2.2.2.2.1
  have hE := (qxZa (by omega)).2.2.2
  have hN := (qxZa (by omega)).2.2.1
  unfold xkE at hE
  unfold xkN at hN
  rw [if_pos (by omega), if_neg (by omega)] at hE
  rw [if_pos (by omega), if_neg (by omega)] at hN
  refine ⟨ρ, fun _ _ => rfl, fun f h => ?_, ?_⟩
  · have h : f ∈ ([[(1, 0), (1, 3)], [(-1, 0), (-1, 3)], [(-2, 0), (1, 4)], [(2, 0), (-1, 4)]] : List qF) := h
    simp only [List.mem_cons, List.not_mem_nil, or_false] at h
    rcases h with rfl | rfl | rfl | rfl
    · show 0 ≤ 1 * ρ 0 + (1 * ρ 3 + 0)
      (try rw [h0]); omega
    · show 0 ≤ -1 * ρ 0 + (-1 * ρ 3 + 0)
      (try rw [h0]); omega
    · show 0 ≤ -2 * ρ 0 + (1 * ρ 4 + 0)
      (try rw [h0]); omega
    · show 0 ≤ 2 * ρ 0 + (-1 * ρ 4 + 0)
      (try rw [h0]); omega
  · show sI M
    exact hI
-- eTwo
def xr_66 : qRu := (4, [[(-2, 0), (1, 1)], [(2, 0), (-1, 1)]], [(91, 964, [(1, 0)]), (91, 960, [(1, 1)]), (91, 961, [(1, 2)]), (91, 962, [(1, 3)])], [], [], [[(-1, 0), (1, 3)], [(2, 0), (-1, 3)]])
theorem xo_66 : qRok xr_66 := by
  intro ρ M h0 hf hm hI
  have f0 := hf [(-2, 0), (1, 1)] (by decide)
  have f1 := hf [(2, 0), (-1, 1)] (by decide)
  simp only [qD, h0] at f0 f1
  have m0 : M 91 964 = 1 * ρ 0 + 0 := hm (91, 964, [(1, 0)]) (by decide)
  have m1 : M 91 960 = 1 * ρ 1 + 0 := hm (91, 960, [(1, 1)]) (by decide)
  have m2 : M 91 961 = 1 * ρ 2 + 0 := hm (91, 961, [(1, 2)]) (by decide)
  have m3 : M 91 962 = 1 * ρ 3 + 0 := hm (91, 962, [(1, 3)]) (by decide)
  simp only [h0] at m0
  have qxZa := hI.2.2.2.2.2.2.2.2.2.2.2.2.2.2.2.1
  have hN := (qxZa (by omega)).2.2.1
  unfold xkN at hN
  rw [if_pos (by omega)] at hN
  have hN2 : 1 ≤ M 91 962 ∧ M 91 962 ≤ 2 := by
    rw [hN]
    split <;> omega
  refine ⟨ρ, fun _ _ => rfl, fun f h => ?_, ?_⟩
  · have h : f ∈ ([[(-1, 0), (1, 3)], [(2, 0), (-1, 3)]] : List qF) := h
    simp only [List.mem_cons, List.not_mem_nil, or_false] at h
    rcases h with rfl | rfl
    · show 0 ≤ -1 * ρ 0 + (1 * ρ 3 + 0)
      (try rw [h0]); omega
    · show 0 ≤ 2 * ρ 0 + (-1 * ρ 3 + 0)
      (try rw [h0]); omega
  · show sI M
    exact hI
-- evalStep
def xr_67 : qRu := (4, [], [(91, 964, [(1, 0)]), (91, 981, [(1, 1)]), (91, 982, [(1, 2)]), (91, 963, [(1, 3)])], [], [(91, 981, [(1, 1), (1, 0)]), (91, 982, [(1, 2), (1, 3)]), (91, 960, [(1, 4)]), (91, 961, [(1, 5)]), (91, 962, [(1, 6)]), (91, 963, [(1, 7)])], [])
theorem xo_67 : qRok xr_67 := by
  intro ρ M h0 hf hm hI
  have m0 : M 91 964 = 1 * ρ 0 + 0 := hm (91, 964, [(1, 0)]) (by decide)
  have m1 : M 91 981 = 1 * ρ 1 + 0 := hm (91, 981, [(1, 1)]) (by decide)
  have m2 : M 91 982 = 1 * ρ 2 + 0 := hm (91, 982, [(1, 2)]) (by decide)
  have m3 : M 91 963 = 1 * ρ 3 + 0 := hm (91, 963, [(1, 3)]) (by decide)
  simp only [h0] at m0
  have qxZ9 := hI.2.2.2.2.2.2.2.2.2.2.2.2.2.2.1
  have qxZa := hI.2.2.2.2.2.2.2.2.2.2.2.2.2.2.2.1
  refine ⟨fun a => cond (Nat.blt a 4) (ρ a) (([M 110 ((1 * ρ 1 + (1 * ρ 0 + 0)).toNat), M 111 ((1 * ρ 1 + (1 * ρ 0 + 0)).toNat), xkN (M 110 ((1 * ρ 1 + (1 * ρ 0 + 0)).toNat)) (M 111 ((1 * ρ 1 + (1 * ρ 0 + 0)).toNat)), xkE (M 110 ((1 * ρ 1 + (1 * ρ 0 + 0)).toNat)) (M 111 ((1 * ρ 1 + (1 * ρ 0 + 0)).toNat))] : List Int).getD (a - 4) 0), fun a ha => ?_, fun f h => ?_, ?_⟩
  · show cond (Nat.blt a 4) (ρ a) _ = ρ a
    rw [show Nat.blt a 4 = true from Nat.ble_eq_true_of_le ha]; rfl
  · exact nomatch h
  · show sI (sU (sU (sU (sU (sU (sU M 91 981 (1 * ρ 1 + (1 * ρ 0 + 0))) 91 982 (1 * ρ 2 + (1 * ρ 3 + 0))) 91 960 (1 * (M 110 ((1 * ρ 1 + (1 * ρ 0 + 0)).toNat)) + 0)) 91 961 (1 * (M 111 ((1 * ρ 1 + (1 * ρ 0 + 0)).toNat)) + 0)) 91 962 (1 * (xkN (M 110 ((1 * ρ 1 + (1 * ρ 0 + 0)).toNat)) (M 111 ((1 * ρ 1 + (1 * ρ 0 + 0)).toNat))) + 0)) 91 963 (1 * (xkE (M 110 ((1 * ρ 1 + (1 * ρ 0 + 0)).toNat)) (M 111 ((1 * ρ 1 + (1 * ρ 0 + 0)).toNat))) + 0))
    obtain ⟨W, hW⟩ : ∃ W, W = (sU (sU (sU (sU (sU (sU M 91 981 (1 * ρ 1 + (1 * ρ 0 + 0))) 91 982 (1 * ρ 2 + (1 * ρ 3 + 0))) 91 960 (1 * (M 110 ((1 * ρ 1 + (1 * ρ 0 + 0)).toNat)) + 0)) 91 961 (1 * (M 111 ((1 * ρ 1 + (1 * ρ 0 + 0)).toNat)) + 0)) 91 962 (1 * (xkN (M 110 ((1 * ρ 1 + (1 * ρ 0 + 0)).toNat)) (M 111 ((1 * ρ 1 + (1 * ρ 0 + 0)).toNat))) + 0)) 91 963 (1 * (xkE (M 110 ((1 * ρ 1 + (1 * ρ 0 + 0)).toNat)) (M 111 ((1 * ρ 1 + (1 * ρ 0 + 0)).toNat))) + 0)) := ⟨_, rfl⟩
    rw [← hW]
    have base : sI0 W := by
      rw [hW]
      exact (si_u0 (si_u0 (si_u0 (si_u0 (si_u0 (si_u0 hI.1 (fun r hr => by cases hr)) (fun r hr => by cases hr)) (fun r hr => by cases hr)) (fun r hr => by cases hr)) (fun r hr => by cases hr)) (fun r hr => by cases hr))
    have k2 : XI2 W := by
      rw [hW]
      exact (xi2_u rfl (xi2_u rfl (xi2_u rfl (xi2_u rfl (xi2_u rfl (xi2_u rfl hI.2.1))))))
    have k3 : XI3 W := by
      rw [hW]
      exact (xi3_u rfl (xi3_u rfl (xi3_u rfl (xi3_u rfl (xi3_u rfl (xi3_u rfl hI.2.2.1))))))
    have k_xY1 : xY1 W := by
      rw [hW]
      exact (uxY1 rfl (uxY1 rfl (uxY1 rfl (uxY1 rfl (uxY1 rfl (uxY1 rfl hI.2.2.2.1))))))
    have k_xY2 : xY2 W := by
      rw [hW]
      exact (uxY2 rfl (uxY2 rfl (uxY2 rfl (uxY2 rfl (uxY2 rfl (uxY2 rfl hI.2.2.2.2.1))))))
    have k_xY3 : xY3 W := by
      rw [hW]
      exact (uxY3 rfl (uxY3 rfl (uxY3 rfl (uxY3 rfl (uxY3 rfl (uxY3 rfl hI.2.2.2.2.2.1))))))
    have k_xZ1 : xZ1 W := by
      rw [hW]
      exact (uxZ1 rfl (uxZ1 rfl (uxZ1 rfl (uxZ1 rfl (uxZ1 rfl (uxZ1 rfl hI.2.2.2.2.2.2.1))))))
    have k_xZ2 : xZ2 W := by
      rw [hW]
      exact (uxZ2 rfl (uxZ2 rfl (uxZ2 rfl (uxZ2 rfl (uxZ2 rfl (uxZ2 rfl hI.2.2.2.2.2.2.2.1))))))
    have k_xZ3 : xZ3 W := by
      rw [hW]
      exact (uxZ3 rfl (uxZ3 rfl (uxZ3 rfl (uxZ3 rfl (uxZ3 rfl (uxZ3 rfl hI.2.2.2.2.2.2.2.2.1))))))
    have k_xZ4 : xZ4 W := by
      rw [hW]
      exact (uxZ4 rfl (uxZ4 rfl (uxZ4 rfl (uxZ4 rfl (uxZ4 rfl (uxZ4 rfl hI.2.2.2.2.2.2.2.2.2.1))))))
    have k_xZ5 : xZ5 W := by
      rw [hW]
      exact (uxZ5 rfl (uxZ5 rfl (uxZ5 rfl (uxZ5 rfl (uxZ5 rfl (uxZ5 rfl hI.2.2.2.2.2.2.2.2.2.2.1))))))
    have k_xZ6 : xZ6 W := by
      rw [hW]
      exact (uxZ6 rfl (uxZ6 rfl (uxZ6 rfl (uxZ6 rfl (uxZ6 rfl (uxZ6 rfl hI.2.2.2.2.2.2.2.2.2.2.2.1))))))
    have k_xZ7 : xZ7 W := by
      rw [hW]
      exact (uxZ7 rfl (uxZ7 rfl (uxZ7 rfl (uxZ7 rfl (uxZ7 rfl (uxZ7 rfl hI.2.2.2.2.2.2.2.2.2.2.2.2.1))))))
    have k_xZ8 : xZ8 W := by
      rw [hW]
      exact (uxZ8 rfl (uxZ8 rfl (uxZ8 rfl (uxZ8 rfl (uxZ8 rfl (uxZ8 rfl hI.2.2.2.2.2.2.2.2.2.2.2.2.2.1))))))
    have k_xZ9 : xZ9 W := by
      have r91_964 : W 91 964 = M 91 964 := by rw [hW, sU_ne (fun z => by omega), sU_ne (fun z => by omega), sU_ne (fun z => by omega), sU_ne (fun z => by omega), sU_ne (fun z => by omega), sU_ne (fun z => by omega)]
      have r91_980 : W 91 980 = M 91 980 := by rw [hW, sU_ne (fun z => by omega), sU_ne (fun z => by omega), sU_ne (fun z => by omega), sU_ne (fun z => by omega), sU_ne (fun z => by omega), sU_ne (fun z => by omega)]
      have r91_981 : W 91 981 = 1 * ρ 1 + (1 * ρ 0 + 0) := by rw [hW, sU_ne (fun z => by omega), sU_ne (fun z => by omega), sU_ne (fun z => by omega), sU_ne (fun z => by omega), sU_ne (fun z => by omega), sU_at]
      have r91_982 : W 91 982 = 1 * ρ 2 + (1 * ρ 3 + 0) := by rw [hW, sU_ne (fun z => by omega), sU_ne (fun z => by omega), sU_ne (fun z => by omega), sU_ne (fun z => by omega), sU_at]
      have c110 : ∀ k, W 110 k = M 110 k := fun k => by rw [hW, sU_ne (fun z => by omega), sU_ne (fun z => by omega), sU_ne (fun z => by omega), sU_ne (fun z => by omega), sU_ne (fun z => by omega), sU_ne (fun z => by omega)]
      have c111 : ∀ k, W 111 k = M 111 k := fun k => by rw [hW, sU_ne (fun z => by omega), sU_ne (fun z => by omega), sU_ne (fun z => by omega), sU_ne (fun z => by omega), sU_ne (fun z => by omega), sU_ne (fun z => by omega)]
      intro h
      have h9 := qxZ9 (by omega)
      have ha := qxZa (by omega)
      rw [r91_980, r91_981, r91_982, h0, show (1 * ρ 1 + (1 * 1 + 0)).toNat - (M 91 980).toNat = ((M 91 981).toNat - (M 91 980).toNat) + 1 by omega]
      refine ⟨h9.1, by omega, ?_⟩
      rw [dp_s, dp_congr (M := M) (fun k _ _ => ⟨c110 k, c111 k⟩), c110, c111, show (M 91 980).toNat + ((M 91 981).toNat - (M 91 980).toNat) = (M 91 981).toNat by omega, ← ha.1, ← ha.2.1, ← ha.2.2.2, ← h9.2.2]
      omega
    have k_xZa : xZa W := by
      have r91_964 : W 91 964 = M 91 964 := by rw [hW, sU_ne (fun z => by omega), sU_ne (fun z => by omega), sU_ne (fun z => by omega), sU_ne (fun z => by omega), sU_ne (fun z => by omega), sU_ne (fun z => by omega)]
      have r91_981 : W 91 981 = 1 * ρ 1 + (1 * ρ 0 + 0) := by rw [hW, sU_ne (fun z => by omega), sU_ne (fun z => by omega), sU_ne (fun z => by omega), sU_ne (fun z => by omega), sU_ne (fun z => by omega), sU_at]
      have r91_960 : W 91 960 = 1 * (M 110 ((1 * ρ 1 + (1 * ρ 0 + 0)).toNat)) + 0 := by rw [hW, sU_ne (fun z => by omega), sU_ne (fun z => by omega), sU_ne (fun z => by omega), sU_at]
      have r91_961 : W 91 961 = 1 * (M 111 ((1 * ρ 1 + (1 * ρ 0 + 0)).toNat)) + 0 := by rw [hW, sU_ne (fun z => by omega), sU_ne (fun z => by omega), sU_at]
      have r91_962 : W 91 962 = 1 * (xkN (M 110 ((1 * ρ 1 + (1 * ρ 0 + 0)).toNat)) (M 111 ((1 * ρ 1 + (1 * ρ 0 + 0)).toNat))) + 0 := by rw [hW, sU_ne (fun z => by omega), sU_at]
      have r91_963 : W 91 963 = 1 * (xkE (M 110 ((1 * ρ 1 + (1 * ρ 0 + 0)).toNat)) (M 111 ((1 * ρ 1 + (1 * ρ 0 + 0)).toNat))) + 0 := by rw [hW, sU_at]
      have c110 : ∀ k, W 110 k = M 110 k := fun k => by rw [hW, sU_ne (fun z => by omega), sU_ne (fun z => by omega), sU_ne (fun z => by omega), sU_ne (fun z => by omega), sU_ne (fun z => by omega), sU_ne (fun z => by omega)]
      have c111 : ∀ k, W 111 k = M 111 k := fun k => by rw [hW, sU_ne (fun z => by omega), sU_ne (fun z => by omega), sU_ne (fun z => by omega), sU_ne (fun z => by omega), sU_ne (fun z => by omega), sU_ne (fun z => by omega)]
      intro h
      rw [r91_960, r91_961, r91_962, r91_963, r91_981, c110, c111]
      repeat rw [x10]
      exact ⟨rfl, rfl, rfl, rfl⟩
    have k_xZb : xZb W := by
      rw [hW]
      exact (uxZb rfl (uxZb rfl (uxZb rfl (uxZb rfl (uxZb rfl (uxZb rfl hI.2.2.2.2.2.2.2.2.2.2.2.2.2.2.2.2.1))))))
    have k_xT1 : xT1 W := by
      rw [hW]
      exact (uxT1 rfl (uxT1 rfl (uxT1 rfl (uxT1 rfl (uxT1 rfl (uxT1 rfl hI.2.2.2.2.2.2.2.2.2.2.2.2.2.2.2.2.2))))))
    exact ⟨base, k2, k3, k_xY1, k_xY2, k_xY3, k_xZ1, k_xZ2, k_xZ3, k_xZ4, k_xZ5, k_xZ6, k_xZ7, k_xZ8, k_xZ9, k_xZa, k_xZb, k_xT1⟩
-- evSort
def xr_68 : qRu := (5, [[(1, 1), (-1, 4)], [(-1, 1), (1, 4)]], [(91, 964, [(1, 0)]), (91, 981, [(1, 1)]), (91, 960, [(1, 2)]), (110, 1004, [(1, 3)])], [], [], [[(1, 2), (-1, 3)], [(-1, 2), (1, 3)]])
theorem xo_68 : qRok xr_68 := by
  intro ρ M h0 hf hm hI
  have f0 := hf [(1, 1), (-1, 4)] (by decide)
  have f1 := hf [(-1, 1), (1, 4)] (by decide)
  simp only [qD, h0] at f0 f1
  have m0 : M 91 964 = 1 * ρ 0 + 0 := hm (91, 964, [(1, 0)]) (by decide)
  have m1 : M 91 981 = 1 * ρ 1 + 0 := hm (91, 981, [(1, 1)]) (by decide)
  have m2 : M 91 960 = 1 * ρ 2 + 0 := hm (91, 960, [(1, 2)]) (by decide)
  have m3 : M 110 (zIx ρ (1000 + 4)) = 1 * ρ 3 + 0 := hm (110, 1004, [(1, 3)]) (by decide)
  rw [zix_p] at m3
  simp only [h0] at m0
  have qxZa := hI.2.2.2.2.2.2.2.2.2.2.2.2.2.2.2.1
  have ha := (qxZa (by omega)).1
  rw [show (M 91 981).toNat = (ρ 4).toNat by omega] at ha
  refine ⟨ρ, fun _ _ => rfl, fun f h => ?_, ?_⟩
  · have h : f ∈ ([[(1, 2), (-1, 3)], [(-1, 2), (1, 3)]] : List qF) := h
    simp only [List.mem_cons, List.not_mem_nil, or_false] at h
    rcases h with rfl | rfl
    · show 0 ≤ 1 * ρ 2 + (-1 * ρ 3 + 0)
      (try rw [h0]); omega
    · show 0 ≤ -1 * ρ 2 + (1 * ρ 3 + 0)
      (try rw [h0]); omega
  · show sI M
    exact hI
-- evVal
def xr_69 : qRu := (5, [[(1, 1), (-1, 4)], [(-1, 1), (1, 4)]], [(91, 964, [(1, 0)]), (91, 981, [(1, 1)]), (91, 961, [(1, 2)]), (111, 1004, [(1, 3)])], [], [], [[(1, 2), (-1, 3)], [(-1, 2), (1, 3)]])
theorem xo_69 : qRok xr_69 := by
  intro ρ M h0 hf hm hI
  have f0 := hf [(1, 1), (-1, 4)] (by decide)
  have f1 := hf [(-1, 1), (1, 4)] (by decide)
  simp only [qD, h0] at f0 f1
  have m0 : M 91 964 = 1 * ρ 0 + 0 := hm (91, 964, [(1, 0)]) (by decide)
  have m1 : M 91 981 = 1 * ρ 1 + 0 := hm (91, 981, [(1, 1)]) (by decide)
  have m2 : M 91 961 = 1 * ρ 2 + 0 := hm (91, 961, [(1, 2)]) (by decide)
  have m3 : M 111 (zIx ρ (1000 + 4)) = 1 * ρ 3 + 0 := hm (111, 1004, [(1, 3)]) (by decide)
  rw [zix_p] at m3
  simp only [h0] at m0
  have qxZa := hI.2.2.2.2.2.2.2.2.2.2.2.2.2.2.2.1
  have ha := (qxZa (by omega)).2.1
  rw [show (M 91 981).toNat = (ρ 4).toNat by omega] at ha
  refine ⟨ρ, fun _ _ => rfl, fun f h => ?_, ?_⟩
  · have h : f ∈ ([[(1, 2), (-1, 3)], [(-1, 2), (1, 3)]] : List qF) := h
    simp only [List.mem_cons, List.not_mem_nil, or_false] at h
    rcases h with rfl | rfl
    · show 0 ≤ 1 * ρ 2 + (-1 * ρ 3 + 0)
      (try rw [h0]); omega
    · show 0 ≤ -1 * ρ 2 + (1 * ρ 3 + 0)
      (try rw [h0]); omega
  · show sI M
    exact hI
-- tokOff
def xr_70 : qRu := (1, [], [], [], [(91, 995, [])], [])
theorem xo_70 : qRok xr_70 := by
  intro ρ M h0 hf hm hI
  have qxT1 := hI.2.2.2.2.2.2.2.2.2.2.2.2.2.2.2.2.2
  refine ⟨ρ, fun _ _ => rfl, fun f h => ?_, ?_⟩
  · exact nomatch h
  · show sI (sU M 91 995 (0))
    obtain ⟨W, hW⟩ : ∃ W, W = (sU M 91 995 (0)) := ⟨_, rfl⟩
    rw [← hW]
    have base : sI0 W := by
      rw [hW]
      exact (si_u0 hI.1 (fun r hr => by cases hr))
    have k2 : XI2 W := by
      rw [hW]
      exact (xi2_u rfl hI.2.1)
    have k3 : XI3 W := by
      rw [hW]
      exact (xi3_u rfl hI.2.2.1)
    have k_xY1 : xY1 W := by
      rw [hW]
      exact (uxY1 rfl hI.2.2.2.1)
    have k_xY2 : xY2 W := by
      rw [hW]
      exact (uxY2 rfl hI.2.2.2.2.1)
    have k_xY3 : xY3 W := by
      rw [hW]
      exact (uxY3 rfl hI.2.2.2.2.2.1)
    have k_xZ1 : xZ1 W := by
      rw [hW]
      exact (uxZ1 rfl hI.2.2.2.2.2.2.1)
    have k_xZ2 : xZ2 W := by
      rw [hW]
      exact (uxZ2 rfl hI.2.2.2.2.2.2.2.1)
    have k_xZ3 : xZ3 W := by
      rw [hW]
      exact (uxZ3 rfl hI.2.2.2.2.2.2.2.2.1)
    have k_xZ4 : xZ4 W := by
      rw [hW]
      exact (uxZ4 rfl hI.2.2.2.2.2.2.2.2.2.1)
    have k_xZ5 : xZ5 W := by
      rw [hW]
      exact (uxZ5 rfl hI.2.2.2.2.2.2.2.2.2.2.1)
    have k_xZ6 : xZ6 W := by
      rw [hW]
      exact (uxZ6 rfl hI.2.2.2.2.2.2.2.2.2.2.2.1)
    have k_xZ7 : xZ7 W := by
      rw [hW]
      exact (uxZ7 rfl hI.2.2.2.2.2.2.2.2.2.2.2.2.1)
    have k_xZ8 : xZ8 W := by
      rw [hW]
      exact (uxZ8 rfl hI.2.2.2.2.2.2.2.2.2.2.2.2.2.1)
    have k_xZ9 : xZ9 W := by
      rw [hW]
      exact (uxZ9 rfl hI.2.2.2.2.2.2.2.2.2.2.2.2.2.2.1)
    have k_xZa : xZa W := by
      rw [hW]
      exact (uxZa rfl hI.2.2.2.2.2.2.2.2.2.2.2.2.2.2.2.1)
    have k_xZb : xZb W := by
      rw [hW]
      exact (uxZb rfl hI.2.2.2.2.2.2.2.2.2.2.2.2.2.2.2.2.1)
    have k_xT1 : xT1 W := by
      have r91_995 : W 91 995 = 0 := by rw [hW, sU_at]
      have r91_29 : W 91 29 = M 91 29 := by rw [hW, sU_ne (fun z => by omega)]
      have r91_30 : W 91 30 = M 91 30 := by rw [hW, sU_ne (fun z => by omega)]
      intro h
      rw [r91_995] at h
      omega
    exact ⟨base, k2, k3, k_xY1, k_xY2, k_xY3, k_xZ1, k_xZ2, k_xZ3, k_xZ4, k_xZ5, k_xZ6, k_xZ7, k_xZ8, k_xZ9, k_xZa, k_xZb, k_xT1⟩
-- wSort
def xr_71 : qRu := (2, [[(1, 1)], [(5, 0), (-1, 1)]], [(91, 995, [])], [(91, [(29, 0)], [(1, 1)])], [], [])
theorem xo_71 : qRok xr_71 := by
  intro ρ M h0 hf hm hI
  have f0 := hf [(1, 1)] (by decide)
  have f1 := hf [(5, 0), (-1, 1)] (by decide)
  simp only [qD, h0] at f0 f1
  have m0 : M 91 995 = 0 := hm (91, 995, []) (by decide)
  have qxT1 := hI.2.2.2.2.2.2.2.2.2.2.2.2.2.2.2.2.2
  refine ⟨ρ, fun _ _ => rfl, fun f h => ?_, ?_⟩
  · exact nomatch h
  · show sI (sU M 91 (29 * ρ 0 + 0 : Int).toNat (1 * ρ 1 + 0))
    rw [show (29 * ρ 0 + 0 : Int).toNat = 29 by (try rw [h0]); rfl]
    obtain ⟨W, hW⟩ : ∃ W, W = (sU M 91 29 (1 * ρ 1 + 0)) := ⟨_, rfl⟩
    rw [← hW]
    have base : sI0 W := by
      rw [hW]
      exact (si_u0 hI.1 (fun r hr => by have hr : some ((0 : Int), (5 : Int)) = some r := hr; cases hr; exact ⟨by show (0 : Int) ≤ _; (try rw [h0]); omega, by show _ ≤ (5 : Int); (try rw [h0]); omega⟩))
    have k2 : XI2 W := by
      rw [hW]
      exact (xi2_u rfl hI.2.1)
    have k3 : XI3 W := by
      rw [hW]
      exact (xi3_u rfl hI.2.2.1)
    have k_xY1 : xY1 W := by
      rw [hW]
      exact (uxY1 rfl hI.2.2.2.1)
    have k_xY2 : xY2 W := by
      rw [hW]
      exact (uxY2 rfl hI.2.2.2.2.1)
    have k_xY3 : xY3 W := by
      rw [hW]
      exact (uxY3 rfl hI.2.2.2.2.2.1)
    have k_xZ1 : xZ1 W := by
      rw [hW]
      exact (uxZ1 rfl hI.2.2.2.2.2.2.1)
    have k_xZ2 : xZ2 W := by
      rw [hW]
      exact (uxZ2 rfl hI.2.2.2.2.2.2.2.1)
    have k_xZ3 : xZ3 W := by
      rw [hW]
      exact (uxZ3 rfl hI.2.2.2.2.2.2.2.2.1)
    have k_xZ4 : xZ4 W := by
      rw [hW]
      exact (uxZ4 rfl hI.2.2.2.2.2.2.2.2.2.1)
    have k_xZ5 : xZ5 W := by
      rw [hW]
      exact (uxZ5 rfl hI.2.2.2.2.2.2.2.2.2.2.1)
    have k_xZ6 : xZ6 W := by
      rw [hW]
      exact (uxZ6 rfl hI.2.2.2.2.2.2.2.2.2.2.2.1)
    have k_xZ7 : xZ7 W := by
      rw [hW]
      exact (uxZ7 rfl hI.2.2.2.2.2.2.2.2.2.2.2.2.1)
    have k_xZ8 : xZ8 W := by
      rw [hW]
      exact (uxZ8 rfl hI.2.2.2.2.2.2.2.2.2.2.2.2.2.1)
    have k_xZ9 : xZ9 W := by
      rw [hW]
      exact (uxZ9 rfl hI.2.2.2.2.2.2.2.2.2.2.2.2.2.2.1)
    have k_xZa : xZa W := by
      rw [hW]
      exact (uxZa rfl hI.2.2.2.2.2.2.2.2.2.2.2.2.2.2.2.1)
    have k_xZb : xZb W := by
      rw [hW]
      exact (uxZb rfl hI.2.2.2.2.2.2.2.2.2.2.2.2.2.2.2.2.1)
    have k_xT1 : xT1 W := by
      have r91_995 : W 91 995 = M 91 995 := by rw [hW, sU_ne (fun z => by omega)]
      have r91_29 : W 91 29 = 1 * ρ 1 + 0 := by rw [hW, sU_at]
      have r91_30 : W 91 30 = M 91 30 := by rw [hW, sU_ne (fun z => by omega)]
      intro h
      rw [r91_995] at h
      omega
    exact ⟨base, k2, k3, k_xY1, k_xY2, k_xY3, k_xZ1, k_xZ2, k_xZ3, k_xZ4, k_xZ5, k_xZ6, k_xZ7, k_xZ8, k_xZ9, k_xZa, k_xZb, k_xT1⟩
-- wValue
def xr_72 : qRu := (2, [[(2147483648, 0), (1, 1)], [(2147483647, 0), (-1, 1)]], [(91, 995, [])], [(91, [(30, 0)], [(1, 1)])], [], [])
theorem xo_72 : qRok xr_72 := by
  intro ρ M h0 hf hm hI
  have f0 := hf [(2147483648, 0), (1, 1)] (by decide)
  have f1 := hf [(2147483647, 0), (-1, 1)] (by decide)
  simp only [qD, h0] at f0 f1
  have m0 : M 91 995 = 0 := hm (91, 995, []) (by decide)
  have qxT1 := hI.2.2.2.2.2.2.2.2.2.2.2.2.2.2.2.2.2
  refine ⟨ρ, fun _ _ => rfl, fun f h => ?_, ?_⟩
  · exact nomatch h
  · show sI (sU M 91 (30 * ρ 0 + 0 : Int).toNat (1 * ρ 1 + 0))
    rw [show (30 * ρ 0 + 0 : Int).toNat = 30 by (try rw [h0]); rfl]
    obtain ⟨W, hW⟩ : ∃ W, W = (sU M 91 30 (1 * ρ 1 + 0)) := ⟨_, rfl⟩
    rw [← hW]
    have base : sI0 W := by
      rw [hW]
      exact (si_u0 hI.1 (fun r hr => by have hr : some ((-2147483648 : Int), (2147483647 : Int)) = some r := hr; cases hr; exact ⟨by show (-2147483648 : Int) ≤ _; (try rw [h0]); omega, by show _ ≤ (2147483647 : Int); (try rw [h0]); omega⟩))
    have k2 : XI2 W := by
      rw [hW]
      exact (xi2_u rfl hI.2.1)
    have k3 : XI3 W := by
      rw [hW]
      exact (xi3_u rfl hI.2.2.1)
    have k_xY1 : xY1 W := by
      rw [hW]
      exact (uxY1 rfl hI.2.2.2.1)
    have k_xY2 : xY2 W := by
      rw [hW]
      exact (uxY2 rfl hI.2.2.2.2.1)
    have k_xY3 : xY3 W := by
      rw [hW]
      exact (uxY3 rfl hI.2.2.2.2.2.1)
    have k_xZ1 : xZ1 W := by
      rw [hW]
      exact (uxZ1 rfl hI.2.2.2.2.2.2.1)
    have k_xZ2 : xZ2 W := by
      rw [hW]
      exact (uxZ2 rfl hI.2.2.2.2.2.2.2.1)
    have k_xZ3 : xZ3 W := by
      rw [hW]
      exact (uxZ3 rfl hI.2.2.2.2.2.2.2.2.1)
    have k_xZ4 : xZ4 W := by
      rw [hW]
      exact (uxZ4 rfl hI.2.2.2.2.2.2.2.2.2.1)
    have k_xZ5 : xZ5 W := by
      rw [hW]
      exact (uxZ5 rfl hI.2.2.2.2.2.2.2.2.2.2.1)
    have k_xZ6 : xZ6 W := by
      rw [hW]
      exact (uxZ6 rfl hI.2.2.2.2.2.2.2.2.2.2.2.1)
    have k_xZ7 : xZ7 W := by
      rw [hW]
      exact (uxZ7 rfl hI.2.2.2.2.2.2.2.2.2.2.2.2.1)
    have k_xZ8 : xZ8 W := by
      rw [hW]
      exact (uxZ8 rfl hI.2.2.2.2.2.2.2.2.2.2.2.2.2.1)
    have k_xZ9 : xZ9 W := by
      rw [hW]
      exact (uxZ9 rfl hI.2.2.2.2.2.2.2.2.2.2.2.2.2.2.1)
    have k_xZa : xZa W := by
      rw [hW]
      exact (uxZa rfl hI.2.2.2.2.2.2.2.2.2.2.2.2.2.2.2.1)
    have k_xZb : xZb W := by
      rw [hW]
      exact (uxZb rfl hI.2.2.2.2.2.2.2.2.2.2.2.2.2.2.2.2.1)
    have k_xT1 : xT1 W := by
      have r91_995 : W 91 995 = M 91 995 := by rw [hW, sU_ne (fun z => by omega)]
      have r91_29 : W 91 29 = M 91 29 := by rw [hW, sU_ne (fun z => by omega)]
      have r91_30 : W 91 30 = 1 * ρ 1 + 0 := by rw [hW, sU_at]
      intro h
      rw [r91_995] at h
      omega
    exact ⟨base, k2, k3, k_xY1, k_xY2, k_xY3, k_xZ1, k_xZ2, k_xZ3, k_xZ4, k_xZ5, k_xZ6, k_xZ7, k_xZ8, k_xZ9, k_xZa, k_xZb, k_xT1⟩
-- tokW
def xr_73 : qRu := (3, [[(1, 1)], [(-1, 1)], [(23, 0), (-1, 2)]], [(91, 29, [(1, 1)]), (91, 30, [(1, 2)])], [], [(91, 995, [(1, 0)])], [])
theorem xo_73 : qRok xr_73 := by
  intro ρ M h0 hf hm hI
  have f0 := hf [(1, 1)] (by decide)
  have f1 := hf [(-1, 1)] (by decide)
  have f2 := hf [(23, 0), (-1, 2)] (by decide)
  simp only [qD, h0] at f0 f1 f2
  have m0 : M 91 29 = 1 * ρ 1 + 0 := hm (91, 29, [(1, 1)]) (by decide)
  have m1 : M 91 30 = 1 * ρ 2 + 0 := hm (91, 30, [(1, 2)]) (by decide)
  have qxT1 := hI.2.2.2.2.2.2.2.2.2.2.2.2.2.2.2.2.2
  refine ⟨ρ, fun _ _ => rfl, fun f h => ?_, ?_⟩
  · exact nomatch h
  · show sI (sU M 91 995 (1 * ρ 0 + 0))
    obtain ⟨W, hW⟩ : ∃ W, W = (sU M 91 995 (1 * ρ 0 + 0)) := ⟨_, rfl⟩
    rw [← hW]
    have base : sI0 W := by
      rw [hW]
      exact (si_u0 hI.1 (fun r hr => by cases hr))
    have k2 : XI2 W := by
      rw [hW]
      exact (xi2_u rfl hI.2.1)
    have k3 : XI3 W := by
      rw [hW]
      exact (xi3_u rfl hI.2.2.1)
    have k_xY1 : xY1 W := by
      rw [hW]
      exact (uxY1 rfl hI.2.2.2.1)
    have k_xY2 : xY2 W := by
      rw [hW]
      exact (uxY2 rfl hI.2.2.2.2.1)
    have k_xY3 : xY3 W := by
      rw [hW]
      exact (uxY3 rfl hI.2.2.2.2.2.1)
    have k_xZ1 : xZ1 W := by
      rw [hW]
      exact (uxZ1 rfl hI.2.2.2.2.2.2.1)
    have k_xZ2 : xZ2 W := by
      rw [hW]
      exact (uxZ2 rfl hI.2.2.2.2.2.2.2.1)
    have k_xZ3 : xZ3 W := by
      rw [hW]
      exact (uxZ3 rfl hI.2.2.2.2.2.2.2.2.1)
    have k_xZ4 : xZ4 W := by
      rw [hW]
      exact (uxZ4 rfl hI.2.2.2.2.2.2.2.2.2.1)
    have k_xZ5 : xZ5 W := by
      rw [hW]
      exact (uxZ5 rfl hI.2.2.2.2.2.2.2.2.2.2.1)
    have k_xZ6 : xZ6 W := by
      rw [hW]
      exact (uxZ6 rfl hI.2.2.2.2.2.2.2.2.2.2.2.1)
    have k_xZ7 : xZ7 W := by
      rw [hW]
      exact (uxZ7 rfl hI.2.2.2.2.2.2.2.2.2.2.2.2.1)
    have k_xZ8 : xZ8 W := by
      rw [hW]
      exact (uxZ8 rfl hI.2.2.2.2.2.2.2.2.2.2.2.2.2.1)
    have k_xZ9 : xZ9 W := by
      rw [hW]
      exact (uxZ9 rfl hI.2.2.2.2.2.2.2.2.2.2.2.2.2.2.1)
    have k_xZa : xZa W := by
      rw [hW]
      exact (uxZa rfl hI.2.2.2.2.2.2.2.2.2.2.2.2.2.2.2.1)
    have k_xZb : xZb W := by
      rw [hW]
      exact (uxZb rfl hI.2.2.2.2.2.2.2.2.2.2.2.2.2.2.2.2.1)
    have k_xT1 : xT1 W := by
      have r91_995 : W 91 995 = 1 * ρ 0 + 0 := by rw [hW, sU_at]
      have r91_29 : W 91 29 = M 91 29 := by rw [hW, sU_ne (fun z => by omega)]
      have r91_30 : W 91 30 = M 91 30 := by rw [hW, sU_ne (fun z => by omega)]
      intro h
      rw [r91_29, r91_30]
      exact ⟨fun a => by omega, fun a => by omega⟩
    exact ⟨base, k2, k3, k_xY1, k_xY2, k_xY3, k_xZ1, k_xZ2, k_xZ3, k_xZ4, k_xZ5, k_xZ6, k_xZ7, k_xZ8, k_xZ9, k_xZa, k_xZb, k_xT1⟩
-- tokS
def xr_74 : qRu := (3, [[(-3, 0), (1, 1)], [(3, 0), (-1, 1)], [(258, 0), (-1, 2)]], [(91, 29, [(1, 1)]), (91, 30, [(1, 2)])], [], [(91, 995, [(1, 0)])], [])
theorem xo_74 : qRok xr_74 := by
  intro ρ M h0 hf hm hI
  have f0 := hf [(-3, 0), (1, 1)] (by decide)
  have f1 := hf [(3, 0), (-1, 1)] (by decide)
  have f2 := hf [(258, 0), (-1, 2)] (by decide)
  simp only [qD, h0] at f0 f1 f2
  have m0 : M 91 29 = 1 * ρ 1 + 0 := hm (91, 29, [(1, 1)]) (by decide)
  have m1 : M 91 30 = 1 * ρ 2 + 0 := hm (91, 30, [(1, 2)]) (by decide)
  have qxT1 := hI.2.2.2.2.2.2.2.2.2.2.2.2.2.2.2.2.2
  refine ⟨ρ, fun _ _ => rfl, fun f h => ?_, ?_⟩
  · exact nomatch h
  · show sI (sU M 91 995 (1 * ρ 0 + 0))
    obtain ⟨W, hW⟩ : ∃ W, W = (sU M 91 995 (1 * ρ 0 + 0)) := ⟨_, rfl⟩
    rw [← hW]
    have base : sI0 W := by
      rw [hW]
      exact (si_u0 hI.1 (fun r hr => by cases hr))
    have k2 : XI2 W := by
      rw [hW]
      exact (xi2_u rfl hI.2.1)
    have k3 : XI3 W := by
      rw [hW]
      exact (xi3_u rfl hI.2.2.1)
    have k_xY1 : xY1 W := by
      rw [hW]
      exact (uxY1 rfl hI.2.2.2.1)
    have k_xY2 : xY2 W := by
      rw [hW]
      exact (uxY2 rfl hI.2.2.2.2.1)
    have k_xY3 : xY3 W := by
      rw [hW]
      exact (uxY3 rfl hI.2.2.2.2.2.1)
    have k_xZ1 : xZ1 W := by
      rw [hW]
      exact (uxZ1 rfl hI.2.2.2.2.2.2.1)
    have k_xZ2 : xZ2 W := by
      rw [hW]
      exact (uxZ2 rfl hI.2.2.2.2.2.2.2.1)
    have k_xZ3 : xZ3 W := by
      rw [hW]
      exact (uxZ3 rfl hI.2.2.2.2.2.2.2.2.1)
    have k_xZ4 : xZ4 W := by
      rw [hW]
      exact (uxZ4 rfl hI.2.2.2.2.2.2.2.2.2.1)
    have k_xZ5 : xZ5 W := by
      rw [hW]
      exact (uxZ5 rfl hI.2.2.2.2.2.2.2.2.2.2.1)
    have k_xZ6 : xZ6 W := by
      rw [hW]
      exact (uxZ6 rfl hI.2.2.2.2.2.2.2.2.2.2.2.1)
    have k_xZ7 : xZ7 W := by
      rw [hW]
      exact (uxZ7 rfl hI.2.2.2.2.2.2.2.2.2.2.2.2.1)
    have k_xZ8 : xZ8 W := by
      rw [hW]
      exact (uxZ8 rfl hI.2.2.2.2.2.2.2.2.2.2.2.2.2.1)
    have k_xZ9 : xZ9 W := by
      rw [hW]
      exact (uxZ9 rfl hI.2.2.2.2.2.2.2.2.2.2.2.2.2.2.1)
    have k_xZa : xZa W := by
      rw [hW]
      exact (uxZa rfl hI.2.2.2.2.2.2.2.2.2.2.2.2.2.2.2.1)
    have k_xZb : xZb W := by
      rw [hW]
      exact (uxZb rfl hI.2.2.2.2.2.2.2.2.2.2.2.2.2.2.2.2.1)
    have k_xT1 : xT1 W := by
      have r91_995 : W 91 995 = 1 * ρ 0 + 0 := by rw [hW, sU_at]
      have r91_29 : W 91 29 = M 91 29 := by rw [hW, sU_ne (fun z => by omega)]
      have r91_30 : W 91 30 = M 91 30 := by rw [hW, sU_ne (fun z => by omega)]
      intro h
      rw [r91_29, r91_30]
      exact ⟨fun a => by omega, fun a => by omega⟩
    exact ⟨base, k2, k3, k_xY1, k_xY2, k_xY3, k_xZ1, k_xZ2, k_xZ3, k_xZ4, k_xZ5, k_xZ6, k_xZ7, k_xZ8, k_xZ9, k_xZa, k_xZb, k_xT1⟩
-- tokL
def xr_75 : qRu := (2, [[(-1, 0), (1, 1)], [(2, 0), (-1, 1)]], [(91, 29, [(1, 1)])], [], [(91, 995, [(1, 0)])], [])
theorem xo_75 : qRok xr_75 := by
  intro ρ M h0 hf hm hI
  have f0 := hf [(-1, 0), (1, 1)] (by decide)
  have f1 := hf [(2, 0), (-1, 1)] (by decide)
  simp only [qD, h0] at f0 f1
  have m0 : M 91 29 = 1 * ρ 1 + 0 := hm (91, 29, [(1, 1)]) (by decide)
  have qxT1 := hI.2.2.2.2.2.2.2.2.2.2.2.2.2.2.2.2.2
  refine ⟨ρ, fun _ _ => rfl, fun f h => ?_, ?_⟩
  · exact nomatch h
  · show sI (sU M 91 995 (1 * ρ 0 + 0))
    obtain ⟨W, hW⟩ : ∃ W, W = (sU M 91 995 (1 * ρ 0 + 0)) := ⟨_, rfl⟩
    rw [← hW]
    have base : sI0 W := by
      rw [hW]
      exact (si_u0 hI.1 (fun r hr => by cases hr))
    have k2 : XI2 W := by
      rw [hW]
      exact (xi2_u rfl hI.2.1)
    have k3 : XI3 W := by
      rw [hW]
      exact (xi3_u rfl hI.2.2.1)
    have k_xY1 : xY1 W := by
      rw [hW]
      exact (uxY1 rfl hI.2.2.2.1)
    have k_xY2 : xY2 W := by
      rw [hW]
      exact (uxY2 rfl hI.2.2.2.2.1)
    have k_xY3 : xY3 W := by
      rw [hW]
      exact (uxY3 rfl hI.2.2.2.2.2.1)
    have k_xZ1 : xZ1 W := by
      rw [hW]
      exact (uxZ1 rfl hI.2.2.2.2.2.2.1)
    have k_xZ2 : xZ2 W := by
      rw [hW]
      exact (uxZ2 rfl hI.2.2.2.2.2.2.2.1)
    have k_xZ3 : xZ3 W := by
      rw [hW]
      exact (uxZ3 rfl hI.2.2.2.2.2.2.2.2.1)
    have k_xZ4 : xZ4 W := by
      rw [hW]
      exact (uxZ4 rfl hI.2.2.2.2.2.2.2.2.2.1)
    have k_xZ5 : xZ5 W := by
      rw [hW]
      exact (uxZ5 rfl hI.2.2.2.2.2.2.2.2.2.2.1)
    have k_xZ6 : xZ6 W := by
      rw [hW]
      exact (uxZ6 rfl hI.2.2.2.2.2.2.2.2.2.2.2.1)
    have k_xZ7 : xZ7 W := by
      rw [hW]
      exact (uxZ7 rfl hI.2.2.2.2.2.2.2.2.2.2.2.2.1)
    have k_xZ8 : xZ8 W := by
      rw [hW]
      exact (uxZ8 rfl hI.2.2.2.2.2.2.2.2.2.2.2.2.2.1)
    have k_xZ9 : xZ9 W := by
      rw [hW]
      exact (uxZ9 rfl hI.2.2.2.2.2.2.2.2.2.2.2.2.2.2.1)
    have k_xZa : xZa W := by
      rw [hW]
      exact (uxZa rfl hI.2.2.2.2.2.2.2.2.2.2.2.2.2.2.2.1)
    have k_xZb : xZb W := by
      rw [hW]
      exact (uxZb rfl hI.2.2.2.2.2.2.2.2.2.2.2.2.2.2.2.2.1)
    have k_xT1 : xT1 W := by
      have r91_995 : W 91 995 = 1 * ρ 0 + 0 := by rw [hW, sU_at]
      have r91_29 : W 91 29 = M 91 29 := by rw [hW, sU_ne (fun z => by omega)]
      have r91_30 : W 91 30 = M 91 30 := by rw [hW, sU_ne (fun z => by omega)]
      intro h
      rw [r91_29, r91_30]
      exact ⟨fun a => by omega, fun a => by omega⟩
    exact ⟨base, k2, k3, k_xY1, k_xY2, k_xY3, k_xZ1, k_xZ2, k_xZ3, k_xZ4, k_xZ5, k_xZ6, k_xZ7, k_xZ8, k_xZ9, k_xZa, k_xZb, k_xT1⟩
-- tokH
def xr_76 : qRu := (2, [[(-4, 0), (1, 1)]], [(91, 29, [(1, 1)])], [], [(91, 995, [(1, 0)])], [])
theorem xo_76 : qRok xr_76 := by
  intro ρ M h0 hf hm hI
  have f0 := hf [(-4, 0), (1, 1)] (by decide)
  simp only [qD, h0] at f0
  have m0 : M 91 29 = 1 * ρ 1 + 0 := hm (91, 29, [(1, 1)]) (by decide)
  have qxT1 := hI.2.2.2.2.2.2.2.2.2.2.2.2.2.2.2.2.2
  refine ⟨ρ, fun _ _ => rfl, fun f h => ?_, ?_⟩
  · exact nomatch h
  · show sI (sU M 91 995 (1 * ρ 0 + 0))
    obtain ⟨W, hW⟩ : ∃ W, W = (sU M 91 995 (1 * ρ 0 + 0)) := ⟨_, rfl⟩
    rw [← hW]
    have base : sI0 W := by
      rw [hW]
      exact (si_u0 hI.1 (fun r hr => by cases hr))
    have k2 : XI2 W := by
      rw [hW]
      exact (xi2_u rfl hI.2.1)
    have k3 : XI3 W := by
      rw [hW]
      exact (xi3_u rfl hI.2.2.1)
    have k_xY1 : xY1 W := by
      rw [hW]
      exact (uxY1 rfl hI.2.2.2.1)
    have k_xY2 : xY2 W := by
      rw [hW]
      exact (uxY2 rfl hI.2.2.2.2.1)
    have k_xY3 : xY3 W := by
      rw [hW]
      exact (uxY3 rfl hI.2.2.2.2.2.1)
    have k_xZ1 : xZ1 W := by
      rw [hW]
      exact (uxZ1 rfl hI.2.2.2.2.2.2.1)
    have k_xZ2 : xZ2 W := by
      rw [hW]
      exact (uxZ2 rfl hI.2.2.2.2.2.2.2.1)
    have k_xZ3 : xZ3 W := by
      rw [hW]
      exact (uxZ3 rfl hI.2.2.2.2.2.2.2.2.1)
    have k_xZ4 : xZ4 W := by
      rw [hW]
      exact (uxZ4 rfl hI.2.2.2.2.2.2.2.2.2.1)
    have k_xZ5 : xZ5 W := by
      rw [hW]
      exact (uxZ5 rfl hI.2.2.2.2.2.2.2.2.2.2.1)
    have k_xZ6 : xZ6 W := by
      rw [hW]
      exact (uxZ6 rfl hI.2.2.2.2.2.2.2.2.2.2.2.1)
    have k_xZ7 : xZ7 W := by
      rw [hW]
      exact (uxZ7 rfl hI.2.2.2.2.2.2.2.2.2.2.2.2.1)
    have k_xZ8 : xZ8 W := by
      rw [hW]
      exact (uxZ8 rfl hI.2.2.2.2.2.2.2.2.2.2.2.2.2.1)
    have k_xZ9 : xZ9 W := by
      rw [hW]
      exact (uxZ9 rfl hI.2.2.2.2.2.2.2.2.2.2.2.2.2.2.1)
    have k_xZa : xZa W := by
      rw [hW]
      exact (uxZa rfl hI.2.2.2.2.2.2.2.2.2.2.2.2.2.2.2.1)
    have k_xZb : xZb W := by
      rw [hW]
      exact (uxZb rfl hI.2.2.2.2.2.2.2.2.2.2.2.2.2.2.2.2.1)
    have k_xT1 : xT1 W := by
      have r91_995 : W 91 995 = 1 * ρ 0 + 0 := by rw [hW, sU_at]
      have r91_29 : W 91 29 = M 91 29 := by rw [hW, sU_ne (fun z => by omega)]
      have r91_30 : W 91 30 = M 91 30 := by rw [hW, sU_ne (fun z => by omega)]
      intro h
      rw [r91_29, r91_30]
      exact ⟨fun a => by omega, fun a => by omega⟩
    exact ⟨base, k2, k3, k_xY1, k_xY2, k_xY3, k_xZ1, k_xZ2, k_xZ3, k_xZ4, k_xZ5, k_xZ6, k_xZ7, k_xZ8, k_xZ9, k_xZa, k_xZb, k_xT1⟩
-- isW
def xr_77 : qRu := (3, [[(1, 1)], [(-1, 1)]], [(91, 995, [(1, 0)]), (91, 29, [(1, 1)]), (91, 30, [(1, 2)])], [], [], [[(23, 0), (-1, 2)]])
theorem xo_77 : qRok xr_77 := by
  intro ρ M h0 hf hm hI
  have f0 := hf [(1, 1)] (by decide)
  have f1 := hf [(-1, 1)] (by decide)
  simp only [qD, h0] at f0 f1
  have m0 : M 91 995 = 1 * ρ 0 + 0 := hm (91, 995, [(1, 0)]) (by decide)
  have m1 : M 91 29 = 1 * ρ 1 + 0 := hm (91, 29, [(1, 1)]) (by decide)
  have m2 : M 91 30 = 1 * ρ 2 + 0 := hm (91, 30, [(1, 2)]) (by decide)
  simp only [h0] at m0
  have qxT1 := hI.2.2.2.2.2.2.2.2.2.2.2.2.2.2.2.2.2
  have h2 := (qxT1 (by omega)).1 (by omega)
  refine ⟨ρ, fun _ _ => rfl, fun f h => ?_, ?_⟩
  · have h : f ∈ ([[(23, 0), (-1, 2)]] : List qF) := h
    simp only [List.mem_cons, List.not_mem_nil, or_false] at h
    rcases h with rfl
    · show 0 ≤ 23 * ρ 0 + (-1 * ρ 2 + 0)
      (try rw [h0]); omega
  · show sI M
    exact hI
-- isS
def xr_78 : qRu := (3, [[(-3, 0), (1, 1)], [(3, 0), (-1, 1)]], [(91, 995, [(1, 0)]), (91, 29, [(1, 1)]), (91, 30, [(1, 2)])], [], [], [[(258, 0), (-1, 2)]])
theorem xo_78 : qRok xr_78 := by
  intro ρ M h0 hf hm hI
  have f0 := hf [(-3, 0), (1, 1)] (by decide)
  have f1 := hf [(3, 0), (-1, 1)] (by decide)
  simp only [qD, h0] at f0 f1
  have m0 : M 91 995 = 1 * ρ 0 + 0 := hm (91, 995, [(1, 0)]) (by decide)
  have m1 : M 91 29 = 1 * ρ 1 + 0 := hm (91, 29, [(1, 1)]) (by decide)
  have m2 : M 91 30 = 1 * ρ 2 + 0 := hm (91, 30, [(1, 2)]) (by decide)
  simp only [h0] at m0
  have qxT1 := hI.2.2.2.2.2.2.2.2.2.2.2.2.2.2.2.2.2
  have h2 := (qxT1 (by omega)).2 (by omega)
  refine ⟨ρ, fun _ _ => rfl, fun f h => ?_, ?_⟩
  · have h : f ∈ ([[(258, 0), (-1, 2)]] : List qF) := h
    simp only [List.mem_cons, List.not_mem_nil, or_false] at h
    rcases h with rfl
    · show 0 ≤ 258 * ρ 0 + (-1 * ρ 2 + 0)
      (try rw [h0]); omega
  · show sI M
    exact hI
def qRT : List qRu := [xr_1, xr_2, xr_3, xr_4, xr_5, xr_6, xr_7, xr_8, xr_9, xr_10, xr_11, xr_12, xr_13, xr_14, xr_15, xr_16, xr_17, xr_18, xr_19, xr_20, xr_21, xr_22, xr_23, xr_24, xr_25, xr_26, xr_27, xr_28, xr_29, xr_30, xr_31, xr_32, xr_33, xr_34, xr_35, xr_36, xr_37, xr_38, xr_39, xr_40, xr_41, xr_42, xr_43, xr_44, xr_45, xr_46, xr_47, xr_48, xr_49, xr_50, xr_51, xr_52, xr_53, xr_54, xr_55, xr_56, xr_57, xr_58, xr_59, xr_60, xr_61, xr_62, xr_63, xr_64, xr_65, xr_66, xr_67, xr_68, xr_69, xr_70, xr_71, xr_72, xr_73, xr_74, xr_75, xr_76, xr_77, xr_78]
theorem zr_n : ∀ r ∈ ([] : List qRu), qRok r := fun _ h => nomatch h
theorem zr_c {r : qRu} {l : List qRu} (h : qRok r) (t : ∀ r ∈ l, qRok r) : ∀ d ∈ r :: l, qRok d := fun d hd => (List.mem_cons.mp hd).elim (fun e => e ▸ h) (t d)
theorem qrt_ok : ∀ r ∈ qRT, qRok r := (zr_c xo_1 (zr_c xo_2 (zr_c xo_3 (zr_c xo_4 (zr_c xo_5 (zr_c xo_6 (zr_c xo_7 (zr_c xo_8 (zr_c xo_9 (zr_c xo_10 (zr_c xo_11 (zr_c xo_12 (zr_c xo_13 (zr_c xo_14 (zr_c xo_15 (zr_c xo_16 (zr_c xo_17 (zr_c xo_18 (zr_c xo_19 (zr_c xo_20 (zr_c xo_21 (zr_c xo_22 (zr_c xo_23 (zr_c xo_24 (zr_c xo_25 (zr_c xo_26 (zr_c xo_27 (zr_c xo_28 (zr_c xo_29 (zr_c xo_30 (zr_c xo_31 (zr_c xo_32 (zr_c xo_33 (zr_c xo_34 (zr_c xo_35 (zr_c xo_36 (zr_c xo_37 (zr_c xo_38 (zr_c xo_39 (zr_c xo_40 (zr_c xo_41 (zr_c xo_42 (zr_c xo_43 (zr_c xo_44 (zr_c xo_45 (zr_c xo_46 (zr_c xo_47 (zr_c xo_48 (zr_c xo_49 (zr_c xo_50 (zr_c xo_51 (zr_c xo_52 (zr_c xo_53 (zr_c xo_54 (zr_c xo_55 (zr_c xo_56 (zr_c xo_57 (zr_c xo_58 (zr_c xo_59 (zr_c xo_60 (zr_c xo_61 (zr_c xo_62 (zr_c xo_63 (zr_c xo_64 (zr_c xo_65 (zr_c xo_66 (zr_c xo_67 (zr_c xo_68 (zr_c xo_69 (zr_c xo_70 (zr_c xo_71 (zr_c xo_72 (zr_c xo_73 (zr_c xo_74 (zr_c xo_75 (zr_c xo_76 (zr_c xo_77 (zr_c xo_78 zr_n))))))))))))))))))))))))))))))))))))))))))))))))))))))))))))))))))))))))))))))

