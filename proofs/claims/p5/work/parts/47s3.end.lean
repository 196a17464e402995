/-! A row that ends: the class's reader writes what came out, the reference's is held against it. -/
def tNe (r : tRow) : List Nat := ((tNs r).filter (fun a => Nat.blt 0 a && Nat.blt a 33) ++ cond (Nat.beq r.2.2.1 2) [27] [8, 5, 6, 7]).eraseDups
def tEe (r : tRow) : qMm := (4, 100, [(1, 37)]) :: (tNe r).map (fun a => (3, 19 + a, [(1, a)]))
def tE3 : qMm := [(4, 104, [(1, 5)]), (4, 314, [(1, 5)]), (4, 105, [(1, 6)]), (4, 106, [(1, 7)]), (4, 311, [(999, 0)])]
def tR1 (r : tRow) : qRu := (38, [(-1, 0), (1, 37)] :: [(1, 0), (-1, 37)] :: r.1, tEe r ++ cond (Nat.beq r.2.2.1 2) [] ((4, 103, [(1, 33)]) :: tE3), [], cond (Nat.beq r.2.2.1 2) [(4, 200, [(1, 0)]), (4, 201, [((r.2.2.2 : Int), 0)]), (4, 202, [(1, 27)]), (4, 203, []), (4, 204, []), (4, 205, []), (4, 206, []), (4, 306, [(1, 0)]), (4, 303, []), (4, 100, [])] [(4, 200, [(1, 0)]), (4, 201, []), (4, 202, [(-1, 0)]), (4, 203, [(1, 8)]), (4, 204, [(1, 5)]), (4, 205, [(1, 6)]), (4, 206, [(1, 7)]), (4, 306, [(1, 0)]), (4, 302, [(1, 33)]), (4, 303, []), (4, 100, [])], [])
def tG3 : qMm := (4, 303, [(1, 0)]) :: (4, 301, []) :: ((List.range 15).map (fun a => (4, 330 + a, ([] : qF))) ++ [(4, 100, [])])
def tR2 (r : tRow) : qRu := (45, [(-2, 0), (1, 37)] :: [(2, 0), (-1, 37)] :: r.1, tEe r ++ ([(4, 200, [(1, 0)]), (4, 201, [(1, 39)]), (4, 202, [(1, 40)]), (4, 203, [(1, 41)]), (4, 204, [(1, 42)]), (4, 205, [(1, 43)]), (4, 206, [(1, 44)])] ++ cond (Nat.beq r.2.2.1 2) [(4, 303, [])] ((4, 306, [(1, 0)]) :: tE3)), [], cond (Nat.beq r.2.2.1 2) [(4, 100, [])] tG3, cond (Nat.beq r.2.2.1 2) [[(1, 39), (-(r.2.2.2 : Int), 0)], [(-1, 39), ((r.2.2.2 : Int), 0)], [(1, 40), (-1, 27)], [(-1, 40), (1, 27)]] [[(1, 39)], [(-1, 39)], [(1, 40), (1, 0)], [(-1, 40), (-1, 0)], [(1, 41), (-1, 8)], [(-1, 41), (1, 8)], [(1, 42), (-1, 5)], [(-1, 42), (1, 5)], [(1, 43), (-1, 6)], [(-1, 43), (1, 6)], [(1, 44), (-1, 7)], [(-1, 44), (1, 7)]])
def tFie (r : tRow) : Bool := (tNs r).all (fun a => Nat.blt a 33) && (Nat.beq r.2.2.1 2 || Nat.beq r.2.2.1 3)
theorem tfie_all : (tTab.filter (fun r => Nat.ble 2 r.2.2.1)).all tFie = true := by decide +kernel
section ROWE
variable {r : tRow} {ρ : Nat → Int} {M : sM}
theorem tre_eq (hr : tFie r = true) (h0 : ρ 0 = 1) (hm : ∀ q ∈ tEe r, M q.1 (zIx ρ q.2.1) = qD ρ q.2.2) : (∀ a ∈ tNs r, tRho (tCf M) a = ρ a) ∧ (∀ a ∈ tNe r, a < 33 → 0 < a → tCf M (a - 1) = ρ a) ∧ M 4 100 = ρ 37 := by
  have hreg : ∀ b, b ∈ tNe r → b < 33 → 0 < b → tCf M (b - 1) = ρ b := fun b hb hb1 hb2 => by
    have h : M 3 (zIx ρ (19 + b)) = 1 * ρ b + 0 := hm (3, 19 + b, [(1, b)]) (List.mem_cons_of_mem _ (List.mem_map.mpr ⟨b, hb, rfl⟩))
    rw [zix_lt (by omega)] at h
    show (if b - 1 < 70 then M 3 (20 + (b - 1)) else 0) = ρ b
    rw [if_pos (by omega), show 20 + (b - 1) = 19 + b by omega, h]
    omega
  refine ⟨fun a ha => ?_, hreg, ?_⟩
  · unfold tFie at hr
    rw [Bool.and_eq_true] at hr
    have hlt := zblt (List.all_eq_true.mp hr.1 a ha)
    by_cases ha0 : a = 0
    · rw [ha0, h0]; rfl
    unfold tRho
    rw [if_neg ha0, if_neg (by omega), if_neg (by omega), if_neg (by omega), if_neg (by omega)]
    refine hreg a ?_ hlt (by omega)
    unfold tNe
    rw [List.mem_eraseDups]
    refine List.mem_append_left _ (List.mem_filter.mpr ⟨ha, ?_⟩)
    rw [Bool.and_eq_true]
    exact ⟨Nat.ble_eq_true_of_le (by omega), Nat.ble_eq_true_of_le (by omega)⟩
  · have h : M 4 (zIx ρ 100) = 1 * ρ 37 + 0 := hm (4, 100, [(1, 37)]) List.mem_cons_self
    rw [zix_lt (by omega)] at h
    omega
theorem tfin_of (hr : r ∈ tTab) (hk : 2 ≤ r.2.2.1) (hρ : ∀ a ∈ tNs r, tRho (tCf M) a = ρ a) (hf : ∀ f ∈ r.1, 0 ≤ qD ρ f) (hI : sI M) (hrun : M 4 100 ≠ 0) : tFn (M 92) (M 4 101).toNat (M 4 207) (M 4 208) (tVo (tCf M) r) := by
  refine ⟨tCf M, gx_xS3 hI hrun, r, hr, hk, fun f hf' => ?_, rfl⟩
  rw [qd_cg (σ := ρ) (fun q hq => hρ q.2 (by
    unfold tNs
    exact List.mem_append_left _ (List.mem_flatMap.mpr ⟨f, hf', List.mem_map.mpr ⟨q, hq, rfl⟩⟩)))]
  exact hf f hf'
/-- the data of a text that is taken -/
theorem tfd_of (hr : r ∈ tTab) (hk : 2 ≤ r.2.2.1) (hρ : ∀ a ∈ tNs r, tRho (tCf M) a = ρ a) (hf : ∀ f ∈ r.1, 0 ≤ qD ρ f) (hI : sI M) (hrun : M 4 100 ≠ 0) (h1 : M 4 314 = M 4 104) (h2 : M 4 311 = 999) : ∃ d, tFd (M 92) (M 4 101).toNat (M 4 207) (M 4 208) d ∧ ∀ i, i < 116 → dTi (M 4 104) (M 4 104) (M 4 105) (M 4 106) i → dRn M i = d i := by
  obtain ⟨d, d1, _, d3⟩ := gx_xD3 hI hrun
  refine ⟨d, ⟨tCf M, d1, r, hr, hk, fun f hf' => ?_⟩, fun i hi ht => d3 i hi (by rw [h1]; exact ht) (by omega)⟩
  rw [qd_cg (σ := ρ) (fun q hq => hρ q.2 (by
    unfold tNs
    exact List.mem_append_left _ (List.mem_flatMap.mpr ⟨f, hf', List.mem_map.mpr ⟨q, hq, rfl⟩⟩)))]
  exact hf f hf'
/-- only these places of cell 4 change: the run is off -/
def dOk (k : Nat) : Bool := Nat.beq k 100 || ((Nat.ble 200 k && Nat.ble k 206) || ((Nat.ble 301 k && Nat.ble k 303) || (Nat.beq k 306 || (Nat.ble 330 k && Nat.ble k 344))))
def dOl : List Nat := 100 :: ((List.range 7).map (fun a => 200 + a) ++ ((List.range 3).map (fun a => 301 + a) ++ (306 :: (List.range 15).map (fun a => 330 + a))))
theorem dok_l {k : Nat} (h : dOk k = true) : k ∈ dOl := by
  unfold dOk at h
  rw [Bool.or_eq_true, Bool.or_eq_true, Bool.or_eq_true, Bool.or_eq_true, Bool.and_eq_true, Bool.and_eq_true, Bool.and_eq_true] at h
  unfold dOl
  rcases h with h | h | h | h | h
  · rw [Nat.eq_of_beq_eq_true h]; exact List.mem_cons_self
  · have a := Nat.le_of_ble_eq_true h.1
    have b := Nat.le_of_ble_eq_true h.2
    exact List.mem_cons_of_mem _ (List.mem_append_left _ (List.mem_map.mpr ⟨k - 200, List.mem_range.mpr (by omega), by omega⟩))
  · have a := Nat.le_of_ble_eq_true h.1
    have b := Nat.le_of_ble_eq_true h.2
    exact List.mem_cons_of_mem _ (List.mem_append_right _ (List.mem_append_left _ (List.mem_map.mpr ⟨k - 301, List.mem_range.mpr (by omega), by omega⟩)))
  · rw [Nat.eq_of_beq_eq_true h]; exact List.mem_cons_of_mem _ (List.mem_append_right _ (List.mem_append_right _ List.mem_cons_self))
  · have a := Nat.le_of_ble_eq_true h.1
    have b := Nat.le_of_ble_eq_true h.2
    exact List.mem_cons_of_mem _ (List.mem_append_right _ (List.mem_append_right _ (List.mem_cons_of_mem _ (List.mem_map.mpr ⟨k - 330, List.mem_range.mpr (by omega), by omega⟩))))
theorem si_off {M M' : sM} (hI : sI M) (h : ∀ o k, ¬ (o = 4 ∧ dOk k = true) → M' o k = M o k) (h0 : M' 4 100 = 0) (h7 : xS7 M') (hV : xDV M') (hP : xDP M') (hE : xDE M') : sI M' := by
  have hk : ∀ {z : sSt}, dOl.all (fun k => !(sIn z 4 k)) = true → ∀ o k, sIn z o k = true → M' o k = M o k := fun {z} a o k hz => by
    refine h o k (fun e => ?_)
    have := List.all_eq_true.mp a k (dok_l e.2)
    rw [e.1] at hz
    rw [hz] at this
    cases this
  refine si_34 hI (fun o k h1 h2 => h o k (by omega)) ⟨?_, ?_, ?_, ?_, ?_, ?_, h7, ?_, ?_, ?_, ?_, ?_, ?_, ?_, ?_, ?_, ?_, ?_, ?_, ?_, ?_, ?_, ?_, hV, hP, hE, ?_, ?_, ?_, ?_, ?_⟩
  · intro h; exact absurd h0 h
  · intro h; exact absurd h0 h
  · intro h; exact absurd h0 h
  · intro h; rw [h0] at h; exact absurd h (by decide)
  · intro h; rw [h0] at h; exact absurd h (by decide)
  · exact cxS6 (hk rfl) (gx_xS6 hI)
  · exact cxS8 (hk rfl) (gx_xS8 hI)
  · exact cxS9 (hk rfl) (gx_xS9 hI)
  · exact cxSA (hk rfl) (gx_xSA hI)
  · exact cxSG (hk rfl) (gx_xSG hI)
  · exact cxSF (hk rfl) (gx_xSF hI)
  · exact cxSB (hk rfl) (gx_xSB hI)
  · exact cxSC (hk rfl) (gx_xSC hI)
  · exact cxSD (hk rfl) (gx_xSD hI)
  · exact cxSE (hk rfl) (gx_xSE hI)
  · exact cxSW (hk rfl) (gx_xSW hI)
  · exact cxST (hk rfl) (gx_xST hI)
  · exact cxSP (hk rfl) (gx_xSP hI)
  · exact cxSL (hk rfl) (gx_xSL hI)
  · exact cxSM (hk rfl) (gx_xSM hI)
  · exact cxSI (hk rfl) (gx_xSI hI)
  · intro h; exact absurd h0 h
  · exact cxQ5 (hk rfl) (gx_xQ5 hI)
  · exact cxQL (hk rfl) (gx_xQL hI)
  · exact cxQW (hk rfl) (gx_xQW hI)
  · exact cxQM (hk rfl) (gx_xQM hI)
  · exact cxQH (hk rfl) (gx_xQH hI)
/-- data places by places beside the cells 3 and 4 -/
theorem dcl_34 {M M' : sM} (ha : ∀ o k, o ≠ 3 → o ≠ 4 → M' o k = M o k) (r : Int) (i : Nat) : dCl M' r i = dCl M r i := dcl_c (fun o k hz => ha o k (fun e => by subst e; rw [sinc_ok (S := zDC) rfl] at hz; cases hz) (fun e => by subst e; rw [sinc_ok (S := zDC) rfl] at hz; cases hz)) r i
theorem dru_34 {M M' : sM} (ha : ∀ o k, o ≠ 3 → o ≠ 4 → M' o k = M o k) (i : Nat) : dRu M' i = dRu M i := dru_c (fun o k hz => ha o k (fun e => by subst e; rw [sinc_ok (S := zDU) rfl] at hz; cases hz) (fun e => by subst e; rw [sinc_ok (S := zDU) rfl] at hz; cases hz)) i
theorem targ_all : tTab.all (fun r => !(Nat.beq r.2.2.1 2) || Nat.blt 0 r.2.2.2) = true := by decide +kernel
theorem de_off {M M' : sM} (hI : sI M) (h : ∀ o k, ¬ (o = 4 ∧ dOk k = true) → M' o k = M o k) (e : M' 4 301 = M 4 301) : xDE M' := cxDE (fun o k hz => by
  by_cases c : o = 4 ∧ dOk k = true
  · obtain ⟨rfl, c2⟩ := c
    have hb : dOl.all (fun k => Nat.beq k 301 || !(sIn zxDE 4 k)) = true := by decide +kernel
    have := List.all_eq_true.mp hb k (dok_l c2)
    rw [Bool.or_eq_true] at this
    rcases this with t | t
    · rw [Nat.eq_of_beq_eq_true t]; exact e
    · rw [hz] at t; cases t
  · exact h o k c) (gx_xDE hI)
theorem tend1_ok (hr : r ∈ tTab) (hk : 2 ≤ r.2.2.1) : qRok (tR1 r) := by
  intro ρ M h0 hf hm hI
  have hfit := List.all_eq_true.mp tfie_all r (List.mem_filter.mpr ⟨hr, Nat.ble_eq_true_of_le hk⟩)
  have hm : ∀ q ∈ tEe r ++ cond (Nat.beq r.2.2.1 2) [] ((4, 103, [((1 : Int), 33)]) :: tE3), M q.1 (zIx ρ q.2.1) = qD ρ q.2.2 := hm
  obtain ⟨hρ, hreg, e100⟩ := tre_eq hfit h0 (fun q hq => hm q (List.mem_append_left _ hq))
  have f1 := hf [(-1, 0), (1, 37)] List.mem_cons_self
  have f2 := hf [(1, 0), (-1, 37)] (List.mem_cons_of_mem _ List.mem_cons_self)
  simp only [qD, h0] at f1 f2
  have hfr : ∀ f ∈ r.1, 0 ≤ qD ρ f := fun f hf' => hf f (List.mem_cons_of_mem _ (List.mem_cons_of_mem _ hf'))
  have hfin := tfin_of hr hk hρ hfr hI (by omega)
  refine ⟨ρ, fun _ _ => rfl, fun f h => absurd h List.not_mem_nil, ?_⟩
  have hk2 : r.2.2.1 = 2 ∨ r.2.2.1 = 3 := by
    unfold tFie at hfit
    rw [Bool.and_eq_true, Bool.or_eq_true] at hfit
    rcases hfit.2 with h | h
    · exact Or.inl (Nat.eq_of_beq_eq_true h)
    · exact Or.inr (Nat.eq_of_beq_eq_true h)
  rcases hk2 with hk2 | hk2
  · obtain ⟨M', hM'⟩ : ∃ M' : sM, M' = gU ρ [(4, 200, [(1, 0)]), (4, 201, [((r.2.2.2 : Int), 0)]), (4, 202, [(1, 27)]), (4, 203, []), (4, 204, []), (4, 205, []), (4, 206, []), (4, 306, [(1, 0)]), (4, 303, []), (4, 100, [])] M := ⟨_, rfl⟩
    show sI (gU ρ (cond (Nat.beq r.2.2.1 2) _ _) M)
    rw [hk2]
    show sI (gU ρ [(4, 200, [(1, 0)]), (4, 201, [((r.2.2.2 : Int), 0)]), (4, 202, [(1, 27)]), (4, 203, []), (4, 204, []), (4, 205, []), (4, 206, []), (4, 306, [(1, 0)]), (4, 303, []), (4, 100, [])] M)
    rw [← hM']
    have hdp : gDp [(4, 200, [(1, 0)]), (4, 201, [((r.2.2.2 : Int), 0)]), (4, 202, [(1, 27)]), (4, 203, []), (4, 204, []), (4, 205, []), (4, 206, []), (4, 306, [(1, 0)]), (4, 303, []), (4, 100, [])] = true := rfl
    have hat : ∀ q ∈ ([(4, 200, [(1, 0)]), (4, 201, [((r.2.2.2 : Int), 0)]), (4, 202, [(1, 27)]), (4, 203, []), (4, 204, []), (4, 205, []), (4, 206, []), (4, 306, [(1, 0)]), (4, 303, []), (4, 100, [])] : qMm), M' q.1 q.2.1 = qD ρ q.2.2 := fun q hq => by rw [hM']; exact gu_at hdp hq
    have hne : ∀ o k, ¬ (o = 4 ∧ dOk k = true) → M' o k = M o k := fun o k hn => by
      rw [hM']
      refine gu_ne (fun q hq z => hn ?_)
      simp only [List.mem_cons, List.not_mem_nil, or_false] at hq
      rcases hq with rfl | rfl | rfl | rfl | rfl | rfl | rfl | rfl | rfl | rfl <;> exact ⟨z.1.symm, by rw [← z.2]; rfl⟩
    have n4 : ∀ k, dOk k = false → M' 4 k = M 4 k := fun k hk => hne 4 k (fun z => by rw [hk] at z; cases z.2)
    have z100 : M' 4 100 = 0 := hat (4, 100, []) (by simp)
    have z303 : M' 4 303 = 0 := hat (4, 303, []) (by simp)
    have v201 : M' 4 201 = (r.2.2.2 : Int) * ρ 0 + 0 := hat (4, 201, [((r.2.2.2 : Int), 0)]) (by simp)
    have harg : 0 < r.2.2.2 := by
      have h := List.all_eq_true.mp targ_all r hr
      rw [hk2] at h
      exact zblt h
    refine si_off hI hne z100 ?_ (fun _ h => by rw [v201, h0] at h; omega) (fun _ h => by rw [z303] at h; cases h) ?_
    · intro _
      have h26 : tCf M 26 = ρ 27 := hreg 27 (by unfold tNe; rw [List.mem_eraseDups, hk2]; exact List.mem_append_right _ (List.mem_singleton.mpr rfl)) (by omega) (by omega)
      have ev : tVo (tCf M) r = ((r.2.2.2 : Int) * ρ 0 + 0, 1 * ρ 27 + 0, 0, 0, 0, 0) := by
        unfold tVo
        rw [if_pos hk2, h26, h0]
        simp
      rw [ev] at hfin
      rw [show M' 4 201 = (r.2.2.2 : Int) * ρ 0 + 0 from hat (4, 201, [((r.2.2.2 : Int), 0)]) (by simp), show M' 4 202 = 1 * ρ 27 + 0 from hat (4, 202, [(1, 27)]) (by simp), show M' 4 203 = 0 from hat (4, 203, []) (by simp), show M' 4 204 = 0 from hat (4, 204, []) (by simp), show M' 4 205 = 0 from hat (4, 205, []) (by simp), show M' 4 206 = 0 from hat (4, 206, []) (by simp), n4 101 rfl, n4 207 rfl, n4 208 rfl, show M' 92 = M 92 from funext fun k => hne 92 k (by omega)]
      exact hfin
    · exact de_off hI hne (by
        rw [hM']
        refine gu_ne (fun q hq z => ?_)
        simp only [List.mem_cons, List.not_mem_nil, or_false] at hq
        rcases hq with rfl | rfl | rfl | rfl | rfl | rfl | rfl | rfl | rfl | rfl <;> exact absurd z.2 (by decide))
  · obtain ⟨L, hL⟩ : ∃ L : qMm, L = [(4, 200, [(1, 0)]), (4, 201, []), (4, 202, [(-1, 0)]), (4, 203, [(1, 8)]), (4, 204, [(1, 5)]), (4, 205, [(1, 6)]), (4, 206, [(1, 7)]), (4, 306, [(1, 0)]), (4, 302, [(1, 33)]), (4, 303, []), (4, 100, [])] := ⟨_, rfl⟩
    obtain ⟨M', hM'⟩ : ∃ M' : sM, M' = gU ρ L M := ⟨_, rfl⟩
    rw [hk2] at hm
    have hm3 : ∀ q ∈ ((4, 103, [((1 : Int), 33)]) :: tE3 : qMm), M q.1 (zIx ρ q.2.1) = qD ρ q.2.2 := fun q hq => hm q (List.mem_append_right _ hq)
    have m103 : M 4 103 = 1 * ρ 33 + 0 := hm3 (4, 103, [(1, 33)]) List.mem_cons_self
    have m104 : M 4 104 = 1 * ρ 5 + 0 := hm3 (4, 104, [(1, 5)]) (by unfold tE3; simp)
    have m314 : M 4 314 = 1 * ρ 5 + 0 := hm3 (4, 314, [(1, 5)]) (by unfold tE3; simp)
    have m105 : M 4 105 = 1 * ρ 6 + 0 := hm3 (4, 105, [(1, 6)]) (by unfold tE3; simp)
    have m106 : M 4 106 = 1 * ρ 7 + 0 := hm3 (4, 106, [(1, 7)]) (by unfold tE3; simp)
    have m311 : M 4 311 = 999 * ρ 0 + 0 := hm3 (4, 311, [(999, 0)]) (by unfold tE3; simp)
    rw [h0] at m311
    obtain ⟨d, t1, t2⟩ := tfd_of hr hk hρ hfr hI (by omega) (by omega) (by omega)
    show sI (gU ρ (cond (Nat.beq r.2.2.1 2) _ _) M)
    rw [hk2]
    show sI (gU ρ [(4, 200, [(1, 0)]), (4, 201, []), (4, 202, [(-1, 0)]), (4, 203, [(1, 8)]), (4, 204, [(1, 5)]), (4, 205, [(1, 6)]), (4, 206, [(1, 7)]), (4, 306, [(1, 0)]), (4, 302, [(1, 33)]), (4, 303, []), (4, 100, [])] M)
    rw [← hL, ← hM']
    have hdp : gDp L = true := by rw [hL]; rfl
    have hat : ∀ q ∈ L, M' q.1 q.2.1 = qD ρ q.2.2 := fun q hq => by rw [hM']; exact gu_at hdp hq
    have hne : ∀ o k, ¬ (o = 4 ∧ dOk k = true) → M' o k = M o k := fun o k hn => by
      rw [hM']
      refine gu_ne (fun q hq z => hn ?_)
      rw [hL] at hq
      simp only [List.mem_cons, List.not_mem_nil, or_false] at hq
      rcases hq with rfl | rfl | rfl | rfl | rfl | rfl | rfl | rfl | rfl | rfl | rfl <;> exact ⟨z.1.symm, by rw [← z.2]; rfl⟩
    have n4 : ∀ k, dOk k = false → M' 4 k = M 4 k := fun k hk => hne 4 k (fun z => by rw [hk] at z; cases z.2)
    have e92 : M' 92 = M 92 := funext fun k => hne 92 k (by omega)
    have z100 : M' 4 100 = 0 := hat (4, 100, []) (by rw [hL]; simp)
    have z303 : M' 4 303 = 0 := hat (4, 303, []) (by rw [hL]; simp)
    have v201 : M' 4 201 = 0 := hat (4, 201, []) (by rw [hL]; simp)
    have v202 : M' 4 202 = -1 * ρ 0 + 0 := hat (4, 202, [(-1, 0)]) (by rw [hL]; simp)
    have v203 : M' 4 203 = 1 * ρ 8 + 0 := hat (4, 203, [(1, 8)]) (by rw [hL]; simp)
    have v204 : M' 4 204 = 1 * ρ 5 + 0 := hat (4, 204, [(1, 5)]) (by rw [hL]; simp)
    have v205 : M' 4 205 = 1 * ρ 6 + 0 := hat (4, 205, [(1, 6)]) (by rw [hL]; simp)
    have v206 : M' 4 206 = 1 * ρ 7 + 0 := hat (4, 206, [(1, 7)]) (by rw [hL]; simp)
    have v302 : M' 4 302 = 1 * ρ 33 + 0 := hat (4, 302, [(1, 33)]) (by rw [hL]; simp)
    refine si_off hI hne z100 ?_ ?_ (fun _ h => by rw [z303] at h; cases h) (de_off hI hne (by
        rw [hM']
        refine gu_ne (fun q hq z => ?_)
        rw [hL] at hq
        simp only [List.mem_cons, List.not_mem_nil, or_false] at hq
        rcases hq with rfl | rfl | rfl | rfl | rfl | rfl | rfl | rfl | rfl | rfl | rfl <;> exact absurd z.2 (by decide)))
    · intro _
      have hin : ∀ b, b ∈ [8, 5, 6, 7] → b ∈ tNe r := fun b hb => by
        unfold tNe
        rw [List.mem_eraseDups, hk2]
        exact List.mem_append_right _ hb
      have h7 : tCf M 7 = ρ 8 := hreg 8 (hin _ (by simp)) (by omega) (by omega)
      have h4 : tCf M 4 = ρ 5 := hreg 5 (hin _ (by simp)) (by omega) (by omega)
      have h5 : tCf M 5 = ρ 6 := hreg 6 (hin _ (by simp)) (by omega) (by omega)
      have h6 : tCf M 6 = ρ 7 := hreg 7 (hin _ (by simp)) (by omega) (by omega)
      have ev : tVo (tCf M) r = (0, -1 * ρ 0 + 0, 1 * ρ 8 + 0, 1 * ρ 5 + 0, 1 * ρ 6 + 0, 1 * ρ 7 + 0) := by
        unfold tVo
        rw [if_neg (by omega), h7, h4, h5, h6, h0]
        simp
      rw [ev] at hfin
      rw [v201, v202, v203, v204, v205, v206, n4 101 rfl, n4 207 rfl, n4 208 rfl, e92]
      exact hfin
    · intro _ _
      refine ⟨d, ?_, fun i hi ht => ?_⟩
      · rw [n4 101 rfl, n4 207 rfl, n4 208 rfl, e92]; exact t1
      · rw [v204, v205, v206] at ht
        have t3 := t2 i hi (by rw [m104, m105, m106]; exact ht)
        unfold dRn at t3
        rw [if_neg (by omega), m103] at t3
        rw [dcl_34 (fun o k h3 h4 => hne o k (fun z => h4 z.1)), v302]
        exact t3
theorem tend2_ok (hr : r ∈ tTab) (hk : 2 ≤ r.2.2.1) : qRok (tR2 r) := by
  intro ρ M h0 hf hm hI
  have hfit := List.all_eq_true.mp tfie_all r (List.mem_filter.mpr ⟨hr, Nat.ble_eq_true_of_le hk⟩)
  have hm : ∀ q ∈ tEe r ++ ([(4, 200, [(1, 0)]), (4, 201, [(1, 39)]), (4, 202, [(1, 40)]), (4, 203, [(1, 41)]), (4, 204, [(1, 42)]), (4, 205, [(1, 43)]), (4, 206, [(1, 44)])] ++ cond (Nat.beq r.2.2.1 2) [(4, 303, [])] ((4, 306, [((1 : Int), 0)]) :: tE3)), M q.1 (zIx ρ q.2.1) = qD ρ q.2.2 := hm
  obtain ⟨hρ, hreg, e100⟩ := tre_eq hfit h0 (fun q hq => hm q (List.mem_append_left _ hq))
  have f1 := hf [(-2, 0), (1, 37)] List.mem_cons_self
  have f2 := hf [(2, 0), (-1, 37)] (List.mem_cons_of_mem _ List.mem_cons_self)
  simp only [qD, h0] at f1 f2
  have hfr : ∀ f ∈ r.1, 0 ≤ qD ρ f := fun f hf' => hf f (List.mem_cons_of_mem _ (List.mem_cons_of_mem _ hf'))
  have hel : ∀ k f, (4, k, f) ∈ ([(4, 200, [(1, 0)]), (4, 201, [(1, 39)]), (4, 202, [(1, 40)]), (4, 203, [(1, 41)]), (4, 204, [(1, 42)]), (4, 205, [(1, 43)]), (4, 206, [(1, 44)])] : qMm) → k < 1000 → M 4 k = qD ρ f := fun k f h hk => by
    have h3 : M 4 (zIx ρ k) = qD ρ f := hm _ (List.mem_append_right _ (List.mem_append_left _ h))
    rw [zix_lt hk] at h3
    exact h3
  have m0 := hel 200 [(1, 0)] (by simp) (by omega)
  have m1 := hel 201 [(1, 39)] (by simp) (by omega)
  have m2 := hel 202 [(1, 40)] (by simp) (by omega)
  have m3 := hel 203 [(1, 41)] (by simp) (by omega)
  have m4 := hel 204 [(1, 42)] (by simp) (by omega)
  have m5 := hel 205 [(1, 43)] (by simp) (by omega)
  have m6 := hel 206 [(1, 44)] (by simp) (by omega)
  simp only [qD, h0] at m0 m1 m2 m3 m4 m5 m6
  have hfin := tfin_of hr hk hρ hfr hI (by omega)
  have hone := tfn_one hfin (gx_xS7 hI (by omega))
  have hk2 : r.2.2.1 = 2 ∨ r.2.2.1 = 3 := by
    unfold tFie at hfit
    rw [Bool.and_eq_true, Bool.or_eq_true] at hfit
    rcases hfit.2 with h | h
    · exact Or.inl (Nat.eq_of_beq_eq_true h)
    · exact Or.inr (Nat.eq_of_beq_eq_true h)
  rcases hk2 with hk2 | hk2
  · have h26 : tCf M 26 = ρ 27 := hreg 27 (by unfold tNe; rw [List.mem_eraseDups, hk2]; exact List.mem_append_right _ (List.mem_singleton.mpr rfl)) (by omega) (by omega)
    have ev : tVo (tCf M) r = ((r.2.2.2 : Int), ρ 27, 0, 0, 0, 0) := by
      unfold tVo
      rw [if_pos hk2, h26]
    rw [ev] at hone
    simp only [Prod.mk.injEq] at hone
    obtain ⟨a1, a2, _⟩ := hone
    refine ⟨ρ, fun _ _ => rfl, fun f h => ?_, ?_⟩
    · have h : f ∈ (cond (Nat.beq r.2.2.1 2) [[(1, 39), (-(r.2.2.2 : Int), 0)], [(-1, 39), ((r.2.2.2 : Int), 0)], [(1, 40), (-1, 27)], [(-1, 40), (1, 27)]] _ : List qF) := h
      rw [hk2] at h
      simp only [Nat.beq_refl, cond_true, List.mem_cons, List.not_mem_nil, or_false] at h
      rcases h with rfl | rfl | rfl | rfl
      · show 0 ≤ 1 * ρ 39 + (-(r.2.2.2 : Int) * ρ 0 + 0); rw [h0]; omega
      · show 0 ≤ -1 * ρ 39 + ((r.2.2.2 : Int) * ρ 0 + 0); rw [h0]; omega
      · show 0 ≤ 1 * ρ 40 + (-1 * ρ 27 + 0); omega
      · show 0 ≤ -1 * ρ 40 + (1 * ρ 27 + 0); omega
    · show sI (gU ρ (cond (Nat.beq r.2.2.1 2) _ _) M)
      rw [hk2]
      show sI (sU M 4 100 0)
      rw [hk2] at hm
      have m303 : M 4 (zIx ρ 303) = 0 := hm (4, 303, []) (List.mem_append_right _ (List.mem_append_right _ (List.mem_singleton.mpr rfl)))
      rw [zix_lt (by decide)] at m303
      have hne : ∀ o k, ¬ (o = 4 ∧ k = 100) → sU M 4 100 0 o k = M o k := fun o k hn => sU_ne (fun z => by omega)
      have hz : ∀ {z : sSt}, sIn z 4 100 = false → ∀ o k, sIn z o k = true → sU M 4 100 0 o k = M o k := fun {z} a o k h => hne o k (fun e => by
        obtain ⟨rfl, rfl⟩ := e
        rw [a] at h; cases h)
      refine si_off hI (fun o k hn => hne o k (fun e => hn ⟨e.1, ?_⟩)) (sU_at _ _ _ _) (cxS7 (hz rfl) (gx_xS7 hI)) (cxDV (hz rfl) (gx_xDV hI)) (fun _ h => ?_) (cxDE (hz rfl) (gx_xDE hI))
      · rw [e.2]; rfl
      · rw [hne 4 303 (by omega), m303] at h
        cases h
  · have hin : ∀ b, b ∈ [8, 5, 6, 7] → b ∈ tNe r := fun b hb => by
      unfold tNe
      rw [List.mem_eraseDups, hk2]
      exact List.mem_append_right _ hb
    have h7 : tCf M 7 = ρ 8 := hreg 8 (hin _ (by simp)) (by omega) (by omega)
    have h4 : tCf M 4 = ρ 5 := hreg 5 (hin _ (by simp)) (by omega) (by omega)
    have h5 : tCf M 5 = ρ 6 := hreg 6 (hin _ (by simp)) (by omega) (by omega)
    have h6 : tCf M 6 = ρ 7 := hreg 7 (hin _ (by simp)) (by omega) (by omega)
    have ev : tVo (tCf M) r = (0, -1, ρ 8, ρ 5, ρ 6, ρ 7) := by
      unfold tVo
      rw [if_neg (by omega), h7, h4, h5, h6]
    rw [ev] at hone
    simp only [Prod.mk.injEq] at hone
    obtain ⟨a1, a2, a3, a4, a5, a6⟩ := hone
    rw [hk2] at hm
    have hm3 : ∀ q ∈ ((4, 306, [((1 : Int), 0)]) :: tE3 : qMm), M q.1 (zIx ρ q.2.1) = qD ρ q.2.2 := fun q hq => hm q (List.mem_append_right _ (List.mem_append_right _ hq))
    have m306 : M 4 306 = 1 * ρ 0 + 0 := hm3 (4, 306, [(1, 0)]) List.mem_cons_self
    have m104 : M 4 104 = 1 * ρ 5 + 0 := hm3 (4, 104, [(1, 5)]) (by unfold tE3; simp)
    have m314 : M 4 314 = 1 * ρ 5 + 0 := hm3 (4, 314, [(1, 5)]) (by unfold tE3; simp)
    have m105 : M 4 105 = 1 * ρ 6 + 0 := hm3 (4, 105, [(1, 6)]) (by unfold tE3; simp)
    have m106 : M 4 106 = 1 * ρ 7 + 0 := hm3 (4, 106, [(1, 7)]) (by unfold tE3; simp)
    have m311 : M 4 311 = 999 * ρ 0 + 0 := hm3 (4, 311, [(999, 0)]) (by unfold tE3; simp)
    rw [h0] at m311 m306
    obtain ⟨d, t1, t2⟩ := tfd_of hr hk hρ hfr hI (by omega) (by omega) (by omega)
    obtain ⟨e, u1, u2⟩ := gx_xDV hI (by omega) (by omega)
    have ede := tfd_one t1 u1
    subst ede
    refine ⟨ρ, fun _ _ => rfl, fun f h => ?_, ?_⟩
    · have h : f ∈ (cond (Nat.beq r.2.2.1 2) _ [[(1, 39)], [(-1, 39)], [(1, 40), (1, 0)], [(-1, 40), (-1, 0)], [(1, 41), (-1, 8)], [(-1, 41), (1, 8)], [(1, 42), (-1, 5)], [(-1, 42), (1, 5)], [(1, 43), (-1, 6)], [(-1, 43), (1, 6)], [(1, 44), (-1, 7)], [(-1, 44), (1, 7)]] : List qF) := h
      rw [hk2, show Nat.beq 3 2 = false from rfl, cond_false] at h
      simp only [List.mem_cons, List.not_mem_nil, or_false] at h
      rcases h with rfl | rfl | rfl | rfl | rfl | rfl | rfl | rfl | rfl | rfl | rfl | rfl <;> (simp only [qD, h0]; omega)
    · obtain ⟨M', hM'⟩ : ∃ M' : sM, M' = gU ρ tG3 M := ⟨_, rfl⟩
      show sI (gU ρ (cond (Nat.beq r.2.2.1 2) _ _) M)
      rw [hk2]
      show sI (gU ρ tG3 M)
      rw [← hM']
      have hdp : gDp tG3 = true := by decide +kernel
      have hat : ∀ q ∈ tG3, M' q.1 q.2.1 = qD ρ q.2.2 := fun q hq => by rw [hM']; exact gu_at hdp hq
      have hks : tG3.all (fun q => Nat.beq q.1 4 && (Nat.beq q.2.1 100 || (Nat.beq q.2.1 303 || (Nat.beq q.2.1 301 || (Nat.ble 330 q.2.1 && Nat.ble q.2.1 344))))) = true := by decide +kernel
      have hne : ∀ o k, ¬ (o = 4 ∧ (k = 100 ∨ k = 303 ∨ k = 301 ∨ (330 ≤ k ∧ k ≤ 344))) → M' o k = M o k := fun o k hn => by
        rw [hM']
        refine gu_ne (fun q hq z => hn ?_)
        have h := List.all_eq_true.mp hks q hq
        rw [Bool.and_eq_true, Bool.or_eq_true, Bool.or_eq_true, Bool.or_eq_true, Bool.and_eq_true] at h
        refine ⟨z.1.symm.trans (Nat.eq_of_beq_eq_true h.1), ?_⟩
        rw [← z.2]
        rcases h.2 with h | h | h | h
        · exact Or.inl (Nat.eq_of_beq_eq_true h)
        · exact Or.inr (Or.inl (Nat.eq_of_beq_eq_true h))
        · exact Or.inr (Or.inr (Or.inl (Nat.eq_of_beq_eq_true h)))
        · exact Or.inr (Or.inr (Or.inr ⟨Nat.le_of_ble_eq_true h.1, Nat.le_of_ble_eq_true h.2⟩))
      have hz : ∀ {z : sSt}, (100 :: 303 :: 301 :: (List.range 15).map (fun a => 330 + a)).all (fun k => !(sIn z 4 k)) = true → ∀ o k, sIn z o k = true → M' o k = M o k := fun {z} a o k h => hne o k (fun e => by
        have hm : k ∈ 100 :: 303 :: 301 :: (List.range 15).map (fun a => 330 + a) := by
          rcases e.2 with rfl | rfl | rfl | e2
          · simp
          · simp
          · simp
          · exact List.mem_cons_of_mem _ (List.mem_cons_of_mem _ (List.mem_cons_of_mem _ (List.mem_map.mpr ⟨k - 330, List.mem_range.mpr (by omega), by omega⟩)))
        have := List.all_eq_true.mp a k hm
        rw [e.1] at h
        rw [h] at this
        cases this)
      have n34 : ∀ o k, o ≠ 3 → o ≠ 4 → M' o k = M o k := fun o k _ h4 => hne o k (fun z => h4 z.1)
      have n4 : ∀ k, (200 ≤ k ∧ k ≤ 300) ∨ k = 302 → M' 4 k = M 4 k := fun k hk => hne 4 k (by omega)
      have z100 : M' 4 100 = 0 := hat (4, 100, []) (by unfold tG3; simp)
      have z301 : M' 4 301 = 0 := hat (4, 301, []) (by unfold tG3; simp)
      refine si_off hI (fun o k hn => hne o k (fun e => hn ⟨e.1, ?_⟩)) z100 (cxS7 (hz rfl) (gx_xS7 hI)) (cxDV (hz rfl) (gx_xDV hI)) (fun _ _ => ⟨fun i hi ht => ?_, fun a ha => ?_⟩) (fun h => by rw [z301] at h; cases h)
      · have e2 := e.2
        unfold dOk
        rw [Bool.or_eq_true, Bool.or_eq_true, Bool.or_eq_true, Bool.or_eq_true, Bool.and_eq_true, Bool.and_eq_true, Bool.and_eq_true]
        rcases e2 with rfl | rfl | rfl | e2
        · exact Or.inl rfl
        · exact Or.inr (Or.inr (Or.inl ⟨rfl, rfl⟩))
        · exact Or.inr (Or.inr (Or.inl ⟨rfl, rfl⟩))
        · exact Or.inr (Or.inr (Or.inr (Or.inr ⟨Nat.ble_eq_true_of_le e2.1, Nat.ble_eq_true_of_le e2.2⟩)))
      · rw [n4 204 (by omega), n4 205 (by omega), n4 206 (by omega)] at ht
        rw [n4 302 (by omega), dcl_34 n34, dru_34 n34]
        have q1 := u2 i hi ht
        have q2 := t2 i hi (by
          rw [show M 4 104 = M 4 204 by omega, show M 4 105 = M 4 205 by omega, show M 4 106 = M 4 206 by omega]
          exact ht)
        unfold dRn at q2
        rw [if_pos (by omega)] at q2
        rw [q1, q2]
      · have hz0 : M' 4 (330 + a) = 0 := hat (4, 330 + a, []) (by
          unfold tG3
          exact List.mem_cons_of_mem _ (List.mem_cons_of_mem _ (List.mem_append_left _ (List.mem_map.mpr ⟨a, List.mem_range.mpr ha, rfl⟩))))
        rw [hz0]
        exact ⟨Int.le_refl _, fun j hj => by omega⟩
end ROWE
