/-! A row that ends: the class's reader writes what came out, the reference's is held against it. -/
def tNe (r : tRow) : List Nat := ((tNs r).filter (fun a => Nat.blt 0 a && Nat.blt a 33) ++ cond (Nat.beq r.2.2.1 2) [27] [8, 5, 6, 7]).eraseDups
def tEe (r : tRow) : qMm := (4, 100, [(1, 37)]) :: (tNe r).map (fun a => (3, 19 + a, [(1, a)]))
def tR1 (r : tRow) : qRu := (38, [(-1, 0), (1, 37)] :: [(1, 0), (-1, 37)] :: r.1, tEe r, [], cond (Nat.beq r.2.2.1 2) [(4, 200, [(1, 0)]), (4, 201, [((r.2.2.2 : Int), 0)]), (4, 202, [(1, 27)]), (4, 203, []), (4, 204, []), (4, 205, []), (4, 206, []), (4, 100, [])] [(4, 200, [(1, 0)]), (4, 201, []), (4, 202, [(-1, 0)]), (4, 203, [(1, 8)]), (4, 204, [(1, 5)]), (4, 205, [(1, 6)]), (4, 206, [(1, 7)]), (4, 100, [])], [])
def tR2 (r : tRow) : qRu := (45, [(-2, 0), (1, 37)] :: [(2, 0), (-1, 37)] :: r.1, tEe r ++ [(4, 200, [(1, 0)]), (4, 201, [(1, 39)]), (4, 202, [(1, 40)]), (4, 203, [(1, 41)]), (4, 204, [(1, 42)]), (4, 205, [(1, 43)]), (4, 206, [(1, 44)])], [], [(4, 100, [])], cond (Nat.beq r.2.2.1 2) [[(1, 39), (-(r.2.2.2 : Int), 0)], [(-1, 39), ((r.2.2.2 : Int), 0)], [(1, 40), (-1, 27)], [(-1, 40), (1, 27)]] [[(1, 39)], [(-1, 39)], [(1, 40), (1, 0)], [(-1, 40), (-1, 0)], [(1, 41), (-1, 8)], [(-1, 41), (1, 8)], [(1, 42), (-1, 5)], [(-1, 42), (1, 5)], [(1, 43), (-1, 6)], [(-1, 43), (1, 6)], [(1, 44), (-1, 7)], [(-1, 44), (1, 7)]])
def tFie (r : tRow) : Bool := (tNs r).all (fun a => Nat.blt a 33) && (Nat.beq r.2.2.1 2 || Nat.beq r.2.2.1 3)
theorem tfie_all : (tTab.filter (fun r => Nat.ble 2 r.2.2.1)).all tFie = true := by decide +kernel
section ROWE
variable {r : tRow} {ρ : Nat → Int} {M : sM}
theorem tre_eq (hr : tFie r = true) (h0 : ρ 0 = 1) (hm : ∀ q ∈ tEe r, M q.1 (zIx ρ q.2.1) = qD ρ q.2.2) : (∀ a ∈ tNs r, tRho (tCf M) a = ρ a) ∧ (∀ a ∈ tNe r, a < 33 → 0 < a → tCf M (a - 1) = ρ a) ∧ M 4 100 = ρ 37 := by
  have hreg : ∀ b, b ∈ tNe r → b < 33 → 0 < b → tCf M (b - 1) = ρ b := fun b hb hb1 hb2 => by
    have h : M 3 (zIx ρ (19 + b)) = 1 * ρ b + 0 := hm (3, 19 + b, [(1, b)]) (List.mem_cons_of_mem _ (List.mem_map.mpr ⟨b, hb, rfl⟩))
    rw [zix_lt (by omega)] at h
    show (if b - 1 < 70 then M 3 (20 + (b - 1)) else 0) = ρ b
    rw [if_pos (by omega), show 20 + (b - 1) = 19 + b by omega, h]
    omega
  refine ⟨fun a ha => ?_, hreg, ?_⟩
  · unfold tFie at hr
    rw [Bool.and_eq_true] at hr
    have hlt := zblt (List.all_eq_true.mp hr.1 a ha)
    by_cases ha0 : a = 0
    · rw [ha0, h0]; rfl
    unfold tRho
    rw [if_neg ha0, if_neg (by omega), if_neg (by omega), if_neg (by omega), if_neg (by omega)]
    refine hreg a ?_ hlt (by omega)
    unfold tNe
    rw [List.mem_eraseDups]
    refine List.mem_append_left _ (List.mem_filter.mpr ⟨ha, ?_⟩)
    rw [Bool.and_eq_true]
    exact ⟨Nat.ble_eq_true_of_le (by omega), Nat.ble_eq_true_of_le (by omega)⟩
  · have h : M 4 (zIx ρ 100) = 1 * ρ 37 + 0 := hm (4, 100, [(1, 37)]) List.mem_cons_self
    rw [zix_lt (by omega)] at h
    omega
theorem tfin_of (hr : r ∈ tTab) (hk : 2 ≤ r.2.2.1) (hρ : ∀ a ∈ tNs r, tRho (tCf M) a = ρ a) (hf : ∀ f ∈ r.1, 0 ≤ qD ρ f) (hI : sI M) (hrun : M 4 100 ≠ 0) : tFn (M 92) (M 4 101).toNat (M 4 207) (M 4 208) (tVo (tCf M) r) := by
  refine ⟨tCf M, gx_xS3 hI hrun, r, hr, hk, fun f hf' => ?_, rfl⟩
  rw [qd_cg (σ := ρ) (fun q hq => hρ q.2 (by
    unfold tNs
    exact List.mem_append_left _ (List.mem_flatMap.mpr ⟨f, hf', List.mem_map.mpr ⟨q, hq, rfl⟩⟩)))]
  exact hf f hf'
/-- only the places 100, 200 .. 206 of cell 4 change: the run is off -/
theorem si_off {M M' : sM} (hI : sI M) (h : ∀ o k, ¬ (o = 4 ∧ (k = 100 ∨ (200 ≤ k ∧ k ≤ 206))) → M' o k = M o k) (h0 : M' 4 100 = 0) (h7 : xS7 M') : sI M' := by
  have hk : ∀ {z : sSt}, sIn z 4 100 = false → sIn z 4 200 = false → sIn z 4 201 = false → sIn z 4 202 = false → sIn z 4 203 = false → sIn z 4 204 = false → sIn z 4 205 = false → sIn z 4 206 = false → ∀ o k, sIn z o k = true → M' o k = M o k := fun a0 a1 a2 a3 a4 a5 a6 a7 o k hz => by
    refine h o k (fun e => ?_)
    obtain ⟨rfl, e⟩ := e
    have e2 : k = 100 ∨ k = 200 ∨ k = 201 ∨ k = 202 ∨ k = 203 ∨ k = 204 ∨ k = 205 ∨ k = 206 := by omega
    rcases e2 with rfl | rfl | rfl | rfl | rfl | rfl | rfl | rfl
    · rw [a0] at hz; cases hz
    · rw [a1] at hz; cases hz
    · rw [a2] at hz; cases hz
    · rw [a3] at hz; cases hz
    · rw [a4] at hz; cases hz
    · rw [a5] at hz; cases hz
    · rw [a6] at hz; cases hz
    · rw [a7] at hz; cases hz
  refine si_34 hI (fun o k h1 h2 => h o k (by omega)) ⟨?_, ?_, ?_, ?_, ?_, ?_, h7, ?_, ?_, ?_, ?_, ?_, ?_, ?_, ?_, ?_, ?_, ?_, ?_, ?_, ?_, ?_⟩
  · intro h; exact absurd h0 h
  · intro h; exact absurd h0 h
  · intro h; exact absurd h0 h
  · intro h; rw [h0] at h; exact absurd h (by decide)
  · intro h; rw [h0] at h; exact absurd h (by decide)
  · exact cxS6 (hk rfl rfl rfl rfl rfl rfl rfl rfl) (gx_xS6 hI)
  · exact cxS8 (hk rfl rfl rfl rfl rfl rfl rfl rfl) (gx_xS8 hI)
  · exact cxS9 (hk rfl rfl rfl rfl rfl rfl rfl rfl) (gx_xS9 hI)
  · exact cxSA (hk rfl rfl rfl rfl rfl rfl rfl rfl) (gx_xSA hI)
  · exact cxSG (hk rfl rfl rfl rfl rfl rfl rfl rfl) (gx_xSG hI)
  · exact cxSF (hk rfl rfl rfl rfl rfl rfl rfl rfl) (gx_xSF hI)
  · exact cxSB (hk rfl rfl rfl rfl rfl rfl rfl rfl) (gx_xSB hI)
  · exact cxSC (hk rfl rfl rfl rfl rfl rfl rfl rfl) (gx_xSC hI)
  · exact cxSD (hk rfl rfl rfl rfl rfl rfl rfl rfl) (gx_xSD hI)
  · exact cxSE (hk rfl rfl rfl rfl rfl rfl rfl rfl) (gx_xSE hI)
  · exact cxSW (hk rfl rfl rfl rfl rfl rfl rfl rfl) (gx_xSW hI)
  · exact cxST (hk rfl rfl rfl rfl rfl rfl rfl rfl) (gx_xST hI)
  · exact cxSP (hk rfl rfl rfl rfl rfl rfl rfl rfl) (gx_xSP hI)
  · exact cxSL (hk rfl rfl rfl rfl rfl rfl rfl rfl) (gx_xSL hI)
  · exact cxSM (hk rfl rfl rfl rfl rfl rfl rfl rfl) (gx_xSM hI)
  · exact cxSI (hk rfl rfl rfl rfl rfl rfl rfl rfl) (gx_xSI hI)
theorem tend1_ok (hr : r ∈ tTab) (hk : 2 ≤ r.2.2.1) : qRok (tR1 r) := by
  intro ρ M h0 hf hm hI
  have hfit := List.all_eq_true.mp tfie_all r (List.mem_filter.mpr ⟨hr, Nat.ble_eq_true_of_le hk⟩)
  obtain ⟨hρ, hreg, e100⟩ := tre_eq hfit h0 hm
  have f1 := hf [(-1, 0), (1, 37)] List.mem_cons_self
  have f2 := hf [(1, 0), (-1, 37)] (List.mem_cons_of_mem _ List.mem_cons_self)
  simp only [qD, h0] at f1 f2
  have hfin := tfin_of hr hk hρ (fun f hf' => hf f (List.mem_cons_of_mem _ (List.mem_cons_of_mem _ hf'))) hI (by omega)
  refine ⟨ρ, fun _ _ => rfl, fun f h => absurd h List.not_mem_nil, ?_⟩
  have hk2 : r.2.2.1 = 2 ∨ r.2.2.1 = 3 := by
    unfold tFie at hfit
    rw [Bool.and_eq_true, Bool.or_eq_true] at hfit
    rcases hfit.2 with h | h
    · exact Or.inl (Nat.eq_of_beq_eq_true h)
    · exact Or.inr (Nat.eq_of_beq_eq_true h)
  rcases hk2 with hk2 | hk2
  · show sI (gU ρ (cond (Nat.beq r.2.2.1 2) _ _) M)
    rw [hk2]
    show sI (sU (sU (sU (sU (sU (sU (sU (sU M 4 200 (1 * ρ 0 + 0)) 4 201 ((r.2.2.2 : Int) * ρ 0 + 0)) 4 202 (1 * ρ 27 + 0)) 4 203 0) 4 204 0) 4 205 0) 4 206 0) 4 100 0)
    refine si_off hI (fun o k ho => ?_) (sU_at _ _ _ _) ?_
    · rw [sU_ne (fun z => by omega), sU_ne (fun z => by omega), sU_ne (fun z => by omega), sU_ne (fun z => by omega), sU_ne (fun z => by omega), sU_ne (fun z => by omega), sU_ne (fun z => by omega), sU_ne (fun z => by omega)]
    · intro _
      have e92 : ∀ (k : Nat), sU (sU (sU (sU (sU (sU (sU (sU M 4 200 (1 * ρ 0 + 0)) 4 201 ((r.2.2.2 : Int) * ρ 0 + 0)) 4 202 (1 * ρ 27 + 0)) 4 203 0) 4 204 0) 4 205 0) 4 206 0) 4 100 0 92 k = M 92 k := fun k => by
        rw [sU_ne (fun z => by omega), sU_ne (fun z => by omega), sU_ne (fun z => by omega), sU_ne (fun z => by omega), sU_ne (fun z => by omega), sU_ne (fun z => by omega), sU_ne (fun z => by omega), sU_ne (fun z => by omega)]
      have h26 : tCf M 26 = ρ 27 := hreg 27 (by unfold tNe; rw [List.mem_eraseDups, hk2]; exact List.mem_append_right _ (List.mem_singleton.mpr rfl)) (by omega) (by omega)
      have ev : tVo (tCf M) r = ((r.2.2.2 : Int) * ρ 0 + 0, 1 * ρ 27 + 0, 0, 0, 0, 0) := by
        unfold tVo
        rw [if_pos hk2, h26, h0]
        simp
      rw [ev] at hfin
      rw [funext e92]
      exact hfin
  · show sI (gU ρ (cond (Nat.beq r.2.2.1 2) _ _) M)
    rw [hk2]
    show sI (sU (sU (sU (sU (sU (sU (sU (sU M 4 200 (1 * ρ 0 + 0)) 4 201 0) 4 202 (-1 * ρ 0 + 0)) 4 203 (1 * ρ 8 + 0)) 4 204 (1 * ρ 5 + 0)) 4 205 (1 * ρ 6 + 0)) 4 206 (1 * ρ 7 + 0)) 4 100 0)
    refine si_off hI (fun o k ho => ?_) (sU_at _ _ _ _) ?_
    · rw [sU_ne (fun z => by omega), sU_ne (fun z => by omega), sU_ne (fun z => by omega), sU_ne (fun z => by omega), sU_ne (fun z => by omega), sU_ne (fun z => by omega), sU_ne (fun z => by omega), sU_ne (fun z => by omega)]
    · intro _
      have e92 : ∀ (k : Nat), sU (sU (sU (sU (sU (sU (sU (sU M 4 200 (1 * ρ 0 + 0)) 4 201 0) 4 202 (-1 * ρ 0 + 0)) 4 203 (1 * ρ 8 + 0)) 4 204 (1 * ρ 5 + 0)) 4 205 (1 * ρ 6 + 0)) 4 206 (1 * ρ 7 + 0)) 4 100 0 92 k = M 92 k := fun k => by
        rw [sU_ne (fun z => by omega), sU_ne (fun z => by omega), sU_ne (fun z => by omega), sU_ne (fun z => by omega), sU_ne (fun z => by omega), sU_ne (fun z => by omega), sU_ne (fun z => by omega), sU_ne (fun z => by omega)]
      have hin : ∀ b, b ∈ [8, 5, 6, 7] → b ∈ tNe r := fun b hb => by
        unfold tNe
        rw [List.mem_eraseDups, hk2]
        exact List.mem_append_right _ hb
      have h7 : tCf M 7 = ρ 8 := hreg 8 (hin _ (by simp)) (by omega) (by omega)
      have h4 : tCf M 4 = ρ 5 := hreg 5 (hin _ (by simp)) (by omega) (by omega)
      have h5 : tCf M 5 = ρ 6 := hreg 6 (hin _ (by simp)) (by omega) (by omega)
      have h6 : tCf M 6 = ρ 7 := hreg 7 (hin _ (by simp)) (by omega) (by omega)
      have ev : tVo (tCf M) r = (0, -1 * ρ 0 + 0, 1 * ρ 8 + 0, 1 * ρ 5 + 0, 1 * ρ 6 + 0, 1 * ρ 7 + 0) := by
        unfold tVo
        rw [if_neg (by omega), h7, h4, h5, h6, h0]
        simp
      rw [ev] at hfin
      rw [funext e92]
      exact hfin
theorem tend2_ok (hr : r ∈ tTab) (hk : 2 ≤ r.2.2.1) : qRok (tR2 r) := by
  intro ρ M h0 hf hm hI
  have hfit := List.all_eq_true.mp tfie_all r (List.mem_filter.mpr ⟨hr, Nat.ble_eq_true_of_le hk⟩)
  have hm : ∀ q ∈ tEe r ++ [(4, 200, [(1, 0)]), (4, 201, [(1, 39)]), (4, 202, [(1, 40)]), (4, 203, [(1, 41)]), (4, 204, [(1, 42)]), (4, 205, [(1, 43)]), (4, 206, [(1, 44)])], M q.1 (zIx ρ q.2.1) = qD ρ q.2.2 := hm
  obtain ⟨hρ, hreg, e100⟩ := tre_eq hfit h0 (fun q hq => hm q (List.mem_append_left _ hq))
  have f1 := hf [(-2, 0), (1, 37)] List.mem_cons_self
  have f2 := hf [(2, 0), (-1, 37)] (List.mem_cons_of_mem _ List.mem_cons_self)
  simp only [qD, h0] at f1 f2
  have hel : ∀ k f, (4, k, f) ∈ ([(4, 200, [(1, 0)]), (4, 201, [(1, 39)]), (4, 202, [(1, 40)]), (4, 203, [(1, 41)]), (4, 204, [(1, 42)]), (4, 205, [(1, 43)]), (4, 206, [(1, 44)])] : qMm) → k < 1000 → M 4 k = qD ρ f := fun k f h hk => by
    have h3 : M 4 (zIx ρ k) = qD ρ f := hm _ (List.mem_append_right _ h)
    rw [zix_lt hk] at h3
    exact h3
  have m0 := hel 200 [(1, 0)] (by simp) (by omega)
  have m1 := hel 201 [(1, 39)] (by simp) (by omega)
  have m2 := hel 202 [(1, 40)] (by simp) (by omega)
  have m3 := hel 203 [(1, 41)] (by simp) (by omega)
  have m4 := hel 204 [(1, 42)] (by simp) (by omega)
  have m5 := hel 205 [(1, 43)] (by simp) (by omega)
  have m6 := hel 206 [(1, 44)] (by simp) (by omega)
  simp only [qD, h0] at m0 m1 m2 m3 m4 m5 m6
  have hfin := tfin_of hr hk hρ (fun f hf' => hf f (List.mem_cons_of_mem _ (List.mem_cons_of_mem _ hf'))) hI (by omega)
  have hone := tfn_one hfin (gx_xS7 hI (by omega))
  refine ⟨ρ, fun _ _ => rfl, fun f h => ?_, ?_⟩
  · have hk2 : r.2.2.1 = 2 ∨ r.2.2.1 = 3 := by
      unfold tFie at hfit
      rw [Bool.and_eq_true, Bool.or_eq_true] at hfit
      rcases hfit.2 with h | h
      · exact Or.inl (Nat.eq_of_beq_eq_true h)
      · exact Or.inr (Nat.eq_of_beq_eq_true h)
    rcases hk2 with hk2 | hk2
    · have h26 : tCf M 26 = ρ 27 := hreg 27 (by unfold tNe; rw [List.mem_eraseDups, hk2]; exact List.mem_append_right _ (List.mem_singleton.mpr rfl)) (by omega) (by omega)
      have ev : tVo (tCf M) r = ((r.2.2.2 : Int), ρ 27, 0, 0, 0, 0) := by
        unfold tVo
        rw [if_pos hk2, h26]
      rw [ev] at hone
      simp only [Prod.mk.injEq] at hone
      obtain ⟨a1, a2, _⟩ := hone
      have h : f ∈ (cond (Nat.beq r.2.2.1 2) [[(1, 39), (-(r.2.2.2 : Int), 0)], [(-1, 39), ((r.2.2.2 : Int), 0)], [(1, 40), (-1, 27)], [(-1, 40), (1, 27)]] _ : List qF) := h
      rw [hk2] at h
      simp only [Nat.beq_refl, cond_true, List.mem_cons, List.not_mem_nil, or_false] at h
      rcases h with rfl | rfl | rfl | rfl
      · show 0 ≤ 1 * ρ 39 + (-(r.2.2.2 : Int) * ρ 0 + 0); rw [h0]; omega
      · show 0 ≤ -1 * ρ 39 + ((r.2.2.2 : Int) * ρ 0 + 0); rw [h0]; omega
      · show 0 ≤ 1 * ρ 40 + (-1 * ρ 27 + 0); omega
      · show 0 ≤ -1 * ρ 40 + (1 * ρ 27 + 0); omega
    · have hin : ∀ b, b ∈ [8, 5, 6, 7] → b ∈ tNe r := fun b hb => by
        unfold tNe
        rw [List.mem_eraseDups, hk2]
        exact List.mem_append_right _ hb
      have h7 : tCf M 7 = ρ 8 := hreg 8 (hin _ (by simp)) (by omega) (by omega)
      have h4 : tCf M 4 = ρ 5 := hreg 5 (hin _ (by simp)) (by omega) (by omega)
      have h5 : tCf M 5 = ρ 6 := hreg 6 (hin _ (by simp)) (by omega) (by omega)
      have h6 : tCf M 6 = ρ 7 := hreg 7 (hin _ (by simp)) (by omega) (by omega)
      have ev : tVo (tCf M) r = (0, -1, ρ 8, ρ 5, ρ 6, ρ 7) := by
        unfold tVo
        rw [if_neg (by omega), h7, h4, h5, h6]
      rw [ev] at hone
      simp only [Prod.mk.injEq] at hone
      obtain ⟨a1, a2, a3, a4, a5, a6⟩ := hone
      have h : f ∈ (cond (Nat.beq r.2.2.1 2) _ [[(1, 39)], [(-1, 39)], [(1, 40), (1, 0)], [(-1, 40), (-1, 0)], [(1, 41), (-1, 8)], [(-1, 41), (1, 8)], [(1, 42), (-1, 5)], [(-1, 42), (1, 5)], [(1, 43), (-1, 6)], [(-1, 43), (1, 6)], [(1, 44), (-1, 7)], [(-1, 44), (1, 7)]] : List qF) := h
      rw [hk2, show Nat.beq 3 2 = false from rfl, cond_false] at h
      simp only [List.mem_cons, List.not_mem_nil, or_false] at h
      rcases h with rfl | rfl | rfl | rfl | rfl | rfl | rfl | rfl | rfl | rfl | rfl | rfl <;> (simp only [qD, h0]; omega)
  · show sI (sU M 4 100 0)
    refine si_off hI (fun o k ho => sU_ne (fun z => by omega)) (sU_at _ _ _ _) ?_
    exact cxS7 (fun o k hz => sU_ne (fun z => by rw [z.1, z.2] at hz; exact absurd hz (by decide))) (gx_xS7 hI)
end ROWE
