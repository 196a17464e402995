/-! WRITES of the class at places of the data: U not tied yet, H with the hole, Z when no run is on -/
def dCt (x : Nat) : Nat × Nat := if x < 54 then (if x % 6 < 2 then 104 else 314, x / 6) else if x < 78 then (105, (x - 54) / 4) else (106, (x - 78) / 3)
def dKf (k : Nat) : qF := cond (Nat.beq k 0) [] [((k : Int), 0)]
def dWe (ro : Nat) : qMm := [(4, 306, []), (4, 300, [((30 - ro : Nat) : Int), 0)])]
def dWu (ro x c k : Nat) (fr : List qF) : qRu := (3, (cond (Nat.beq (dCt x).2 0) [(-1, 2)] [(((dCt x).2 : Int), 0), (-1, 2)]) :: fr, [(4, 100, [(1, 0)]), (4, 103, [((ro : Int), 0)]), (4, (dCt x).1, [(1, 2)])] ++ dWe ro, [(c, dKf k, [(1, 1)])], [], [])
def dWh (ro x c k : Nat) (fr : List qF) : qRu := (2, fr, [(4, 100, [(1, 0)]), (4, 103, [((ro : Int), 0)]), (4, 311, [(999, 0)])] ++ dWe ro, [(c, dKf k, [(1, 1)])], [(4, 311, [((x : Int), 0)])], [])
def dWz (ro c k : Nat) (fr : List qF) : qRu := (2, fr, [(4, 100, []), (4, 303, [])] ++ dWe ro, [(c, dKf k, [(1, 1)])], [], [])
def dFr (c k : Nat) (fr : List qF) : Prop := ∀ ρ : Nat → Int, ρ 0 = 1 → (∀ f ∈ fr, 0 ≤ qD ρ f) → ∀ r, sRg c k = some r → r.1 ≤ ρ 1 ∧ ρ 1 ≤ r.2
theorem dfr_no {c k : Nat} (h : sRg c k = none) : dFr c k [] := fun _ _ _ r hr => by rw [h] at hr; cases hr
theorem dfr_0 {c k : Nat} {hi : Int} (h : sRg c k = some (0, hi)) : dFr c k [[(1, 1)], [(hi, 0), (-1, 1)]] := fun ρ h0 hf r hr => by
  rw [h] at hr
  cases hr
  have a := hf [(1, 1)] (by simp)
  have b := hf [(hi, 0), (-1, 1)] (by simp)
  simp only [qD, h0] at a b
  exact ⟨by show (0 : Int) ≤ _; omega, by show _ ≤ hi; omega⟩
theorem dfr_1 {c k : Nat} {lo hi : Int} (h : sRg c k = some (lo, hi)) : dFr c k [[(-lo, 0), (1, 1)], [(hi, 0), (-1, 1)]] := fun ρ h0 hf r hr => by
  rw [h] at hr
  cases hr
  have a := hf [(-lo, 0), (1, 1)] (by simp)
  have b := hf [(hi, 0), (-1, 1)] (by simp)
  simp only [qD, h0] at a b
  exact ⟨by show lo ≤ _; omega, by show _ ≤ hi; omega⟩
theorem dct_un {b b2 g s : Int} {x : Nat} (hx : x < 87) (h : (if x < 54 then (if x % 6 < 2 then b else b2) else if x < 78 then g else s) ≤ ((dCt x).2 : Int)) : ¬ dTi b b2 g s x := by
  intro z
  unfold dTi at z
  unfold dCt at h
  by_cases h1 : x < 54
  · rw [if_pos h1, if_pos h1] at h
    have z1 := z.1 h1
    have h : (if x % 6 < 2 then b else b2) ≤ ((x / 6 : Nat) : Int) := h
    omega
  · rw [if_neg h1, if_neg h1] at h
    by_cases h2 : x < 78
    · rw [if_pos h2, if_pos h2] at h
      have z1 := z.2.1 (by omega) h2
      have h : g ≤ (((x - 54) / 4 : Nat) : Int) := h
      omega
    · rw [if_neg h2, if_neg h2] at h
      have z1 := z.2.2 (by omega) hx
      have h : s ≤ (((x - 78) / 3 : Nat) : Int) := h
      omega
theorem dti_1 {b b2 g s : Int} {j : Nat} (h9 : j < 9) (h : (j : Int) < b) : dTi b b2 g s (6 * j) := by
  refine ⟨fun _ => ?_, fun _ _ => by omega, fun _ _ => by omega⟩
  rw [if_pos (by omega), show 6 * j / 6 = j by omega]
  exact h
theorem dti_2 {b b2 g s : Int} {j : Nat} (h9 : j < 6) (h : (j : Int) < g) : dTi b b2 g s (54 + 4 * j) := by
  refine ⟨fun _ => by omega, fun _ _ => ?_, fun _ _ => by omega⟩
  rw [show (54 + 4 * j - 54) / 4 = j by omega]
  exact h
theorem dti_3 {b b2 g s : Int} {j : Nat} (h9 : j < 3) (h : (j : Int) < s) : dTi b b2 g s (78 + 3 * j) := by
  refine ⟨fun _ => by omega, fun _ _ => by omega, fun _ _ => ?_⟩
  rw [show (78 + 3 * j - 78) / 3 = j by omega]
  exact h
theorem dkf_e {ρ : Nat → Int} (h0 : ρ 0 = 1) (k : Nat) : (qD ρ (dKf k)).toNat = k := by
  unfold dKf
  cases k with
  | zero => rfl
  | succ k =>
    show ((((k + 1 : Nat) : Int) * ρ 0 + 0)).toNat = k + 1
    rw [h0]; omega
theorem dbc_z {ro x : Nat} (hro : ro = 2 ∨ ro = 28) (hx : x < 116) : sIn zDC (dBc ro x) (dBk x) = true := by
  have h := List.all_eq_true.mp dbp_z _ (List.mem_of_getElem? (dbp_g hx))
  rw [Bool.and_eq_true] at h
  rcases hro with rfl | rfl
  · exact h.1
  · exact h.2
theorem dbc_b {ro x : Nat} (hro : ro = 2 ∨ ro = 28) (hx : x < 116) : 2 ≤ dBc ro x ∧ dBc ro x ≤ 53 ∧ dBc ro x ≠ 3 ∧ dBc ro x ≠ 4 := by
  have b := dbp_in hx
  have h : (List.range 116).all (fun i => !(Nat.beq (dBp.getD i (0, 0)).1 3) && !(Nat.beq (dBp.getD i (0, 0)).1 4)) = true := by decide +kernel
  have h2 := List.all_eq_true.mp h x (List.mem_range.mpr hx)
  rw [Bool.and_eq_true, Bool.not_eq_true', Bool.not_eq_true'] at h2
  have n3 : (dBp.getD x (0, 0)).1 ≠ 3 := fun e => by rw [e] at h2; exact absurd h2.1 (by decide)
  have n4 : (dBp.getD x (0, 0)).1 ≠ 4 := fun e => by rw [e] at h2; exact absurd h2.2 (by decide)
  unfold dBc
  rcases hro with rfl | rfl
  · show 2 ≤ (dBp.getD x (0, 0)).1 + 0 ∧ (dBp.getD x (0, 0)).1 + 0 ≤ 53 ∧ (dBp.getD x (0, 0)).1 + 0 ≠ 3 ∧ (dBp.getD x (0, 0)).1 + 0 ≠ 4
    omega
  · show 2 ≤ (dBp.getD x (0, 0)).1 + 26 ∧ (dBp.getD x (0, 0)).1 + 26 ≤ 53 ∧ (dBp.getD x (0, 0)).1 + 26 ≠ 3 ∧ (dBp.getD x (0, 0)).1 + 26 ≠ 4
    omega
/-- the memory behind such a write (g: the hole behind it) -/
theorem dw_si {M W : sM} {ro x : Nat} {v : Int} (hro : ro = 2 ∨ ro = 28) (hx : x < 116) (hI : sI M) (hv : ∀ r, sRg (dBc ro x) (dBk x) = some r → r.1 ≤ v ∧ v ≤ r.2) (hW : W = sU M (dBc ro x) (dBk x) v ∨ ∃ g, W = sU (sU M (dBc ro x) (dBk x) v) 4 311 g) (z6 : M 4 306 = 0) (z300 : M 4 300 = 30 - (ro : Int)) (hz : M 4 100 = 0 → M 4 303 = 0) (h4 : M 4 100 = 1 → M 4 103 = ro ∧ (∀ i, i < 116 → dTi (M 4 104) (M 4 314) (M 4 105) (M 4 106) i → (i % 6 = 0 ∧ i < 54 ∨ 54 ≤ i ∧ i < 87 ∨ (i : Int) ≠ W 4 311) → i ≠ x ∧ ((i : Int) ≠ W 4 311 → (i : Int) ≠ M 4 311))) (h2 : M 4 100 = 0 ∨ M 4 100 = 1) : sI W := by
  have b := dbc_b hro hx
  have e4 : ∀ k, k ≠ 311 → W 4 k = M 4 k := fun k hk => by
    rcases hW with e | ⟨g, e⟩
    · rw [e, sU_ne (fun z => b.2.2.2 z.1.symm)]
    · rw [e, sU_ne (fun z => hk z.2), sU_ne (fun z => b.2.2.2 z.1.symm)]
  have ew : ∀ o k, o ≠ 4 → ¬ (o = dBc ro x ∧ k = dBk x) → W o k = M o k := fun o k h h' => by
    rcases hW with e | ⟨g, e⟩
    · rw [e, sU_ne h']
    · rw [e, sU_ne (fun z => h z.1), sU_ne h']
  have e3 : W 3 = M 3 := funext fun k => ew 3 k (by omega) (fun z => b.2.2.1 z.1.symm)
  have e92 : W 92 = M 92 := funext fun k => ew 92 k (by omega) (fun z => by omega)
  have hw : ∀ o k, 2 ≤ o → o ≠ 3 → o ≠ 4 → ¬ (o = dBc ro x ∧ k = dBk x) → W o k = M o k := fun o k _ _ h h' => ew o k h h'
  have hL : ∀ i, dRl W i = dRl M i := fun i => drl_w (fun q hq => by
    have hq2 := List.all_eq_true.mp dlp_z q (List.mem_of_getElem? hq)
    refine ew _ _ (fun e => ?_) (fun e => ?_)
    · rw [e] at hq2; exact absurd hq2 (by rw [sinc_ok (by decide +kernel)]; decide)
    · have hb : dLp.all (fun q => Nat.ble 93 q.1) = true := by decide +kernel
      have := Nat.le_of_ble_eq_true (List.all_eq_true.mp hb q (List.mem_of_getElem? hq))
      omega)
  refine ⟨?_, xi_dA (fun o k hz => ?_) hI.2 ?_ ?_ ?_ ?_ ?_⟩
  · rcases hW with e | ⟨g, e⟩
    · rw [e]; exact si_u0 hI.1 hv
    · rw [e]; exact si_u0 (si_u0 hI.1 hv) (fun r hr => by cases hr)
  · by_cases hc : o = dBc ro x ∧ k = dBk x
    · rw [hc.1, hc.2] at hz
      unfold zDA at hz
      have := dbc_z hro hx
      unfold sIn at hz this
      rw [List.any_append, this] at hz
      cases hz
    · by_cases h4' : o = 4
      · subst h4'
        refine e4 k (fun e => ?_)
        subst e
        exact absurd hz (by decide +kernel)
      · exact ew o k h4' hc
  · intro h
    rw [e4 100 (by omega)] at h
    obtain ⟨hr, ht⟩ := h4 h
    obtain ⟨a1, a2, a3⟩ := gx_xS4 hI h
    rw [e4 103 (by omega), e4 104 (by omega), e4 105 (by omega), e4 106 (by omega), e3]
    refine ⟨fun j hj hjt => ?_, fun j hj hjt => ?_, fun j hj hjt => ?_⟩
    · rw [← a1 j hj hjt, tn1_d hj, tn1_d hj, hr]
      exact dcl_ne hro hx hw (by omega) (ht _ (by omega) (dti_1 hj hjt) (Or.inl ⟨by omega, by omega⟩)).1
    · rw [← a2 j hj hjt, tn2_d hj, tn2_d hj, hr]
      exact dcl_ne hro hx hw (by omega) (ht _ (by omega) (dti_2 hj hjt) (Or.inr (Or.inl ⟨by omega, by omega⟩))).1
    · rw [← a3 j hj hjt, tn3_d hj, tn3_d hj, hr]
      exact dcl_ne hro hx hw (by omega) (ht _ (by omega) (dti_3 hj hjt) (Or.inr (Or.inl ⟨by omega, by omega⟩))).1
  · refine d3_upd (gx_xD3 hI) e3 e92 (fun k hk => e4 k (by omega)) (fun hr i hi hti hh => ?_)
    have h1 : M 4 100 = 1 := by omega
    obtain ⟨hr1, ht⟩ := h4 h1
    obtain ⟨t1, t2⟩ := ht i hi hti (Or.inr (Or.inr hh))
    refine ⟨t2 hh, ?_⟩
    unfold dRn
    rw [e4 100 (by omega), e4 103 (by omega), if_neg (by omega), if_neg (by omega), hr1]
    exact dcl_ne hro hx hw hi t1
  · intro h
    rw [e4 306 (by omega), z6] at h
    cases h
  · intro h h'
    rw [e4 100 (by omega)] at h
    rw [e4 303 (by omega), hz h] at h'
    cases h'
  · intro h i hi ht
    rw [e4 301 (by omega)] at h
    rw [ew 93 0 (by omega) (by omega), ew 93 1 (by omega) (by omega), ew 93 2 (by omega) (by omega)] at ht
    rw [hL, e4 300 (by omega), dcl_ro hro z300 hx hw hi]
    exact gx_xDE hI h i hi ht
theorem dwu_ok {ro x c k : Nat} {fr : List qF} (hro : ro = 2 ∨ ro = 28) (hx : x < 87) (hc : c = dBc ro x) (hk : k = dBk x) (hf : dFr c k fr) : qRok (dWu ro x c k fr) := by
  intro ρ M h0 hfl hm hI
  have hm : ∀ q ∈ [(4, 100, [((1 : Int), 0)]), (4, 103, [((ro : Int), 0)]), (4, (dCt x).1, [((1 : Int), 2)])] ++ dWe ro, M q.1 (zIx ρ q.2.1) = qD ρ q.2.2 := hm
  have m1 : M 4 100 = 1 * ρ 0 + 0 := hm (4, 100, [(1, 0)]) (by simp)
  have m2 : M 4 103 = (ro : Int) * ρ 0 + 0 := hm (4, 103, [((ro : Int), 0)]) (by simp)
  have m3 : M 4 (zIx ρ (dCt x).1) = 1 * ρ 2 + 0 := hm (4, (dCt x).1, [(1, 2)]) (by simp)
  have m4 : M 4 306 = 0 := hm (4, 306, []) (by unfold dWe; simp)
  have m5 : M 4 300 = ((30 - ro : Nat) : Int) * ρ 0 + 0 := hm (4, 300, [(((30 - ro : Nat) : Int), 0)]) (by unfold dWe; simp)
  have f1 : 0 ≤ qD ρ (cond (Nat.beq (dCt x).2 0) [(-1, 2)] [(((dCt x).2 : Int), 0), (-1, 2)]) := hfl _ List.mem_cons_self
  have hcn : ρ 2 ≤ ((dCt x).2 : Int) := by
    cases e : (dCt x).2 with
    | zero =>
      rw [e] at f1
      have f1 : 0 ≤ -1 * ρ 2 + 0 := f1
      omega
    | succ j =>
      rw [e] at f1
      have f1 : 0 ≤ ((j + 1 : Nat) : Int) * ρ 0 + (-1 * ρ 2 + 0) := f1
      rw [h0] at f1
      omega
  rw [h0] at m1 m2 m5
  have hro' : ((30 - ro : Nat) : Int) = 30 - (ro : Int) := by omega
  have hlt : (dCt x).1 < 1000 := by
    unfold dCt
    split
    · show (if x % 6 < 2 then 104 else 314) < 1000
      split <;> omega
    · split
      · show 105 < 1000; omega
      · show 106 < 1000; omega
  rw [zix_lt hlt] at m3
  have hun : ¬ dTi (M 4 104) (M 4 314) (M 4 105) (M 4 106) x := dct_un hx (by
    have e : (if x < 54 then (if x % 6 < 2 then M 4 104 else M 4 314) else if x < 78 then M 4 105 else M 4 106) = M 4 (dCt x).1 := by
      unfold dCt
      by_cases h1 : x < 54
      · rw [if_pos h1, if_pos h1]
        show _ = M 4 (if x % 6 < 2 then 104 else 314)
        split <;> rfl
      · rw [if_neg h1, if_neg h1]
        by_cases h2 : x < 78
        · rw [if_pos h2, if_pos h2]
        · rw [if_neg h2, if_neg h2]
    rw [e]; omega)
  refine ⟨ρ, fun _ _ => rfl, fun f h => nomatch h, ?_⟩
  show sI (sU M c (qD ρ (dKf k)).toNat (1 * ρ 1 + 0))
  rw [dkf_e h0, hc, hk]
  have hv := hf ρ h0 (fun f h => hfl f (List.mem_cons_of_mem _ h))
  rw [hc, hk] at hv
  have ne := dbc_b hro (show x < 116 by omega)
  refine dw_si hro (by omega) hI (fun r hr => by have := hv r hr; omega) (Or.inl rfl) m4 (by omega) (fun h => by omega) (fun _ => ⟨by omega, fun i hi ht hh => ⟨fun e => hun (e ▸ ht), fun h => ?_⟩⟩) (by omega)
  rw [sU_ne (fun z => ne.2.2.2 z.1.symm)] at h
  exact h
theorem dwh_ok {ro x c k : Nat} {fr : List qF} (hro : ro = 2 ∨ ro = 28) (hx : x < 116) (hx2 : x < 54 ∧ x % 6 ≠ 0 ∨ 87 ≤ x) (hc : c = dBc ro x) (hk : k = dBk x) (hf : dFr c k fr) : qRok (dWh ro x c k fr) := by
  intro ρ M h0 hfl hm hI
  have hm : ∀ q ∈ [(4, 100, [((1 : Int), 0)]), (4, 103, [((ro : Int), 0)]), (4, 311, [((999 : Int), 0)])] ++ dWe ro, M q.1 (zIx ρ q.2.1) = qD ρ q.2.2 := hm
  have m1 : M 4 100 = 1 * ρ 0 + 0 := hm (4, 100, [(1, 0)]) (by simp)
  have m2 : M 4 103 = (ro : Int) * ρ 0 + 0 := hm (4, 103, [((ro : Int), 0)]) (by simp)
  have m3 : M 4 311 = 999 * ρ 0 + 0 := hm (4, 311, [(999, 0)]) (by simp)
  have m4 : M 4 306 = 0 := hm (4, 306, []) (by unfold dWe; simp)
  have m5 : M 4 300 = ((30 - ro : Nat) : Int) * ρ 0 + 0 := hm (4, 300, [(((30 - ro : Nat) : Int), 0)]) (by unfold dWe; simp)
  rw [h0] at m1 m2 m3 m5
  have hro' : ((30 - ro : Nat) : Int) = 30 - (ro : Int) := by omega
  refine ⟨ρ, fun _ _ => rfl, fun f h => nomatch h, ?_⟩
  show sI (sU (sU M c (qD ρ (dKf k)).toNat (1 * ρ 1 + 0)) 4 311 ((x : Int) * ρ 0 + 0))
  rw [dkf_e h0, hc, hk, h0]
  have hv := hf ρ h0 hfl
  rw [hc, hk] at hv
  refine dw_si hro hx hI (fun r hr => by have := hv r hr; omega) (Or.inr ⟨_, rfl⟩) m4 (by omega) (fun h => by omega) (fun _ => ⟨by omega, fun i hi ht hh => ?_⟩) (by omega)
  rw [sU_at] at hh ⊢
  exact ⟨by omega, fun _ => by omega⟩
theorem dwz_ok {ro x c k : Nat} {fr : List qF} (hro : ro = 2 ∨ ro = 28) (hx : x < 116) (hc : c = dBc ro x) (hk : k = dBk x) (hf : dFr c k fr) : qRok (dWz ro c k fr) := by
  intro ρ M h0 hfl hm hI
  have hm : ∀ q ∈ ([(4, 100, []), (4, 303, [])] ++ dWe ro : qMm), M q.1 (zIx ρ q.2.1) = qD ρ q.2.2 := hm
  have m1 : M 4 100 = 0 := hm (4, 100, []) (by simp)
  have m3 : M 4 303 = 0 := hm (4, 303, []) (by simp)
  have m4 : M 4 306 = 0 := hm (4, 306, []) (by unfold dWe; simp)
  have m5 : M 4 300 = ((30 - ro : Nat) : Int) * ρ 0 + 0 := hm (4, 300, [(((30 - ro : Nat) : Int), 0)]) (by unfold dWe; simp)
  rw [h0] at m5
  have hro' : ((30 - ro : Nat) : Int) = 30 - (ro : Int) := by omega
  refine ⟨ρ, fun _ _ => rfl, fun f h => nomatch h, ?_⟩
  show sI (sU M c (qD ρ (dKf k)).toNat (1 * ρ 1 + 0))
  rw [dkf_e h0, hc, hk]
  have hv := hf ρ h0 hfl
  rw [hc, hk] at hv
  exact dw_si hro hx hI (fun r hr => by have := hv r hr; omega) (Or.inl rfl) m4 (by omega) (fun _ => m3) (fun h => by omega) (Or.inl m1)
/-! what lies at a place of the class is what the reference has -/
def dCe (x : Nat) : Nat × Nat := if x < 54 then (0, x / 6) else if x < 78 then (1, (x - 54) / 4) else (2, (x - 78) / 3)
def dEq (ro x c k c2 k2 : Nat) : qRu := (4, cond (Nat.blt x 87) [[(-(((dCe x).2 + 1 : Nat) : Int), 0), (1, 3)]] [], [(4, 301, [(1, 0)]), (4, 300, [((ro : Int), 0)]), (c, k, [(1, 1)]), (c2, k2, [(1, 2)])] ++ cond (Nat.blt x 87) [(93, (dCe x).1, [(1, 3)])] [], [], [], [[(1, 1), (-1, 2)], [(-1, 1), (1, 2)]])
theorem deq_ok {ro x c k c2 k2 : Nat} (hro : ro = 2 ∨ ro = 28) (hx : x < 116) (hc : c = dBc ro x) (hk : k = dBk x) (hc2 : c2 = (dLp.getD x (0, 0)).1) (hk2 : k2 = (dLp.getD x (0, 0)).2) (hk3 : k < 1000) (hk4 : k2 < 1000) : qRok (dEq ro x c k c2 k2) := by
  intro ρ M h0 hfl hm hI
  have hm : ∀ q ∈ [(4, 301, [((1 : Int), 0)]), (4, 300, [((ro : Int), 0)]), (c, k, [((1 : Int), 1)]), (c2, k2, [((1 : Int), 2)])] ++ cond (Nat.blt x 87) [(93, (dCe x).1, [((1 : Int), 3)])] [], M q.1 (zIx ρ q.2.1) = qD ρ q.2.2 := hm
  have hfl : ∀ f ∈ cond (Nat.blt x 87) [[(-(((dCe x).2 + 1 : Nat) : Int), 0), (1, 3)]] [], 0 ≤ qD ρ f := hfl
  have m1 : M 4 301 = 1 * ρ 0 + 0 := hm (4, 301, [(1, 0)]) (by simp)
  have m2 : M 4 300 = (ro : Int) * ρ 0 + 0 := hm (4, 300, [((ro : Int), 0)]) (by simp)
  have m3 : M c (zIx ρ k) = 1 * ρ 1 + 0 := hm (c, k, [(1, 1)]) (by simp)
  have m4 : M c2 (zIx ρ k2) = 1 * ρ 2 + 0 := hm (c2, k2, [(1, 2)]) (by simp)
  rw [zix_lt hk3] at m3
  rw [zix_lt hk4] at m4
  rw [h0] at m1 m2
  have ht : dTi (M 93 0) (M 93 0) (M 93 1) (M 93 2) x := by
    rcases Nat.lt_or_ge x 87 with h | h
    · rw [show Nat.blt x 87 = true from Nat.ble_eq_true_of_le h] at hm hfl
      have f1 := hfl _ (List.mem_singleton.mpr rfl)
      have m5 := hm (93, (dCe x).1, [(1, 3)]) (List.mem_append_right _ (List.mem_singleton.mpr rfl))
      have f1 : 0 ≤ -(((dCe x).2 + 1 : Nat) : Int) * ρ 0 + (1 * ρ 3 + 0) := f1
      have m5 : M 93 (zIx ρ (dCe x).1) = 1 * ρ 3 + 0 := m5
      rw [h0] at f1
      unfold dCe at f1 m5
      rcases Nat.lt_or_ge x 54 with h1 | h1
      · rw [if_pos h1] at f1 m5
        have m5 : M 93 (zIx ρ 0) = 1 * ρ 3 + 0 := m5
        rw [zix_lt (by omega)] at m5
        have f1 : 0 ≤ -((x / 6 + 1 : Nat) : Int) * 1 + (1 * ρ 3 + 0) := f1
        refine ⟨fun _ => ?_, fun _ _ => by omega, fun _ _ => by omega⟩
        split <;> omega
      · rw [if_neg (by omega)] at f1 m5
        rcases Nat.lt_or_ge x 78 with h2 | h2
        · rw [if_pos h2] at f1 m5
          have m5 : M 93 (zIx ρ 1) = 1 * ρ 3 + 0 := m5
          rw [zix_lt (by omega)] at m5
          have f1 : 0 ≤ -(((x - 54) / 4 + 1 : Nat) : Int) * 1 + (1 * ρ 3 + 0) := f1
          exact ⟨fun _ => by omega, fun _ _ => by omega, fun _ _ => by omega⟩
        · rw [if_neg (by omega)] at f1 m5
          have m5 : M 93 (zIx ρ 2) = 1 * ρ 3 + 0 := m5
          rw [zix_lt (by omega)] at m5
          have f1 : 0 ≤ -(((x - 78) / 3 + 1 : Nat) : Int) * 1 + (1 * ρ 3 + 0) := f1
          exact ⟨fun _ => by omega, fun _ _ => by omega, fun _ _ => by omega⟩
    · exact ⟨fun _ => by omega, fun _ _ => by omega, fun _ _ => by omega⟩
  have he := gx_xDE hI (by omega) x hx ht
  have hcl : dCl M (M 4 300) x = M c k := by
    rw [dcl_g hx, hc, hk]
    rcases hro with rfl | rfl
    · rw [if_pos (by omega)]; rfl
    · rw [if_neg (by omega)]; rfl
  rw [hcl, drl_g hx, ← hc2, ← hk2] at he
  refine ⟨ρ, fun _ _ => rfl, fun f h => ?_, hI⟩
  have h : f ∈ ([[(1, 1), (-1, 2)], [(-1, 1), (1, 2)]] : List qF) := h
  simp only [List.mem_cons, List.not_mem_nil, or_false] at h
  rcases h with rfl | rfl
  · show 0 ≤ 1 * ρ 1 + (-1 * ρ 2 + 0); omega
  · show 0 ≤ -1 * ρ 1 + (1 * ρ 2 + 0); omega
theorem dRw {a : qRu} (b : qRu) (h : qRok a) (e : a = b) : qRok b := e ▸ h
