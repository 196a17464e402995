/-! RULES OF THE REFERENCE (wip/p3/xsf.py). -/
-- nmTieR94_2
def xr_556 : qRu := (4, [[(-3, 0), (1, 3)]], [(4, 100, [(2, 0)]), (4, 104, [(1, 3)]), (94, 11, [(1, 1)]), (3, 62, [(1, 2)])], [], [], [[(1, 1), (-1, 2)], [(-1, 1), (1, 2)]])
theorem xo_556 : qRok xr_556 := by
  intro ρ M h0 hf hm hI
  have f0 := hf [(-3, 0), (1, 3)] (by decide)
  simp only [qD, h0] at f0
  have m0 : M 4 100 = 2 * ρ 0 + 0 := hm (4, 100, [(2, 0)]) (by decide)
  have m1 : M 4 104 = 1 * ρ 3 + 0 := hm (4, 104, [(1, 3)]) (by decide)
  have m2 : M 94 11 = 1 * ρ 1 + 0 := hm (94, 11, [(1, 1)]) (by decide)
  have m3 : M 3 62 = 1 * ρ 2 + 0 := hm (3, 62, [(1, 2)]) (by decide)
  simp only [h0] at m0
  obtain ⟨a0, a1, a2⟩ := gx_xS5 hI (by omega)
  have t := a0 2 (by omega) (by omega)
  have t : M 94 11 = M 3 62 := t
  refine ⟨ρ, fun _ _ => rfl, fun f h => ?_, ?_⟩
  · have h : f ∈ ([[(1, 1), (-1, 2)], [(-1, 1), (1, 2)]] : List qF) := h
    simp only [List.mem_cons, List.not_mem_nil, or_false] at h
    rcases h with rfl | rfl
    · show 0 ≤ 1 * ρ 1 + (-1 * ρ 2 + 0)
      (try rw [h0]); omega
    · show 0 ≤ -1 * ρ 1 + (1 * ρ 2 + 0)
      (try rw [h0]); omega
  · show sI M
    exact hI
-- nmUpR94_2
def xr_557 : qRu := (3, [[(1, 1), (-1, 2)], [(-1, 1), (1, 2)]], [(4, 100, [(2, 0)]), (4, 104, [(2, 0)]), (94, 11, [(1, 1)]), (3, 62, [(1, 2)])], [], [(4, 104, [(3, 0)])], [])
theorem xo_557 : qRok xr_557 := by
  intro ρ M h0 hf hm hI
  have f0 := hf [(1, 1), (-1, 2)] (by decide)
  have f1 := hf [(-1, 1), (1, 2)] (by decide)
  simp only [qD, h0] at f0 f1
  have m0 : M 4 100 = 2 * ρ 0 + 0 := hm (4, 100, [(2, 0)]) (by decide)
  have m1 : M 4 104 = 2 * ρ 0 + 0 := hm (4, 104, [(2, 0)]) (by decide)
  have m2 : M 94 11 = 1 * ρ 1 + 0 := hm (94, 11, [(1, 1)]) (by decide)
  have m3 : M 3 62 = 1 * ρ 2 + 0 := hm (3, 62, [(1, 2)]) (by decide)
  simp only [h0] at m0 m1
  have qxS5 := hI.2.2.2.2.2.2.2.2.2.2.2.2.2.2.2.2.2.2.2.2.2.2.2.2.2.1
  refine ⟨ρ, fun _ _ => rfl, fun f h => ?_, ?_⟩
  · exact nomatch h
  · show sI (sU M 4 104 (3 * ρ 0 + 0))
    obtain ⟨W, hW⟩ : ∃ W, W = (sU M 4 104 (3 * ρ 0 + 0)) := ⟨_, rfl⟩
    rw [← hW]
    have base : sI0 W := by
      rw [hW]
      exact (si_u0 hI.1 (fun r hr => by cases hr))
    have k2 : XI2 W := by
      rw [hW]
      exact (xi2_u (by decide +kernel) hI.2.1)
    have k3 : XI3 W := by
      rw [hW]
      exact (xi3_u (by decide +kernel) hI.2.2.1)
    have kXA : XA W := by
      rw [hW]
      exact (uXA (by decide +kernel) hI.2.2.2.1)
    have k_xN1 : xN1 W := by
      rw [hW]
      exact (uxN1 (by decide +kernel) hI.2.2.2.2.1)
    have k_xN2 : xN2 W := by
      rw [hW]
      exact (uxN2 (by decide +kernel) hI.2.2.2.2.2.1)
    have k_xN3 : xN3 W := by
      rw [hW]
      exact (uxN3 (by decide +kernel) hI.2.2.2.2.2.2.1)
    have k_xN4 : xN4 W := by
      rw [hW]
      exact (uxN4 (by decide +kernel) hI.2.2.2.2.2.2.2.1)
    have k_xN5 : xN5 W := by
      rw [hW]
      exact (uxN5 (by decide +kernel) hI.2.2.2.2.2.2.2.2.1)
    have k_xN6 : xN6 W := by
      rw [hW]
      exact (uxN6 (by decide +kernel) hI.2.2.2.2.2.2.2.2.2.1)
    have k_xH1 : xH1 W := by
      rw [hW]
      exact (uxH1 (by decide +kernel) hI.2.2.2.2.2.2.2.2.2.2.1)
    have k_xK1 : xK1 W := by
      rw [hW]
      exact (uxK1 (by decide +kernel) hI.2.2.2.2.2.2.2.2.2.2.2.1)
    have k_xC1 : xC1 W := by
      rw [hW]
      exact (uxC1 (by decide +kernel) hI.2.2.2.2.2.2.2.2.2.2.2.2.1)
    have k_xRW : xRW W := by
      rw [hW]
      exact (uxRW (by decide +kernel) hI.2.2.2.2.2.2.2.2.2.2.2.2.2.1)
    have k_xWT : xWT W := by
      rw [hW]
      exact (uxWT (by decide +kernel) hI.2.2.2.2.2.2.2.2.2.2.2.2.2.2.1)
    have k_xCU : xCU W := by
      rw [hW]
      exact (uxCU (by decide +kernel) hI.2.2.2.2.2.2.2.2.2.2.2.2.2.2.2.1)
    have k_xG2 : xG2 W := by
      rw [hW]
      exact (uxG2 (by decide +kernel) hI.2.2.2.2.2.2.2.2.2.2.2.2.2.2.2.2.1)
    have k_xG3 : xG3 W := by
      rw [hW]
      exact (uxG3 (by decide +kernel) hI.2.2.2.2.2.2.2.2.2.2.2.2.2.2.2.2.2.1)
    have k_xG4 : xG4 W := by
      rw [hW]
      exact (uxG4 (by decide +kernel) hI.2.2.2.2.2.2.2.2.2.2.2.2.2.2.2.2.2.2.1)
    have k_xG5 : xG5 W := by
      rw [hW]
      exact (uxG5 (by decide +kernel) hI.2.2.2.2.2.2.2.2.2.2.2.2.2.2.2.2.2.2.2.1)
    have k_xG6 : xG6 W := by
      rw [hW]
      exact (uxG6 (by decide +kernel) hI.2.2.2.2.2.2.2.2.2.2.2.2.2.2.2.2.2.2.2.2.1)
    have k_xS1 : xS1 W := by
      rw [hW]
      exact (uxS1 (by decide +kernel) hI.2.2.2.2.2.2.2.2.2.2.2.2.2.2.2.2.2.2.2.2.2.1)
    have k_xS2 : xS2 W := by
      rw [hW]
      exact (uxS2 (by decide +kernel) hI.2.2.2.2.2.2.2.2.2.2.2.2.2.2.2.2.2.2.2.2.2.2.1)
    have k_xS3 : xS3 W := by
      rw [hW]
      exact (uxS3 (by decide +kernel) hI.2.2.2.2.2.2.2.2.2.2.2.2.2.2.2.2.2.2.2.2.2.2.2.1)
    have k_xS4 : xS4 W := by
      have r : W 4 100 = 2 := by
        have e := m0
        rw [hW, sU_ne (fun z => by omega)]
        omega
      intro h
      rw [r] at h
      omega
    have k_xS5 : xS5 W := by
      have r4_100 : W 4 100 = M 4 100 := by rw [hW, sU_ne (fun z => by omega)]
      have r4_104 : W 4 104 = 3 * ρ 0 + 0 := by rw [hW, sU_at]
      have r4_105 : W 4 105 = M 4 105 := by rw [hW, sU_ne (fun z => by omega)]
      have r4_106 : W 4 106 = M 4 106 := by rw [hW, sU_ne (fun z => by omega)]
      have c3 : ∀ k, W 3 k = M 3 k := fun k => by rw [hW, sU_ne (fun z => by omega)]
      have e3 : W 3 = M 3 := funext c3
      have c94 : ∀ k, W 94 k = M 94 k := fun k => by rw [hW, sU_ne (fun z => by omega)]
      have e94 : W 94 = M 94 := funext c94
      have c100 : ∀ k, W 100 k = M 100 k := fun k => by rw [hW, sU_ne (fun z => by omega)]
      have e100 : W 100 = M 100 := funext c100
      have c104 : ∀ k, W 104 k = M 104 k := fun k => by rw [hW, sU_ne (fun z => by omega)]
      have e104 : W 104 = M 104 := funext c104
      intro h
      obtain ⟨a0, a1, a2⟩ := gx_xS5 hI (by omega)
      rw [r4_104, r4_105, r4_106, e3, e94, e100, e104]
      refine ⟨fun j hj ht => ?_, fun j hj ht => ?_, fun j hj ht => ?_⟩
      · by_cases hJ : j = 2
        · subst hJ
          show M 94 11 = M 3 62
          omega
        · exact a0 j hj (by (try rw [h0] at ht); omega)
      · exact a1 j hj (by omega)
      · exact a2 j hj (by omega)
    have k_xS6 : xS6 W := by
      rw [hW]
      exact (uxS6 (by decide +kernel) hI.2.2.2.2.2.2.2.2.2.2.2.2.2.2.2.2.2.2.2.2.2.2.2.2.2.2.1)
    have k_xS7 : xS7 W := by
      rw [hW]
      exact (uxS7 (by decide +kernel) hI.2.2.2.2.2.2.2.2.2.2.2.2.2.2.2.2.2.2.2.2.2.2.2.2.2.2.2.1)
    have k_xS8 : xS8 W := by
      rw [hW]
      exact (uxS8 (by decide +kernel) hI.2.2.2.2.2.2.2.2.2.2.2.2.2.2.2.2.2.2.2.2.2.2.2.2.2.2.2.2.1)
    have k_xS9 : xS9 W := by
      rw [hW]
      exact (uxS9 (by decide +kernel) hI.2.2.2.2.2.2.2.2.2.2.2.2.2.2.2.2.2.2.2.2.2.2.2.2.2.2.2.2.2.1)
    have k_xSA : xSA W := by
      rw [hW]
      exact (uxSA (by decide +kernel) hI.2.2.2.2.2.2.2.2.2.2.2.2.2.2.2.2.2.2.2.2.2.2.2.2.2.2.2.2.2.2.1)
    have k_xSG : xSG W := by
      rw [hW]
      exact (uxSG (by decide +kernel) hI.2.2.2.2.2.2.2.2.2.2.2.2.2.2.2.2.2.2.2.2.2.2.2.2.2.2.2.2.2.2.2.1)
    have k_xSF : xSF W := by
      rw [hW]
      exact (uxSF (by decide +kernel) hI.2.2.2.2.2.2.2.2.2.2.2.2.2.2.2.2.2.2.2.2.2.2.2.2.2.2.2.2.2.2.2.2.1)
    have k_xSB : xSB W := by
      rw [hW]
      exact (uxSB (by decide +kernel) hI.2.2.2.2.2.2.2.2.2.2.2.2.2.2.2.2.2.2.2.2.2.2.2.2.2.2.2.2.2.2.2.2.2.1)
    have k_xSC : xSC W := by
      rw [hW]
      exact (uxSC (by decide +kernel) hI.2.2.2.2.2.2.2.2.2.2.2.2.2.2.2.2.2.2.2.2.2.2.2.2.2.2.2.2.2.2.2.2.2.2.1)
    have k_xSD : xSD W := by
      rw [hW]
      exact (uxSD (by decide +kernel) hI.2.2.2.2.2.2.2.2.2.2.2.2.2.2.2.2.2.2.2.2.2.2.2.2.2.2.2.2.2.2.2.2.2.2.2.1)
    have k_xSE : xSE W := by
      rw [hW]
      exact (uxSE (by decide +kernel) hI.2.2.2.2.2.2.2.2.2.2.2.2.2.2.2.2.2.2.2.2.2.2.2.2.2.2.2.2.2.2.2.2.2.2.2.2.1)
    have k_xSW : xSW W := by
      rw [hW]
      exact (uxSW (by decide +kernel) hI.2.2.2.2.2.2.2.2.2.2.2.2.2.2.2.2.2.2.2.2.2.2.2.2.2.2.2.2.2.2.2.2.2.2.2.2.2.1)
    have k_xST : xST W := by
      rw [hW]
      exact (uxST (by decide +kernel) hI.2.2.2.2.2.2.2.2.2.2.2.2.2.2.2.2.2.2.2.2.2.2.2.2.2.2.2.2.2.2.2.2.2.2.2.2.2.2.1)
    have k_xSP : xSP W := by
      rw [hW]
      exact (uxSP (by decide +kernel) hI.2.2.2.2.2.2.2.2.2.2.2.2.2.2.2.2.2.2.2.2.2.2.2.2.2.2.2.2.2.2.2.2.2.2.2.2.2.2.2.1)
    have k_xSL : xSL W := by
      rw [hW]
      exact (uxSL (by decide +kernel) hI.2.2.2.2.2.2.2.2.2.2.2.2.2.2.2.2.2.2.2.2.2.2.2.2.2.2.2.2.2.2.2.2.2.2.2.2.2.2.2.2.1)
    have k_xSM : xSM W := by
      rw [hW]
      exact (uxSM (by decide +kernel) hI.2.2.2.2.2.2.2.2.2.2.2.2.2.2.2.2.2.2.2.2.2.2.2.2.2.2.2.2.2.2.2.2.2.2.2.2.2.2.2.2.2.1)
    have k_xSI : xSI W := by
      rw [hW]
      exact (uxSI (by decide +kernel) hI.2.2.2.2.2.2.2.2.2.2.2.2.2.2.2.2.2.2.2.2.2.2.2.2.2.2.2.2.2.2.2.2.2.2.2.2.2.2.2.2.2.2)
    have k_XC : XC W := ⟨k_xS1, k_xS2, k_xS3, k_xS4, k_xS5, k_xS6, k_xS7, k_xS8, k_xS9, k_xSA, k_xSG, k_xSF, k_xSB, k_xSC, k_xSD, k_xSE, k_xSW, k_xST, k_xSP, k_xSL, k_xSM, k_xSI⟩
    have kXB : XB W := ⟨k_xN1, k_xN2, k_xN3, k_xN4, k_xN5, k_xN6, k_xH1, k_xK1, k_xC1, k_xRW, k_xWT, k_xCU, k_xG2, k_xG3, k_xG4, k_xG5, k_xG6, k_XC⟩
    exact ⟨base, k2, k3, kXA, kXB⟩
-- nmTieR94_3
def xr_558 : qRu := (4, [[(-4, 0), (1, 3)]], [(4, 100, [(2, 0)]), (4, 104, [(1, 3)]), (94, 12, [(1, 1)]), (3, 63, [(1, 2)])], [], [], [[(1, 1), (-1, 2)], [(-1, 1), (1, 2)]])
theorem xo_558 : qRok xr_558 := by
  intro ρ M h0 hf hm hI
  have f0 := hf [(-4, 0), (1, 3)] (by decide)
  simp only [qD, h0] at f0
  have m0 : M 4 100 = 2 * ρ 0 + 0 := hm (4, 100, [(2, 0)]) (by decide)
  have m1 : M 4 104 = 1 * ρ 3 + 0 := hm (4, 104, [(1, 3)]) (by decide)
  have m2 : M 94 12 = 1 * ρ 1 + 0 := hm (94, 12, [(1, 1)]) (by decide)
  have m3 : M 3 63 = 1 * ρ 2 + 0 := hm (3, 63, [(1, 2)]) (by decide)
  simp only [h0] at m0
  obtain ⟨a0, a1, a2⟩ := gx_xS5 hI (by omega)
  have t := a0 3 (by omega) (by omega)
  have t : M 94 12 = M 3 63 := t
  refine ⟨ρ, fun _ _ => rfl, fun f h => ?_, ?_⟩
  · have h : f ∈ ([[(1, 1), (-1, 2)], [(-1, 1), (1, 2)]] : List qF) := h
    simp only [List.mem_cons, List.not_mem_nil, or_false] at h
    rcases h with rfl | rfl
    · show 0 ≤ 1 * ρ 1 + (-1 * ρ 2 + 0)
      (try rw [h0]); omega
    · show 0 ≤ -1 * ρ 1 + (1 * ρ 2 + 0)
      (try rw [h0]); omega
  · show sI M
    exact hI
-- nmUpR94_3
def xr_559 : qRu := (3, [[(1, 1), (-1, 2)], [(-1, 1), (1, 2)]], [(4, 100, [(2, 0)]), (4, 104, [(3, 0)]), (94, 12, [(1, 1)]), (3, 63, [(1, 2)])], [], [(4, 104, [(4, 0)])], [])
theorem xo_559 : qRok xr_559 := by
  intro ρ M h0 hf hm hI
  have f0 := hf [(1, 1), (-1, 2)] (by decide)
  have f1 := hf [(-1, 1), (1, 2)] (by decide)
  simp only [qD, h0] at f0 f1
  have m0 : M 4 100 = 2 * ρ 0 + 0 := hm (4, 100, [(2, 0)]) (by decide)
  have m1 : M 4 104 = 3 * ρ 0 + 0 := hm (4, 104, [(3, 0)]) (by decide)
  have m2 : M 94 12 = 1 * ρ 1 + 0 := hm (94, 12, [(1, 1)]) (by decide)
  have m3 : M 3 63 = 1 * ρ 2 + 0 := hm (3, 63, [(1, 2)]) (by decide)
  simp only [h0] at m0 m1
  have qxS5 := hI.2.2.2.2.2.2.2.2.2.2.2.2.2.2.2.2.2.2.2.2.2.2.2.2.2.1
  refine ⟨ρ, fun _ _ => rfl, fun f h => ?_, ?_⟩
  · exact nomatch h
  · show sI (sU M 4 104 (4 * ρ 0 + 0))
    obtain ⟨W, hW⟩ : ∃ W, W = (sU M 4 104 (4 * ρ 0 + 0)) := ⟨_, rfl⟩
    rw [← hW]
    have base : sI0 W := by
      rw [hW]
      exact (si_u0 hI.1 (fun r hr => by cases hr))
    have k2 : XI2 W := by
      rw [hW]
      exact (xi2_u (by decide +kernel) hI.2.1)
    have k3 : XI3 W := by
      rw [hW]
      exact (xi3_u (by decide +kernel) hI.2.2.1)
    have kXA : XA W := by
      rw [hW]
      exact (uXA (by decide +kernel) hI.2.2.2.1)
    have k_xN1 : xN1 W := by
      rw [hW]
      exact (uxN1 (by decide +kernel) hI.2.2.2.2.1)
    have k_xN2 : xN2 W := by
      rw [hW]
      exact (uxN2 (by decide +kernel) hI.2.2.2.2.2.1)
    have k_xN3 : xN3 W := by
      rw [hW]
      exact (uxN3 (by decide +kernel) hI.2.2.2.2.2.2.1)
    have k_xN4 : xN4 W := by
      rw [hW]
      exact (uxN4 (by decide +kernel) hI.2.2.2.2.2.2.2.1)
    have k_xN5 : xN5 W := by
      rw [hW]
      exact (uxN5 (by decide +kernel) hI.2.2.2.2.2.2.2.2.1)
    have k_xN6 : xN6 W := by
      rw [hW]
      exact (uxN6 (by decide +kernel) hI.2.2.2.2.2.2.2.2.2.1)
    have k_xH1 : xH1 W := by
      rw [hW]
      exact (uxH1 (by decide +kernel) hI.2.2.2.2.2.2.2.2.2.2.1)
    have k_xK1 : xK1 W := by
      rw [hW]
      exact (uxK1 (by decide +kernel) hI.2.2.2.2.2.2.2.2.2.2.2.1)
    have k_xC1 : xC1 W := by
      rw [hW]
      exact (uxC1 (by decide +kernel) hI.2.2.2.2.2.2.2.2.2.2.2.2.1)
    have k_xRW : xRW W := by
      rw [hW]
      exact (uxRW (by decide +kernel) hI.2.2.2.2.2.2.2.2.2.2.2.2.2.1)
    have k_xWT : xWT W := by
      rw [hW]
      exact (uxWT (by decide +kernel) hI.2.2.2.2.2.2.2.2.2.2.2.2.2.2.1)
    have k_xCU : xCU W := by
      rw [hW]
      exact (uxCU (by decide +kernel) hI.2.2.2.2.2.2.2.2.2.2.2.2.2.2.2.1)
    have k_xG2 : xG2 W := by
      rw [hW]
      exact (uxG2 (by decide +kernel) hI.2.2.2.2.2.2.2.2.2.2.2.2.2.2.2.2.1)
    have k_xG3 : xG3 W := by
      rw [hW]
      exact (uxG3 (by decide +kernel) hI.2.2.2.2.2.2.2.2.2.2.2.2.2.2.2.2.2.1)
    have k_xG4 : xG4 W := by
      rw [hW]
      exact (uxG4 (by decide +kernel) hI.2.2.2.2.2.2.2.2.2.2.2.2.2.2.2.2.2.2.1)
    have k_xG5 : xG5 W := by
      rw [hW]
      exact (uxG5 (by decide +kernel) hI.2.2.2.2.2.2.2.2.2.2.2.2.2.2.2.2.2.2.2.1)
    have k_xG6 : xG6 W := by
      rw [hW]
      exact (uxG6 (by decide +kernel) hI.2.2.2.2.2.2.2.2.2.2.2.2.2.2.2.2.2.2.2.2.1)
    have k_xS1 : xS1 W := by
      rw [hW]
      exact (uxS1 (by decide +kernel) hI.2.2.2.2.2.2.2.2.2.2.2.2.2.2.2.2.2.2.2.2.2.1)
    have k_xS2 : xS2 W := by
      rw [hW]
      exact (uxS2 (by decide +kernel) hI.2.2.2.2.2.2.2.2.2.2.2.2.2.2.2.2.2.2.2.2.2.2.1)
    have k_xS3 : xS3 W := by
      rw [hW]
      exact (uxS3 (by decide +kernel) hI.2.2.2.2.2.2.2.2.2.2.2.2.2.2.2.2.2.2.2.2.2.2.2.1)
    have k_xS4 : xS4 W := by
      have r : W 4 100 = 2 := by
        have e := m0
        rw [hW, sU_ne (fun z => by omega)]
        omega
      intro h
      rw [r] at h
      omega
    have k_xS5 : xS5 W := by
      have r4_100 : W 4 100 = M 4 100 := by rw [hW, sU_ne (fun z => by omega)]
      have r4_104 : W 4 104 = 4 * ρ 0 + 0 := by rw [hW, sU_at]
      have r4_105 : W 4 105 = M 4 105 := by rw [hW, sU_ne (fun z => by omega)]
      have r4_106 : W 4 106 = M 4 106 := by rw [hW, sU_ne (fun z => by omega)]
      have c3 : ∀ k, W 3 k = M 3 k := fun k => by rw [hW, sU_ne (fun z => by omega)]
      have e3 : W 3 = M 3 := funext c3
      have c94 : ∀ k, W 94 k = M 94 k := fun k => by rw [hW, sU_ne (fun z => by omega)]
      have e94 : W 94 = M 94 := funext c94
      have c100 : ∀ k, W 100 k = M 100 k := fun k => by rw [hW, sU_ne (fun z => by omega)]
      have e100 : W 100 = M 100 := funext c100
      have c104 : ∀ k, W 104 k = M 104 k := fun k => by rw [hW, sU_ne (fun z => by omega)]
      have e104 : W 104 = M 104 := funext c104
      intro h
      obtain ⟨a0, a1, a2⟩ := gx_xS5 hI (by omega)
      rw [r4_104, r4_105, r4_106, e3, e94, e100, e104]
      refine ⟨fun j hj ht => ?_, fun j hj ht => ?_, fun j hj ht => ?_⟩
      · by_cases hJ : j = 3
        · subst hJ
          show M 94 12 = M 3 63
          omega
        · exact a0 j hj (by (try rw [h0] at ht); omega)
      · exact a1 j hj (by omega)
      · exact a2 j hj (by omega)
    have k_xS6 : xS6 W := by
      rw [hW]
      exact (uxS6 (by decide +kernel) hI.2.2.2.2.2.2.2.2.2.2.2.2.2.2.2.2.2.2.2.2.2.2.2.2.2.2.1)
    have k_xS7 : xS7 W := by
      rw [hW]
      exact (uxS7 (by decide +kernel) hI.2.2.2.2.2.2.2.2.2.2.2.2.2.2.2.2.2.2.2.2.2.2.2.2.2.2.2.1)
    have k_xS8 : xS8 W := by
      rw [hW]
      exact (uxS8 (by decide +kernel) hI.2.2.2.2.2.2.2.2.2.2.2.2.2.2.2.2.2.2.2.2.2.2.2.2.2.2.2.2.1)
    have k_xS9 : xS9 W := by
      rw [hW]
      exact (uxS9 (by decide +kernel) hI.2.2.2.2.2.2.2.2.2.2.2.2.2.2.2.2.2.2.2.2.2.2.2.2.2.2.2.2.2.1)
    have k_xSA : xSA W := by
      rw [hW]
      exact (uxSA (by decide +kernel) hI.2.2.2.2.2.2.2.2.2.2.2.2.2.2.2.2.2.2.2.2.2.2.2.2.2.2.2.2.2.2.1)
    have k_xSG : xSG W := by
      rw [hW]
      exact (uxSG (by decide +kernel) hI.2.2.2.2.2.2.2.2.2.2.2.2.2.2.2.2.2.2.2.2.2.2.2.2.2.2.2.2.2.2.2.1)
    have k_xSF : xSF W := by
      rw [hW]
      exact (uxSF (by decide +kernel) hI.2.2.2.2.2.2.2.2.2.2.2.2.2.2.2.2.2.2.2.2.2.2.2.2.2.2.2.2.2.2.2.2.1)
    have k_xSB : xSB W := by
      rw [hW]
      exact (uxSB (by decide +kernel) hI.2.2.2.2.2.2.2.2.2.2.2.2.2.2.2.2.2.2.2.2.2.2.2.2.2.2.2.2.2.2.2.2.2.1)
    have k_xSC : xSC W := by
      rw [hW]
      exact (uxSC (by decide +kernel) hI.2.2.2.2.2.2.2.2.2.2.2.2.2.2.2.2.2.2.2.2.2.2.2.2.2.2.2.2.2.2.2.2.2.2.1)
    have k_xSD : xSD W := by
      rw [hW]
      exact (uxSD (by decide +kernel) hI.2.2.2.2.2.2.2.2.2.2.2.2.2.2.2.2.2.2.2.2.2.2.2.2.2.2.2.2.2.2.2.2.2.2.2.1)
    have k_xSE : xSE W := by
      rw [hW]
      exact (uxSE (by decide +kernel) hI.2.2.2.2.2.2.2.2.2.2.2.2.2.2.2.2.2.2.2.2.2.2.2.2.2.2.2.2.2.2.2.2.2.2.2.2.1)
    have k_xSW : xSW W := by
      rw [hW]
      exact (uxSW (by decide +kernel) hI.2.2.2.2.2.2.2.2.2.2.2.2.2.2.2.2.2.2.2.2.2.2.2.2.2.2.2.2.2.2.2.2.2.2.2.2.2.1)
    have k_xST : xST W := by
      rw [hW]
      exact (uxST (by decide +kernel) hI.2.2.2.2.2.2.2.2.2.2.2.2.2.2.2.2.2.2.2.2.2.2.2.2.2.2.2.2.2.2.2.2.2.2.2.2.2.2.1)
    have k_xSP : xSP W := by
      rw [hW]
      exact (uxSP (by decide +kernel) hI.2.2.2.2.2.2.2.2.2.2.2.2.2.2.2.2.2.2.2.2.2.2.2.2.2.2.2.2.2.2.2.2.2.2.2.2.2.2.2.1)
    have k_xSL : xSL W := by
      rw [hW]
      exact (uxSL (by decide +kernel) hI.2.2.2.2.2.2.2.2.2.2.2.2.2.2.2.2.2.2.2.2.2.2.2.2.2.2.2.2.2.2.2.2.2.2.2.2.2.2.2.2.1)
    have k_xSM : xSM W := by
      rw [hW]
      exact (uxSM (by decide +kernel) hI.2.2.2.2.2.2.2.2.2.2.2.2.2.2.2.2.2.2.2.2.2.2.2.2.2.2.2.2.2.2.2.2.2.2.2.2.2.2.2.2.2.1)
    have k_xSI : xSI W := by
      rw [hW]
      exact (uxSI (by decide +kernel) hI.2.2.2.2.2.2.2.2.2.2.2.2.2.2.2.2.2.2.2.2.2.2.2.2.2.2.2.2.2.2.2.2.2.2.2.2.2.2.2.2.2.2)
    have k_XC : XC W := ⟨k_xS1, k_xS2, k_xS3, k_xS4, k_xS5, k_xS6, k_xS7, k_xS8, k_xS9, k_xSA, k_xSG, k_xSF, k_xSB, k_xSC, k_xSD, k_xSE, k_xSW, k_xST, k_xSP, k_xSL, k_xSM, k_xSI⟩
    have kXB : XB W := ⟨k_xN1, k_xN2, k_xN3, k_xN4, k_xN5, k_xN6, k_xH1, k_xK1, k_xC1, k_xRW, k_xWT, k_xCU, k_xG2, k_xG3, k_xG4, k_xG5, k_xG6, k_XC⟩
    exact ⟨base, k2, k3, kXA, kXB⟩
-- nmTieR94_4
def xr_560 : qRu := (4, [[(-5, 0), (1, 3)]], [(4, 100, [(2, 0)]), (4, 104, [(1, 3)]), (94, 13, [(1, 1)]), (3, 64, [(1, 2)])], [], [], [[(1, 1), (-1, 2)], [(-1, 1), (1, 2)]])
theorem xo_560 : qRok xr_560 := by
  intro ρ M h0 hf hm hI
  have f0 := hf [(-5, 0), (1, 3)] (by decide)
  simp only [qD, h0] at f0
  have m0 : M 4 100 = 2 * ρ 0 + 0 := hm (4, 100, [(2, 0)]) (by decide)
  have m1 : M 4 104 = 1 * ρ 3 + 0 := hm (4, 104, [(1, 3)]) (by decide)
  have m2 : M 94 13 = 1 * ρ 1 + 0 := hm (94, 13, [(1, 1)]) (by decide)
  have m3 : M 3 64 = 1 * ρ 2 + 0 := hm (3, 64, [(1, 2)]) (by decide)
  simp only [h0] at m0
  obtain ⟨a0, a1, a2⟩ := gx_xS5 hI (by omega)
  have t := a0 4 (by omega) (by omega)
  have t : M 94 13 = M 3 64 := t
  refine ⟨ρ, fun _ _ => rfl, fun f h => ?_, ?_⟩
  · have h : f ∈ ([[(1, 1), (-1, 2)], [(-1, 1), (1, 2)]] : List qF) := h
    simp only [List.mem_cons, List.not_mem_nil, or_false] at h
    rcases h with rfl | rfl
    · show 0 ≤ 1 * ρ 1 + (-1 * ρ 2 + 0)
      (try rw [h0]); omega
    · show 0 ≤ -1 * ρ 1 + (1 * ρ 2 + 0)
      (try rw [h0]); omega
  · show sI M
    exact hI
-- nmUpR94_4
def xr_561 : qRu := (3, [[(1, 1), (-1, 2)], [(-1, 1), (1, 2)]], [(4, 100, [(2, 0)]), (4, 104, [(4, 0)]), (94, 13, [(1, 1)]), (3, 64, [(1, 2)])], [], [(4, 104, [(5, 0)])], [])
theorem xo_561 : qRok xr_561 := by
  intro ρ M h0 hf hm hI
  have f0 := hf [(1, 1), (-1, 2)] (by decide)
  have f1 := hf [(-1, 1), (1, 2)] (by decide)
  simp only [qD, h0] at f0 f1
  have m0 : M 4 100 = 2 * ρ 0 + 0 := hm (4, 100, [(2, 0)]) (by decide)
  have m1 : M 4 104 = 4 * ρ 0 + 0 := hm (4, 104, [(4, 0)]) (by decide)
  have m2 : M 94 13 = 1 * ρ 1 + 0 := hm (94, 13, [(1, 1)]) (by decide)
  have m3 : M 3 64 = 1 * ρ 2 + 0 := hm (3, 64, [(1, 2)]) (by decide)
  simp only [h0] at m0 m1
  have qxS5 := hI.2.2.2.2.2.2.2.2.2.2.2.2.2.2.2.2.2.2.2.2.2.2.2.2.2.1
  refine ⟨ρ, fun _ _ => rfl, fun f h => ?_, ?_⟩
  · exact nomatch h
  · show sI (sU M 4 104 (5 * ρ 0 + 0))
    obtain ⟨W, hW⟩ : ∃ W, W = (sU M 4 104 (5 * ρ 0 + 0)) := ⟨_, rfl⟩
    rw [← hW]
    have base : sI0 W := by
      rw [hW]
      exact (si_u0 hI.1 (fun r hr => by cases hr))
    have k2 : XI2 W := by
      rw [hW]
      exact (xi2_u (by decide +kernel) hI.2.1)
    have k3 : XI3 W := by
      rw [hW]
      exact (xi3_u (by decide +kernel) hI.2.2.1)
    have kXA : XA W := by
      rw [hW]
      exact (uXA (by decide +kernel) hI.2.2.2.1)
    have k_xN1 : xN1 W := by
      rw [hW]
      exact (uxN1 (by decide +kernel) hI.2.2.2.2.1)
    have k_xN2 : xN2 W := by
      rw [hW]
      exact (uxN2 (by decide +kernel) hI.2.2.2.2.2.1)
    have k_xN3 : xN3 W := by
      rw [hW]
      exact (uxN3 (by decide +kernel) hI.2.2.2.2.2.2.1)
    have k_xN4 : xN4 W := by
      rw [hW]
      exact (uxN4 (by decide +kernel) hI.2.2.2.2.2.2.2.1)
    have k_xN5 : xN5 W := by
      rw [hW]
      exact (uxN5 (by decide +kernel) hI.2.2.2.2.2.2.2.2.1)
    have k_xN6 : xN6 W := by
      rw [hW]
      exact (uxN6 (by decide +kernel) hI.2.2.2.2.2.2.2.2.2.1)
    have k_xH1 : xH1 W := by
      rw [hW]
      exact (uxH1 (by decide +kernel) hI.2.2.2.2.2.2.2.2.2.2.1)
    have k_xK1 : xK1 W := by
      rw [hW]
      exact (uxK1 (by decide +kernel) hI.2.2.2.2.2.2.2.2.2.2.2.1)
    have k_xC1 : xC1 W := by
      rw [hW]
      exact (uxC1 (by decide +kernel) hI.2.2.2.2.2.2.2.2.2.2.2.2.1)
    have k_xRW : xRW W := by
      rw [hW]
      exact (uxRW (by decide +kernel) hI.2.2.2.2.2.2.2.2.2.2.2.2.2.1)
    have k_xWT : xWT W := by
      rw [hW]
      exact (uxWT (by decide +kernel) hI.2.2.2.2.2.2.2.2.2.2.2.2.2.2.1)
    have k_xCU : xCU W := by
      rw [hW]
      exact (uxCU (by decide +kernel) hI.2.2.2.2.2.2.2.2.2.2.2.2.2.2.2.1)
    have k_xG2 : xG2 W := by
      rw [hW]
      exact (uxG2 (by decide +kernel) hI.2.2.2.2.2.2.2.2.2.2.2.2.2.2.2.2.1)
    have k_xG3 : xG3 W := by
      rw [hW]
      exact (uxG3 (by decide +kernel) hI.2.2.2.2.2.2.2.2.2.2.2.2.2.2.2.2.2.1)
    have k_xG4 : xG4 W := by
      rw [hW]
      exact (uxG4 (by decide +kernel) hI.2.2.2.2.2.2.2.2.2.2.2.2.2.2.2.2.2.2.1)
    have k_xG5 : xG5 W := by
      rw [hW]
      exact (uxG5 (by decide +kernel) hI.2.2.2.2.2.2.2.2.2.2.2.2.2.2.2.2.2.2.2.1)
    have k_xG6 : xG6 W := by
      rw [hW]
      exact (uxG6 (by decide +kernel) hI.2.2.2.2.2.2.2.2.2.2.2.2.2.2.2.2.2.2.2.2.1)
    have k_xS1 : xS1 W := by
      rw [hW]
      exact (uxS1 (by decide +kernel) hI.2.2.2.2.2.2.2.2.2.2.2.2.2.2.2.2.2.2.2.2.2.1)
    have k_xS2 : xS2 W := by
      rw [hW]
      exact (uxS2 (by decide +kernel) hI.2.2.2.2.2.2.2.2.2.2.2.2.2.2.2.2.2.2.2.2.2.2.1)
    have k_xS3 : xS3 W := by
      rw [hW]
      exact (uxS3 (by decide +kernel) hI.2.2.2.2.2.2.2.2.2.2.2.2.2.2.2.2.2.2.2.2.2.2.2.1)
    have k_xS4 : xS4 W := by
      have r : W 4 100 = 2 := by
        have e := m0
        rw [hW, sU_ne (fun z => by omega)]
        omega
      intro h
      rw [r] at h
      omega
    have k_xS5 : xS5 W := by
      have r4_100 : W 4 100 = M 4 100 := by rw [hW, sU_ne (fun z => by omega)]
      have r4_104 : W 4 104 = 5 * ρ 0 + 0 := by rw [hW, sU_at]
      have r4_105 : W 4 105 = M 4 105 := by rw [hW, sU_ne (fun z => by omega)]
      have r4_106 : W 4 106 = M 4 106 := by rw [hW, sU_ne (fun z => by omega)]
      have c3 : ∀ k, W 3 k = M 3 k := fun k => by rw [hW, sU_ne (fun z => by omega)]
      have e3 : W 3 = M 3 := funext c3
      have c94 : ∀ k, W 94 k = M 94 k := fun k => by rw [hW, sU_ne (fun z => by omega)]
      have e94 : W 94 = M 94 := funext c94
      have c100 : ∀ k, W 100 k = M 100 k := fun k => by rw [hW, sU_ne (fun z => by omega)]
      have e100 : W 100 = M 100 := funext c100
      have c104 : ∀ k, W 104 k = M 104 k := fun k => by rw [hW, sU_ne (fun z => by omega)]
      have e104 : W 104 = M 104 := funext c104
      intro h
      obtain ⟨a0, a1, a2⟩ := gx_xS5 hI (by omega)
      rw [r4_104, r4_105, r4_106, e3, e94, e100, e104]
      refine ⟨fun j hj ht => ?_, fun j hj ht => ?_, fun j hj ht => ?_⟩
      · by_cases hJ : j = 4
        · subst hJ
          show M 94 13 = M 3 64
          omega
        · exact a0 j hj (by (try rw [h0] at ht); omega)
      · exact a1 j hj (by omega)
      · exact a2 j hj (by omega)
    have k_xS6 : xS6 W := by
      rw [hW]
      exact (uxS6 (by decide +kernel) hI.2.2.2.2.2.2.2.2.2.2.2.2.2.2.2.2.2.2.2.2.2.2.2.2.2.2.1)
    have k_xS7 : xS7 W := by
      rw [hW]
      exact (uxS7 (by decide +kernel) hI.2.2.2.2.2.2.2.2.2.2.2.2.2.2.2.2.2.2.2.2.2.2.2.2.2.2.2.1)
    have k_xS8 : xS8 W := by
      rw [hW]
      exact (uxS8 (by decide +kernel) hI.2.2.2.2.2.2.2.2.2.2.2.2.2.2.2.2.2.2.2.2.2.2.2.2.2.2.2.2.1)
    have k_xS9 : xS9 W := by
      rw [hW]
      exact (uxS9 (by decide +kernel) hI.2.2.2.2.2.2.2.2.2.2.2.2.2.2.2.2.2.2.2.2.2.2.2.2.2.2.2.2.2.1)
    have k_xSA : xSA W := by
      rw [hW]
      exact (uxSA (by decide +kernel) hI.2.2.2.2.2.2.2.2.2.2.2.2.2.2.2.2.2.2.2.2.2.2.2.2.2.2.2.2.2.2.1)
    have k_xSG : xSG W := by
      rw [hW]
      exact (uxSG (by decide +kernel) hI.2.2.2.2.2.2.2.2.2.2.2.2.2.2.2.2.2.2.2.2.2.2.2.2.2.2.2.2.2.2.2.1)
    have k_xSF : xSF W := by
      rw [hW]
      exact (uxSF (by decide +kernel) hI.2.2.2.2.2.2.2.2.2.2.2.2.2.2.2.2.2.2.2.2.2.2.2.2.2.2.2.2.2.2.2.2.1)
    have k_xSB : xSB W := by
      rw [hW]
      exact (uxSB (by decide +kernel) hI.2.2.2.2.2.2.2.2.2.2.2.2.2.2.2.2.2.2.2.2.2.2.2.2.2.2.2.2.2.2.2.2.2.1)
    have k_xSC : xSC W := by
      rw [hW]
      exact (uxSC (by decide +kernel) hI.2.2.2.2.2.2.2.2.2.2.2.2.2.2.2.2.2.2.2.2.2.2.2.2.2.2.2.2.2.2.2.2.2.2.1)
    have k_xSD : xSD W := by
      rw [hW]
      exact (uxSD (by decide +kernel) hI.2.2.2.2.2.2.2.2.2.2.2.2.2.2.2.2.2.2.2.2.2.2.2.2.2.2.2.2.2.2.2.2.2.2.2.1)
    have k_xSE : xSE W := by
      rw [hW]
      exact (uxSE (by decide +kernel) hI.2.2.2.2.2.2.2.2.2.2.2.2.2.2.2.2.2.2.2.2.2.2.2.2.2.2.2.2.2.2.2.2.2.2.2.2.1)
    have k_xSW : xSW W := by
      rw [hW]
      exact (uxSW (by decide +kernel) hI.2.2.2.2.2.2.2.2.2.2.2.2.2.2.2.2.2.2.2.2.2.2.2.2.2.2.2.2.2.2.2.2.2.2.2.2.2.1)
    have k_xST : xST W := by
      rw [hW]
      exact (uxST (by decide +kernel) hI.2.2.2.2.2.2.2.2.2.2.2.2.2.2.2.2.2.2.2.2.2.2.2.2.2.2.2.2.2.2.2.2.2.2.2.2.2.2.1)
    have k_xSP : xSP W := by
      rw [hW]
      exact (uxSP (by decide +kernel) hI.2.2.2.2.2.2.2.2.2.2.2.2.2.2.2.2.2.2.2.2.2.2.2.2.2.2.2.2.2.2.2.2.2.2.2.2.2.2.2.1)
    have k_xSL : xSL W := by
      rw [hW]
      exact (uxSL (by decide +kernel) hI.2.2.2.2.2.2.2.2.2.2.2.2.2.2.2.2.2.2.2.2.2.2.2.2.2.2.2.2.2.2.2.2.2.2.2.2.2.2.2.2.1)
    have k_xSM : xSM W := by
      rw [hW]
      exact (uxSM (by decide +kernel) hI.2.2.2.2.2.2.2.2.2.2.2.2.2.2.2.2.2.2.2.2.2.2.2.2.2.2.2.2.2.2.2.2.2.2.2.2.2.2.2.2.2.1)
    have k_xSI : xSI W := by
      rw [hW]
      exact (uxSI (by decide +kernel) hI.2.2.2.2.2.2.2.2.2.2.2.2.2.2.2.2.2.2.2.2.2.2.2.2.2.2.2.2.2.2.2.2.2.2.2.2.2.2.2.2.2.2)
    have k_XC : XC W := ⟨k_xS1, k_xS2, k_xS3, k_xS4, k_xS5, k_xS6, k_xS7, k_xS8, k_xS9, k_xSA, k_xSG, k_xSF, k_xSB, k_xSC, k_xSD, k_xSE, k_xSW, k_xST, k_xSP, k_xSL, k_xSM, k_xSI⟩
    have kXB : XB W := ⟨k_xN1, k_xN2, k_xN3, k_xN4, k_xN5, k_xN6, k_xH1, k_xK1, k_xC1, k_xRW, k_xWT, k_xCU, k_xG2, k_xG3, k_xG4, k_xG5, k_xG6, k_XC⟩
    exact ⟨base, k2, k3, kXA, kXB⟩
-- nmTieR94_5
def xr_562 : qRu := (4, [[(-6, 0), (1, 3)]], [(4, 100, [(2, 0)]), (4, 104, [(1, 3)]), (94, 14, [(1, 1)]), (3, 65, [(1, 2)])], [], [], [[(1, 1), (-1, 2)], [(-1, 1), (1, 2)]])
theorem xo_562 : qRok xr_562 := by
  intro ρ M h0 hf hm hI
  have f0 := hf [(-6, 0), (1, 3)] (by decide)
  simp only [qD, h0] at f0
  have m0 : M 4 100 = 2 * ρ 0 + 0 := hm (4, 100, [(2, 0)]) (by decide)
  have m1 : M 4 104 = 1 * ρ 3 + 0 := hm (4, 104, [(1, 3)]) (by decide)
  have m2 : M 94 14 = 1 * ρ 1 + 0 := hm (94, 14, [(1, 1)]) (by decide)
  have m3 : M 3 65 = 1 * ρ 2 + 0 := hm (3, 65, [(1, 2)]) (by decide)
  simp only [h0] at m0
  obtain ⟨a0, a1, a2⟩ := gx_xS5 hI (by omega)
  have t := a0 5 (by omega) (by omega)
  have t : M 94 14 = M 3 65 := t
  refine ⟨ρ, fun _ _ => rfl, fun f h => ?_, ?_⟩
  · have h : f ∈ ([[(1, 1), (-1, 2)], [(-1, 1), (1, 2)]] : List qF) := h
    simp only [List.mem_cons, List.not_mem_nil, or_false] at h
    rcases h with rfl | rfl
    · show 0 ≤ 1 * ρ 1 + (-1 * ρ 2 + 0)
      (try rw [h0]); omega
    · show 0 ≤ -1 * ρ 1 + (1 * ρ 2 + 0)
      (try rw [h0]); omega
  · show sI M
    exact hI
-- nmUpR94_5
def xr_563 : qRu := (3, [[(1, 1), (-1, 2)], [(-1, 1), (1, 2)]], [(4, 100, [(2, 0)]), (4, 104, [(5, 0)]), (94, 14, [(1, 1)]), (3, 65, [(1, 2)])], [], [(4, 104, [(6, 0)])], [])
theorem xo_563 : qRok xr_563 := by
  intro ρ M h0 hf hm hI
  have f0 := hf [(1, 1), (-1, 2)] (by decide)
  have f1 := hf [(-1, 1), (1, 2)] (by decide)
  simp only [qD, h0] at f0 f1
  have m0 : M 4 100 = 2 * ρ 0 + 0 := hm (4, 100, [(2, 0)]) (by decide)
  have m1 : M 4 104 = 5 * ρ 0 + 0 := hm (4, 104, [(5, 0)]) (by decide)
  have m2 : M 94 14 = 1 * ρ 1 + 0 := hm (94, 14, [(1, 1)]) (by decide)
  have m3 : M 3 65 = 1 * ρ 2 + 0 := hm (3, 65, [(1, 2)]) (by decide)
  simp only [h0] at m0 m1
  have qxS5 := hI.2.2.2.2.2.2.2.2.2.2.2.2.2.2.2.2.2.2.2.2.2.2.2.2.2.1
  refine ⟨ρ, fun _ _ => rfl, fun f h => ?_, ?_⟩
  · exact nomatch h
  · show sI (sU M 4 104 (6 * ρ 0 + 0))
    obtain ⟨W, hW⟩ : ∃ W, W = (sU M 4 104 (6 * ρ 0 + 0)) := ⟨_, rfl⟩
    rw [← hW]
    have base : sI0 W := by
      rw [hW]
      exact (si_u0 hI.1 (fun r hr => by cases hr))
    have k2 : XI2 W := by
      rw [hW]
      exact (xi2_u (by decide +kernel) hI.2.1)
    have k3 : XI3 W := by
      rw [hW]
      exact (xi3_u (by decide +kernel) hI.2.2.1)
    have kXA : XA W := by
      rw [hW]
      exact (uXA (by decide +kernel) hI.2.2.2.1)
    have k_xN1 : xN1 W := by
      rw [hW]
      exact (uxN1 (by decide +kernel) hI.2.2.2.2.1)
    have k_xN2 : xN2 W := by
      rw [hW]
      exact (uxN2 (by decide +kernel) hI.2.2.2.2.2.1)
    have k_xN3 : xN3 W := by
      rw [hW]
      exact (uxN3 (by decide +kernel) hI.2.2.2.2.2.2.1)
    have k_xN4 : xN4 W := by
      rw [hW]
      exact (uxN4 (by decide +kernel) hI.2.2.2.2.2.2.2.1)
    have k_xN5 : xN5 W := by
      rw [hW]
      exact (uxN5 (by decide +kernel) hI.2.2.2.2.2.2.2.2.1)
    have k_xN6 : xN6 W := by
      rw [hW]
      exact (uxN6 (by decide +kernel) hI.2.2.2.2.2.2.2.2.2.1)
    have k_xH1 : xH1 W := by
      rw [hW]
      exact (uxH1 (by decide +kernel) hI.2.2.2.2.2.2.2.2.2.2.1)
    have k_xK1 : xK1 W := by
      rw [hW]
      exact (uxK1 (by decide +kernel) hI.2.2.2.2.2.2.2.2.2.2.2.1)
    have k_xC1 : xC1 W := by
      rw [hW]
      exact (uxC1 (by decide +kernel) hI.2.2.2.2.2.2.2.2.2.2.2.2.1)
    have k_xRW : xRW W := by
      rw [hW]
      exact (uxRW (by decide +kernel) hI.2.2.2.2.2.2.2.2.2.2.2.2.2.1)
    have k_xWT : xWT W := by
      rw [hW]
      exact (uxWT (by decide +kernel) hI.2.2.2.2.2.2.2.2.2.2.2.2.2.2.1)
    have k_xCU : xCU W := by
      rw [hW]
      exact (uxCU (by decide +kernel) hI.2.2.2.2.2.2.2.2.2.2.2.2.2.2.2.1)
    have k_xG2 : xG2 W := by
      rw [hW]
      exact (uxG2 (by decide +kernel) hI.2.2.2.2.2.2.2.2.2.2.2.2.2.2.2.2.1)
    have k_xG3 : xG3 W := by
      rw [hW]
      exact (uxG3 (by decide +kernel) hI.2.2.2.2.2.2.2.2.2.2.2.2.2.2.2.2.2.1)
    have k_xG4 : xG4 W := by
      rw [hW]
      exact (uxG4 (by decide +kernel) hI.2.2.2.2.2.2.2.2.2.2.2.2.2.2.2.2.2.2.1)
    have k_xG5 : xG5 W := by
      rw [hW]
      exact (uxG5 (by decide +kernel) hI.2.2.2.2.2.2.2.2.2.2.2.2.2.2.2.2.2.2.2.1)
    have k_xG6 : xG6 W := by
      rw [hW]
      exact (uxG6 (by decide +kernel) hI.2.2.2.2.2.2.2.2.2.2.2.2.2.2.2.2.2.2.2.2.1)
    have k_xS1 : xS1 W := by
      rw [hW]
      exact (uxS1 (by decide +kernel) hI.2.2.2.2.2.2.2.2.2.2.2.2.2.2.2.2.2.2.2.2.2.1)
    have k_xS2 : xS2 W := by
      rw [hW]
      exact (uxS2 (by decide +kernel) hI.2.2.2.2.2.2.2.2.2.2.2.2.2.2.2.2.2.2.2.2.2.2.1)
    have k_xS3 : xS3 W := by
      rw [hW]
      exact (uxS3 (by decide +kernel) hI.2.2.2.2.2.2.2.2.2.2.2.2.2.2.2.2.2.2.2.2.2.2.2.1)
    have k_xS4 : xS4 W := by
      have r : W 4 100 = 2 := by
        have e := m0
        rw [hW, sU_ne (fun z => by omega)]
        omega
      intro h
      rw [r] at h
      omega
    have k_xS5 : xS5 W := by
      have r4_100 : W 4 100 = M 4 100 := by rw [hW, sU_ne (fun z => by omega)]
      have r4_104 : W 4 104 = 6 * ρ 0 + 0 := by rw [hW, sU_at]
      have r4_105 : W 4 105 = M 4 105 := by rw [hW, sU_ne (fun z => by omega)]
      have r4_106 : W 4 106 = M 4 106 := by rw [hW, sU_ne (fun z => by omega)]
      have c3 : ∀ k, W 3 k = M 3 k := fun k => by rw [hW, sU_ne (fun z => by omega)]
      have e3 : W 3 = M 3 := funext c3
      have c94 : ∀ k, W 94 k = M 94 k := fun k => by rw [hW, sU_ne (fun z => by omega)]
      have e94 : W 94 = M 94 := funext c94
      have c100 : ∀ k, W 100 k = M 100 k := fun k => by rw [hW, sU_ne (fun z => by omega)]
      have e100 : W 100 = M 100 := funext c100
      have c104 : ∀ k, W 104 k = M 104 k := fun k => by rw [hW, sU_ne (fun z => by omega)]
      have e104 : W 104 = M 104 := funext c104
      intro h
      obtain ⟨a0, a1, a2⟩ := gx_xS5 hI (by omega)
      rw [r4_104, r4_105, r4_106, e3, e94, e100, e104]
      refine ⟨fun j hj ht => ?_, fun j hj ht => ?_, fun j hj ht => ?_⟩
      · by_cases hJ : j = 5
        · subst hJ
          show M 94 14 = M 3 65
          omega
        · exact a0 j hj (by (try rw [h0] at ht); omega)
      · exact a1 j hj (by omega)
      · exact a2 j hj (by omega)
    have k_xS6 : xS6 W := by
      rw [hW]
      exact (uxS6 (by decide +kernel) hI.2.2.2.2.2.2.2.2.2.2.2.2.2.2.2.2.2.2.2.2.2.2.2.2.2.2.1)
    have k_xS7 : xS7 W := by
      rw [hW]
      exact (uxS7 (by decide +kernel) hI.2.2.2.2.2.2.2.2.2.2.2.2.2.2.2.2.2.2.2.2.2.2.2.2.2.2.2.1)
    have k_xS8 : xS8 W := by
      rw [hW]
      exact (uxS8 (by decide +kernel) hI.2.2.2.2.2.2.2.2.2.2.2.2.2.2.2.2.2.2.2.2.2.2.2.2.2.2.2.2.1)
    have k_xS9 : xS9 W := by
      rw [hW]
      exact (uxS9 (by decide +kernel) hI.2.2.2.2.2.2.2.2.2.2.2.2.2.2.2.2.2.2.2.2.2.2.2.2.2.2.2.2.2.1)
    have k_xSA : xSA W := by
      rw [hW]
      exact (uxSA (by decide +kernel) hI.2.2.2.2.2.2.2.2.2.2.2.2.2.2.2.2.2.2.2.2.2.2.2.2.2.2.2.2.2.2.1)
    have k_xSG : xSG W := by
      rw [hW]
      exact (uxSG (by decide +kernel) hI.2.2.2.2.2.2.2.2.2.2.2.2.2.2.2.2.2.2.2.2.2.2.2.2.2.2.2.2.2.2.2.1)
    have k_xSF : xSF W := by
      rw [hW]
      exact (uxSF (by decide +kernel) hI.2.2.2.2.2.2.2.2.2.2.2.2.2.2.2.2.2.2.2.2.2.2.2.2.2.2.2.2.2.2.2.2.1)
    have k_xSB : xSB W := by
      rw [hW]
      exact (uxSB (by decide +kernel) hI.2.2.2.2.2.2.2.2.2.2.2.2.2.2.2.2.2.2.2.2.2.2.2.2.2.2.2.2.2.2.2.2.2.1)
    have k_xSC : xSC W := by
      rw [hW]
      exact (uxSC (by decide +kernel) hI.2.2.2.2.2.2.2.2.2.2.2.2.2.2.2.2.2.2.2.2.2.2.2.2.2.2.2.2.2.2.2.2.2.2.1)
    have k_xSD : xSD W := by
      rw [hW]
      exact (uxSD (by decide +kernel) hI.2.2.2.2.2.2.2.2.2.2.2.2.2.2.2.2.2.2.2.2.2.2.2.2.2.2.2.2.2.2.2.2.2.2.2.1)
    have k_xSE : xSE W := by
      rw [hW]
      exact (uxSE (by decide +kernel) hI.2.2.2.2.2.2.2.2.2.2.2.2.2.2.2.2.2.2.2.2.2.2.2.2.2.2.2.2.2.2.2.2.2.2.2.2.1)
    have k_xSW : xSW W := by
      rw [hW]
      exact (uxSW (by decide +kernel) hI.2.2.2.2.2.2.2.2.2.2.2.2.2.2.2.2.2.2.2.2.2.2.2.2.2.2.2.2.2.2.2.2.2.2.2.2.2.1)
    have k_xST : xST W := by
      rw [hW]
      exact (uxST (by decide +kernel) hI.2.2.2.2.2.2.2.2.2.2.2.2.2.2.2.2.2.2.2.2.2.2.2.2.2.2.2.2.2.2.2.2.2.2.2.2.2.2.1)
    have k_xSP : xSP W := by
      rw [hW]
      exact (uxSP (by decide +kernel) hI.2.2.2.2.2.2.2.2.2.2.2.2.2.2.2.2.2.2.2.2.2.2.2.2.2.2.2.2.2.2.2.2.2.2.2.2.2.2.2.1)
    have k_xSL : xSL W := by
      rw [hW]
      exact (uxSL (by decide +kernel) hI.2.2.2.2.2.2.2.2.2.2.2.2.2.2.2.2.2.2.2.2.2.2.2.2.2.2.2.2.2.2.2.2.2.2.2.2.2.2.2.2.1)
    have k_xSM : xSM W := by
      rw [hW]
      exact (uxSM (by decide +kernel) hI.2.2.2.2.2.2.2.2.2.2.2.2.2.2.2.2.2.2.2.2.2.2.2.2.2.2.2.2.2.2.2.2.2.2.2.2.2.2.2.2.2.1)
    have k_xSI : xSI W := by
      rw [hW]
      exact (uxSI (by decide +kernel) hI.2.2.2.2.2.2.2.2.2.2.2.2.2.2.2.2.2.2.2.2.2.2.2.2.2.2.2.2.2.2.2.2.2.2.2.2.2.2.2.2.2.2)
    have k_XC : XC W := ⟨k_xS1, k_xS2, k_xS3, k_xS4, k_xS5, k_xS6, k_xS7, k_xS8, k_xS9, k_xSA, k_xSG, k_xSF, k_xSB, k_xSC, k_xSD, k_xSE, k_xSW, k_xST, k_xSP, k_xSL, k_xSM, k_xSI⟩
    have kXB : XB W := ⟨k_xN1, k_xN2, k_xN3, k_xN4, k_xN5, k_xN6, k_xH1, k_xK1, k_xC1, k_xRW, k_xWT, k_xCU, k_xG2, k_xG3, k_xG4, k_xG5, k_xG6, k_XC⟩
    exact ⟨base, k2, k3, kXA, kXB⟩
-- nmTieR94_6
def xr_564 : qRu := (4, [[(-7, 0), (1, 3)]], [(4, 100, [(2, 0)]), (4, 104, [(1, 3)]), (94, 15, [(1, 1)]), (3, 66, [(1, 2)])], [], [], [[(1, 1), (-1, 2)], [(-1, 1), (1, 2)]])
theorem xo_564 : qRok xr_564 := by
  intro ρ M h0 hf hm hI
  have f0 := hf [(-7, 0), (1, 3)] (by decide)
  simp only [qD, h0] at f0
  have m0 : M 4 100 = 2 * ρ 0 + 0 := hm (4, 100, [(2, 0)]) (by decide)
  have m1 : M 4 104 = 1 * ρ 3 + 0 := hm (4, 104, [(1, 3)]) (by decide)
  have m2 : M 94 15 = 1 * ρ 1 + 0 := hm (94, 15, [(1, 1)]) (by decide)
  have m3 : M 3 66 = 1 * ρ 2 + 0 := hm (3, 66, [(1, 2)]) (by decide)
  simp only [h0] at m0
  obtain ⟨a0, a1, a2⟩ := gx_xS5 hI (by omega)
  have t := a0 6 (by omega) (by omega)
  have t : M 94 15 = M 3 66 := t
  refine ⟨ρ, fun _ _ => rfl, fun f h => ?_, ?_⟩
  · have h : f ∈ ([[(1, 1), (-1, 2)], [(-1, 1), (1, 2)]] : List qF) := h
    simp only [List.mem_cons, List.not_mem_nil, or_false] at h
    rcases h with rfl | rfl
    · show 0 ≤ 1 * ρ 1 + (-1 * ρ 2 + 0)
      (try rw [h0]); omega
    · show 0 ≤ -1 * ρ 1 + (1 * ρ 2 + 0)
      (try rw [h0]); omega
  · show sI M
    exact hI
-- nmUpR94_6
def xr_565 : qRu := (3, [[(1, 1), (-1, 2)], [(-1, 1), (1, 2)]], [(4, 100, [(2, 0)]), (4, 104, [(6, 0)]), (94, 15, [(1, 1)]), (3, 66, [(1, 2)])], [], [(4, 104, [(7, 0)])], [])
theorem xo_565 : qRok xr_565 := by
  intro ρ M h0 hf hm hI
  have f0 := hf [(1, 1), (-1, 2)] (by decide)
  have f1 := hf [(-1, 1), (1, 2)] (by decide)
  simp only [qD, h0] at f0 f1
  have m0 : M 4 100 = 2 * ρ 0 + 0 := hm (4, 100, [(2, 0)]) (by decide)
  have m1 : M 4 104 = 6 * ρ 0 + 0 := hm (4, 104, [(6, 0)]) (by decide)
  have m2 : M 94 15 = 1 * ρ 1 + 0 := hm (94, 15, [(1, 1)]) (by decide)
  have m3 : M 3 66 = 1 * ρ 2 + 0 := hm (3, 66, [(1, 2)]) (by decide)
  simp only [h0] at m0 m1
  have qxS5 := hI.2.2.2.2.2.2.2.2.2.2.2.2.2.2.2.2.2.2.2.2.2.2.2.2.2.1
  refine ⟨ρ, fun _ _ => rfl, fun f h => ?_, ?_⟩
  · exact nomatch h
  · show sI (sU M 4 104 (7 * ρ 0 + 0))
    obtain ⟨W, hW⟩ : ∃ W, W = (sU M 4 104 (7 * ρ 0 + 0)) := ⟨_, rfl⟩
    rw [← hW]
    have base : sI0 W := by
      rw [hW]
      exact (si_u0 hI.1 (fun r hr => by cases hr))
    have k2 : XI2 W := by
      rw [hW]
      exact (xi2_u (by decide +kernel) hI.2.1)
    have k3 : XI3 W := by
      rw [hW]
      exact (xi3_u (by decide +kernel) hI.2.2.1)
    have kXA : XA W := by
      rw [hW]
      exact (uXA (by decide +kernel) hI.2.2.2.1)
    have k_xN1 : xN1 W := by
      rw [hW]
      exact (uxN1 (by decide +kernel) hI.2.2.2.2.1)
    have k_xN2 : xN2 W := by
      rw [hW]
      exact (uxN2 (by decide +kernel) hI.2.2.2.2.2.1)
    have k_xN3 : xN3 W := by
      rw [hW]
      exact (uxN3 (by decide +kernel) hI.2.2.2.2.2.2.1)
    have k_xN4 : xN4 W := by
      rw [hW]
      exact (uxN4 (by decide +kernel) hI.2.2.2.2.2.2.2.1)
    have k_xN5 : xN5 W := by
      rw [hW]
      exact (uxN5 (by decide +kernel) hI.2.2.2.2.2.2.2.2.1)
    have k_xN6 : xN6 W := by
      rw [hW]
      exact (uxN6 (by decide +kernel) hI.2.2.2.2.2.2.2.2.2.1)
    have k_xH1 : xH1 W := by
      rw [hW]
      exact (uxH1 (by decide +kernel) hI.2.2.2.2.2.2.2.2.2.2.1)
    have k_xK1 : xK1 W := by
      rw [hW]
      exact (uxK1 (by decide +kernel) hI.2.2.2.2.2.2.2.2.2.2.2.1)
    have k_xC1 : xC1 W := by
      rw [hW]
      exact (uxC1 (by decide +kernel) hI.2.2.2.2.2.2.2.2.2.2.2.2.1)
    have k_xRW : xRW W := by
      rw [hW]
      exact (uxRW (by decide +kernel) hI.2.2.2.2.2.2.2.2.2.2.2.2.2.1)
    have k_xWT : xWT W := by
      rw [hW]
      exact (uxWT (by decide +kernel) hI.2.2.2.2.2.2.2.2.2.2.2.2.2.2.1)
    have k_xCU : xCU W := by
      rw [hW]
      exact (uxCU (by decide +kernel) hI.2.2.2.2.2.2.2.2.2.2.2.2.2.2.2.1)
    have k_xG2 : xG2 W := by
      rw [hW]
      exact (uxG2 (by decide +kernel) hI.2.2.2.2.2.2.2.2.2.2.2.2.2.2.2.2.1)
    have k_xG3 : xG3 W := by
      rw [hW]
      exact (uxG3 (by decide +kernel) hI.2.2.2.2.2.2.2.2.2.2.2.2.2.2.2.2.2.1)
    have k_xG4 : xG4 W := by
      rw [hW]
      exact (uxG4 (by decide +kernel) hI.2.2.2.2.2.2.2.2.2.2.2.2.2.2.2.2.2.2.1)
    have k_xG5 : xG5 W := by
      rw [hW]
      exact (uxG5 (by decide +kernel) hI.2.2.2.2.2.2.2.2.2.2.2.2.2.2.2.2.2.2.2.1)
    have k_xG6 : xG6 W := by
      rw [hW]
      exact (uxG6 (by decide +kernel) hI.2.2.2.2.2.2.2.2.2.2.2.2.2.2.2.2.2.2.2.2.1)
    have k_xS1 : xS1 W := by
      rw [hW]
      exact (uxS1 (by decide +kernel) hI.2.2.2.2.2.2.2.2.2.2.2.2.2.2.2.2.2.2.2.2.2.1)
    have k_xS2 : xS2 W := by
      rw [hW]
      exact (uxS2 (by decide +kernel) hI.2.2.2.2.2.2.2.2.2.2.2.2.2.2.2.2.2.2.2.2.2.2.1)
    have k_xS3 : xS3 W := by
      rw [hW]
      exact (uxS3 (by decide +kernel) hI.2.2.2.2.2.2.2.2.2.2.2.2.2.2.2.2.2.2.2.2.2.2.2.1)
    have k_xS4 : xS4 W := by
      have r : W 4 100 = 2 := by
        have e := m0
        rw [hW, sU_ne (fun z => by omega)]
        omega
      intro h
      rw [r] at h
      omega
    have k_xS5 : xS5 W := by
      have r4_100 : W 4 100 = M 4 100 := by rw [hW, sU_ne (fun z => by omega)]
      have r4_104 : W 4 104 = 7 * ρ 0 + 0 := by rw [hW, sU_at]
      have r4_105 : W 4 105 = M 4 105 := by rw [hW, sU_ne (fun z => by omega)]
      have r4_106 : W 4 106 = M 4 106 := by rw [hW, sU_ne (fun z => by omega)]
      have c3 : ∀ k, W 3 k = M 3 k := fun k => by rw [hW, sU_ne (fun z => by omega)]
      have e3 : W 3 = M 3 := funext c3
      have c94 : ∀ k, W 94 k = M 94 k := fun k => by rw [hW, sU_ne (fun z => by omega)]
      have e94 : W 94 = M 94 := funext c94
      have c100 : ∀ k, W 100 k = M 100 k := fun k => by rw [hW, sU_ne (fun z => by omega)]
      have e100 : W 100 = M 100 := funext c100
      have c104 : ∀ k, W 104 k = M 104 k := fun k => by rw [hW, sU_ne (fun z => by omega)]
      have e104 : W 104 = M 104 := funext c104
      intro h
      obtain ⟨a0, a1, a2⟩ := gx_xS5 hI (by omega)
      rw [r4_104, r4_105, r4_106, e3, e94, e100, e104]
      refine ⟨fun j hj ht => ?_, fun j hj ht => ?_, fun j hj ht => ?_⟩
      · by_cases hJ : j = 6
        · subst hJ
          show M 94 15 = M 3 66
          omega
        · exact a0 j hj (by (try rw [h0] at ht); omega)
      · exact a1 j hj (by omega)
      · exact a2 j hj (by omega)
    have k_xS6 : xS6 W := by
      rw [hW]
      exact (uxS6 (by decide +kernel) hI.2.2.2.2.2.2.2.2.2.2.2.2.2.2.2.2.2.2.2.2.2.2.2.2.2.2.1)
    have k_xS7 : xS7 W := by
      rw [hW]
      exact (uxS7 (by decide +kernel) hI.2.2.2.2.2.2.2.2.2.2.2.2.2.2.2.2.2.2.2.2.2.2.2.2.2.2.2.1)
    have k_xS8 : xS8 W := by
      rw [hW]
      exact (uxS8 (by decide +kernel) hI.2.2.2.2.2.2.2.2.2.2.2.2.2.2.2.2.2.2.2.2.2.2.2.2.2.2.2.2.1)
    have k_xS9 : xS9 W := by
      rw [hW]
      exact (uxS9 (by decide +kernel) hI.2.2.2.2.2.2.2.2.2.2.2.2.2.2.2.2.2.2.2.2.2.2.2.2.2.2.2.2.2.1)
    have k_xSA : xSA W := by
      rw [hW]
      exact (uxSA (by decide +kernel) hI.2.2.2.2.2.2.2.2.2.2.2.2.2.2.2.2.2.2.2.2.2.2.2.2.2.2.2.2.2.2.1)
    have k_xSG : xSG W := by
      rw [hW]
      exact (uxSG (by decide +kernel) hI.2.2.2.2.2.2.2.2.2.2.2.2.2.2.2.2.2.2.2.2.2.2.2.2.2.2.2.2.2.2.2.1)
    have k_xSF : xSF W := by
      rw [hW]
      exact (uxSF (by decide +kernel) hI.2.2.2.2.2.2.2.2.2.2.2.2.2.2.2.2.2.2.2.2.2.2.2.2.2.2.2.2.2.2.2.2.1)
    have k_xSB : xSB W := by
      rw [hW]
      exact (uxSB (by decide +kernel) hI.2.2.2.2.2.2.2.2.2.2.2.2.2.2.2.2.2.2.2.2.2.2.2.2.2.2.2.2.2.2.2.2.2.1)
    have k_xSC : xSC W := by
      rw [hW]
      exact (uxSC (by decide +kernel) hI.2.2.2.2.2.2.2.2.2.2.2.2.2.2.2.2.2.2.2.2.2.2.2.2.2.2.2.2.2.2.2.2.2.2.1)
    have k_xSD : xSD W := by
      rw [hW]
      exact (uxSD (by decide +kernel) hI.2.2.2.2.2.2.2.2.2.2.2.2.2.2.2.2.2.2.2.2.2.2.2.2.2.2.2.2.2.2.2.2.2.2.2.1)
    have k_xSE : xSE W := by
      rw [hW]
      exact (uxSE (by decide +kernel) hI.2.2.2.2.2.2.2.2.2.2.2.2.2.2.2.2.2.2.2.2.2.2.2.2.2.2.2.2.2.2.2.2.2.2.2.2.1)
    have k_xSW : xSW W := by
      rw [hW]
      exact (uxSW (by decide +kernel) hI.2.2.2.2.2.2.2.2.2.2.2.2.2.2.2.2.2.2.2.2.2.2.2.2.2.2.2.2.2.2.2.2.2.2.2.2.2.1)
    have k_xST : xST W := by
      rw [hW]
      exact (uxST (by decide +kernel) hI.2.2.2.2.2.2.2.2.2.2.2.2.2.2.2.2.2.2.2.2.2.2.2.2.2.2.2.2.2.2.2.2.2.2.2.2.2.2.1)
    have k_xSP : xSP W := by
      rw [hW]
      exact (uxSP (by decide +kernel) hI.2.2.2.2.2.2.2.2.2.2.2.2.2.2.2.2.2.2.2.2.2.2.2.2.2.2.2.2.2.2.2.2.2.2.2.2.2.2.2.1)
    have k_xSL : xSL W := by
      rw [hW]
      exact (uxSL (by decide +kernel) hI.2.2.2.2.2.2.2.2.2.2.2.2.2.2.2.2.2.2.2.2.2.2.2.2.2.2.2.2.2.2.2.2.2.2.2.2.2.2.2.2.1)
    have k_xSM : xSM W := by
      rw [hW]
      exact (uxSM (by decide +kernel) hI.2.2.2.2.2.2.2.2.2.2.2.2.2.2.2.2.2.2.2.2.2.2.2.2.2.2.2.2.2.2.2.2.2.2.2.2.2.2.2.2.2.1)
    have k_xSI : xSI W := by
      rw [hW]
      exact (uxSI (by decide +kernel) hI.2.2.2.2.2.2.2.2.2.2.2.2.2.2.2.2.2.2.2.2.2.2.2.2.2.2.2.2.2.2.2.2.2.2.2.2.2.2.2.2.2.2)
    have k_XC : XC W := ⟨k_xS1, k_xS2, k_xS3, k_xS4, k_xS5, k_xS6, k_xS7, k_xS8, k_xS9, k_xSA, k_xSG, k_xSF, k_xSB, k_xSC, k_xSD, k_xSE, k_xSW, k_xST, k_xSP, k_xSL, k_xSM, k_xSI⟩
    have kXB : XB W := ⟨k_xN1, k_xN2, k_xN3, k_xN4, k_xN5, k_xN6, k_xH1, k_xK1, k_xC1, k_xRW, k_xWT, k_xCU, k_xG2, k_xG3, k_xG4, k_xG5, k_xG6, k_XC⟩
    exact ⟨base, k2, k3, kXA, kXB⟩
-- nmTieR94_7
def xr_566 : qRu := (4, [[(-8, 0), (1, 3)]], [(4, 100, [(2, 0)]), (4, 104, [(1, 3)]), (94, 16, [(1, 1)]), (3, 67, [(1, 2)])], [], [], [[(1, 1), (-1, 2)], [(-1, 1), (1, 2)]])
theorem xo_566 : qRok xr_566 := by
  intro ρ M h0 hf hm hI
  have f0 := hf [(-8, 0), (1, 3)] (by decide)
  simp only [qD, h0] at f0
  have m0 : M 4 100 = 2 * ρ 0 + 0 := hm (4, 100, [(2, 0)]) (by decide)
  have m1 : M 4 104 = 1 * ρ 3 + 0 := hm (4, 104, [(1, 3)]) (by decide)
  have m2 : M 94 16 = 1 * ρ 1 + 0 := hm (94, 16, [(1, 1)]) (by decide)
  have m3 : M 3 67 = 1 * ρ 2 + 0 := hm (3, 67, [(1, 2)]) (by decide)
  simp only [h0] at m0
  obtain ⟨a0, a1, a2⟩ := gx_xS5 hI (by omega)
  have t := a0 7 (by omega) (by omega)
  have t : M 94 16 = M 3 67 := t
  refine ⟨ρ, fun _ _ => rfl, fun f h => ?_, ?_⟩
  · have h : f ∈ ([[(1, 1), (-1, 2)], [(-1, 1), (1, 2)]] : List qF) := h
    simp only [List.mem_cons, List.not_mem_nil, or_false] at h
    rcases h with rfl | rfl
    · show 0 ≤ 1 * ρ 1 + (-1 * ρ 2 + 0)
      (try rw [h0]); omega
    · show 0 ≤ -1 * ρ 1 + (1 * ρ 2 + 0)
      (try rw [h0]); omega
  · show sI M
    exact hI
-- nmUpR94_7
def xr_567 : qRu := (3, [[(1, 1), (-1, 2)], [(-1, 1), (1, 2)]], [(4, 100, [(2, 0)]), (4, 104, [(7, 0)]), (94, 16, [(1, 1)]), (3, 67, [(1, 2)])], [], [(4, 104, [(8, 0)])], [])
theorem xo_567 : qRok xr_567 := by
  intro ρ M h0 hf hm hI
  have f0 := hf [(1, 1), (-1, 2)] (by decide)
  have f1 := hf [(-1, 1), (1, 2)] (by decide)
  simp only [qD, h0] at f0 f1
  have m0 : M 4 100 = 2 * ρ 0 + 0 := hm (4, 100, [(2, 0)]) (by decide)
  have m1 : M 4 104 = 7 * ρ 0 + 0 := hm (4, 104, [(7, 0)]) (by decide)
  have m2 : M 94 16 = 1 * ρ 1 + 0 := hm (94, 16, [(1, 1)]) (by decide)
  have m3 : M 3 67 = 1 * ρ 2 + 0 := hm (3, 67, [(1, 2)]) (by decide)
  simp only [h0] at m0 m1
  have qxS5 := hI.2.2.2.2.2.2.2.2.2.2.2.2.2.2.2.2.2.2.2.2.2.2.2.2.2.1
  refine ⟨ρ, fun _ _ => rfl, fun f h => ?_, ?_⟩
  · exact nomatch h
  · show sI (sU M 4 104 (8 * ρ 0 + 0))
    obtain ⟨W, hW⟩ : ∃ W, W = (sU M 4 104 (8 * ρ 0 + 0)) := ⟨_, rfl⟩
    rw [← hW]
    have base : sI0 W := by
      rw [hW]
      exact (si_u0 hI.1 (fun r hr => by cases hr))
    have k2 : XI2 W := by
      rw [hW]
      exact (xi2_u (by decide +kernel) hI.2.1)
    have k3 : XI3 W := by
      rw [hW]
      exact (xi3_u (by decide +kernel) hI.2.2.1)
    have kXA : XA W := by
      rw [hW]
      exact (uXA (by decide +kernel) hI.2.2.2.1)
    have k_xN1 : xN1 W := by
      rw [hW]
      exact (uxN1 (by decide +kernel) hI.2.2.2.2.1)
    have k_xN2 : xN2 W := by
      rw [hW]
      exact (uxN2 (by decide +kernel) hI.2.2.2.2.2.1)
    have k_xN3 : xN3 W := by
      rw [hW]
      exact (uxN3 (by decide +kernel) hI.2.2.2.2.2.2.1)
    have k_xN4 : xN4 W := by
      rw [hW]
      exact (uxN4 (by decide +kernel) hI.2.2.2.2.2.2.2.1)
    have k_xN5 : xN5 W := by
      rw [hW]
      exact (uxN5 (by decide +kernel) hI.2.2.2.2.2.2.2.2.1)
    have k_xN6 : xN6 W := by
      rw [hW]
      exact (uxN6 (by decide +kernel) hI.2.2.2.2.2.2.2.2.2.1)
    have k_xH1 : xH1 W := by
      rw [hW]
      exact (uxH1 (by decide +kernel) hI.2.2.2.2.2.2.2.2.2.2.1)
    have k_xK1 : xK1 W := by
      rw [hW]
      exact (uxK1 (by decide +kernel) hI.2.2.2.2.2.2.2.2.2.2.2.1)
    have k_xC1 : xC1 W := by
      rw [hW]
      exact (uxC1 (by decide +kernel) hI.2.2.2.2.2.2.2.2.2.2.2.2.1)
    have k_xRW : xRW W := by
      rw [hW]
      exact (uxRW (by decide +kernel) hI.2.2.2.2.2.2.2.2.2.2.2.2.2.1)
    have k_xWT : xWT W := by
      rw [hW]
      exact (uxWT (by decide +kernel) hI.2.2.2.2.2.2.2.2.2.2.2.2.2.2.1)
    have k_xCU : xCU W := by
      rw [hW]
      exact (uxCU (by decide +kernel) hI.2.2.2.2.2.2.2.2.2.2.2.2.2.2.2.1)
    have k_xG2 : xG2 W := by
      rw [hW]
      exact (uxG2 (by decide +kernel) hI.2.2.2.2.2.2.2.2.2.2.2.2.2.2.2.2.1)
    have k_xG3 : xG3 W := by
      rw [hW]
      exact (uxG3 (by decide +kernel) hI.2.2.2.2.2.2.2.2.2.2.2.2.2.2.2.2.2.1)
    have k_xG4 : xG4 W := by
      rw [hW]
      exact (uxG4 (by decide +kernel) hI.2.2.2.2.2.2.2.2.2.2.2.2.2.2.2.2.2.2.1)
    have k_xG5 : xG5 W := by
      rw [hW]
      exact (uxG5 (by decide +kernel) hI.2.2.2.2.2.2.2.2.2.2.2.2.2.2.2.2.2.2.2.1)
    have k_xG6 : xG6 W := by
      rw [hW]
      exact (uxG6 (by decide +kernel) hI.2.2.2.2.2.2.2.2.2.2.2.2.2.2.2.2.2.2.2.2.1)
    have k_xS1 : xS1 W := by
      rw [hW]
      exact (uxS1 (by decide +kernel) hI.2.2.2.2.2.2.2.2.2.2.2.2.2.2.2.2.2.2.2.2.2.1)
    have k_xS2 : xS2 W := by
      rw [hW]
      exact (uxS2 (by decide +kernel) hI.2.2.2.2.2.2.2.2.2.2.2.2.2.2.2.2.2.2.2.2.2.2.1)
    have k_xS3 : xS3 W := by
      rw [hW]
      exact (uxS3 (by decide +kernel) hI.2.2.2.2.2.2.2.2.2.2.2.2.2.2.2.2.2.2.2.2.2.2.2.1)
    have k_xS4 : xS4 W := by
      have r : W 4 100 = 2 := by
        have e := m0
        rw [hW, sU_ne (fun z => by omega)]
        omega
      intro h
      rw [r] at h
      omega
    have k_xS5 : xS5 W := by
      have r4_100 : W 4 100 = M 4 100 := by rw [hW, sU_ne (fun z => by omega)]
      have r4_104 : W 4 104 = 8 * ρ 0 + 0 := by rw [hW, sU_at]
      have r4_105 : W 4 105 = M 4 105 := by rw [hW, sU_ne (fun z => by omega)]
      have r4_106 : W 4 106 = M 4 106 := by rw [hW, sU_ne (fun z => by omega)]
      have c3 : ∀ k, W 3 k = M 3 k := fun k => by rw [hW, sU_ne (fun z => by omega)]
      have e3 : W 3 = M 3 := funext c3
      have c94 : ∀ k, W 94 k = M 94 k := fun k => by rw [hW, sU_ne (fun z => by omega)]
      have e94 : W 94 = M 94 := funext c94
      have c100 : ∀ k, W 100 k = M 100 k := fun k => by rw [hW, sU_ne (fun z => by omega)]
      have e100 : W 100 = M 100 := funext c100
      have c104 : ∀ k, W 104 k = M 104 k := fun k => by rw [hW, sU_ne (fun z => by omega)]
      have e104 : W 104 = M 104 := funext c104
      intro h
      obtain ⟨a0, a1, a2⟩ := gx_xS5 hI (by omega)
      rw [r4_104, r4_105, r4_106, e3, e94, e100, e104]
      refine ⟨fun j hj ht => ?_, fun j hj ht => ?_, fun j hj ht => ?_⟩
      · by_cases hJ : j = 7
        · subst hJ
          show M 94 16 = M 3 67
          omega
        · exact a0 j hj (by (try rw [h0] at ht); omega)
      · exact a1 j hj (by omega)
      · exact a2 j hj (by omega)
    have k_xS6 : xS6 W := by
      rw [hW]
      exact (uxS6 (by decide +kernel) hI.2.2.2.2.2.2.2.2.2.2.2.2.2.2.2.2.2.2.2.2.2.2.2.2.2.2.1)
    have k_xS7 : xS7 W := by
      rw [hW]
      exact (uxS7 (by decide +kernel) hI.2.2.2.2.2.2.2.2.2.2.2.2.2.2.2.2.2.2.2.2.2.2.2.2.2.2.2.1)
    have k_xS8 : xS8 W := by
      rw [hW]
      exact (uxS8 (by decide +kernel) hI.2.2.2.2.2.2.2.2.2.2.2.2.2.2.2.2.2.2.2.2.2.2.2.2.2.2.2.2.1)
    have k_xS9 : xS9 W := by
      rw [hW]
      exact (uxS9 (by decide +kernel) hI.2.2.2.2.2.2.2.2.2.2.2.2.2.2.2.2.2.2.2.2.2.2.2.2.2.2.2.2.2.1)
    have k_xSA : xSA W := by
      rw [hW]
      exact (uxSA (by decide +kernel) hI.2.2.2.2.2.2.2.2.2.2.2.2.2.2.2.2.2.2.2.2.2.2.2.2.2.2.2.2.2.2.1)
    have k_xSG : xSG W := by
      rw [hW]
      exact (uxSG (by decide +kernel) hI.2.2.2.2.2.2.2.2.2.2.2.2.2.2.2.2.2.2.2.2.2.2.2.2.2.2.2.2.2.2.2.1)
    have k_xSF : xSF W := by
      rw [hW]
      exact (uxSF (by decide +kernel) hI.2.2.2.2.2.2.2.2.2.2.2.2.2.2.2.2.2.2.2.2.2.2.2.2.2.2.2.2.2.2.2.2.1)
    have k_xSB : xSB W := by
      rw [hW]
      exact (uxSB (by decide +kernel) hI.2.2.2.2.2.2.2.2.2.2.2.2.2.2.2.2.2.2.2.2.2.2.2.2.2.2.2.2.2.2.2.2.2.1)
    have k_xSC : xSC W := by
      rw [hW]
      exact (uxSC (by decide +kernel) hI.2.2.2.2.2.2.2.2.2.2.2.2.2.2.2.2.2.2.2.2.2.2.2.2.2.2.2.2.2.2.2.2.2.2.1)
    have k_xSD : xSD W := by
      rw [hW]
      exact (uxSD (by decide +kernel) hI.2.2.2.2.2.2.2.2.2.2.2.2.2.2.2.2.2.2.2.2.2.2.2.2.2.2.2.2.2.2.2.2.2.2.2.1)
    have k_xSE : xSE W := by
      rw [hW]
      exact (uxSE (by decide +kernel) hI.2.2.2.2.2.2.2.2.2.2.2.2.2.2.2.2.2.2.2.2.2.2.2.2.2.2.2.2.2.2.2.2.2.2.2.2.1)
    have k_xSW : xSW W := by
      rw [hW]
      exact (uxSW (by decide +kernel) hI.2.2.2.2.2.2.2.2.2.2.2.2.2.2.2.2.2.2.2.2.2.2.2.2.2.2.2.2.2.2.2.2.2.2.2.2.2.1)
    have k_xST : xST W := by
      rw [hW]
      exact (uxST (by decide +kernel) hI.2.2.2.2.2.2.2.2.2.2.2.2.2.2.2.2.2.2.2.2.2.2.2.2.2.2.2.2.2.2.2.2.2.2.2.2.2.2.1)
    have k_xSP : xSP W := by
      rw [hW]
      exact (uxSP (by decide +kernel) hI.2.2.2.2.2.2.2.2.2.2.2.2.2.2.2.2.2.2.2.2.2.2.2.2.2.2.2.2.2.2.2.2.2.2.2.2.2.2.2.1)
    have k_xSL : xSL W := by
      rw [hW]
      exact (uxSL (by decide +kernel) hI.2.2.2.2.2.2.2.2.2.2.2.2.2.2.2.2.2.2.2.2.2.2.2.2.2.2.2.2.2.2.2.2.2.2.2.2.2.2.2.2.1)
    have k_xSM : xSM W := by
      rw [hW]
      exact (uxSM (by decide +kernel) hI.2.2.2.2.2.2.2.2.2.2.2.2.2.2.2.2.2.2.2.2.2.2.2.2.2.2.2.2.2.2.2.2.2.2.2.2.2.2.2.2.2.1)
    have k_xSI : xSI W := by
      rw [hW]
      exact (uxSI (by decide +kernel) hI.2.2.2.2.2.2.2.2.2.2.2.2.2.2.2.2.2.2.2.2.2.2.2.2.2.2.2.2.2.2.2.2.2.2.2.2.2.2.2.2.2.2)
    have k_XC : XC W := ⟨k_xS1, k_xS2, k_xS3, k_xS4, k_xS5, k_xS6, k_xS7, k_xS8, k_xS9, k_xSA, k_xSG, k_xSF, k_xSB, k_xSC, k_xSD, k_xSE, k_xSW, k_xST, k_xSP, k_xSL, k_xSM, k_xSI⟩
    have kXB : XB W := ⟨k_xN1, k_xN2, k_xN3, k_xN4, k_xN5, k_xN6, k_xH1, k_xK1, k_xC1, k_xRW, k_xWT, k_xCU, k_xG2, k_xG3, k_xG4, k_xG5, k_xG6, k_XC⟩
    exact ⟨base, k2, k3, kXA, kXB⟩
-- nmTieR94_8
def xr_568 : qRu := (4, [[(-9, 0), (1, 3)]], [(4, 100, [(2, 0)]), (4, 104, [(1, 3)]), (94, 17, [(1, 1)]), (3, 68, [(1, 2)])], [], [], [[(1, 1), (-1, 2)], [(-1, 1), (1, 2)]])
theorem xo_568 : qRok xr_568 := by
  intro ρ M h0 hf hm hI
  have f0 := hf [(-9, 0), (1, 3)] (by decide)
  simp only [qD, h0] at f0
  have m0 : M 4 100 = 2 * ρ 0 + 0 := hm (4, 100, [(2, 0)]) (by decide)
  have m1 : M 4 104 = 1 * ρ 3 + 0 := hm (4, 104, [(1, 3)]) (by decide)
  have m2 : M 94 17 = 1 * ρ 1 + 0 := hm (94, 17, [(1, 1)]) (by decide)
  have m3 : M 3 68 = 1 * ρ 2 + 0 := hm (3, 68, [(1, 2)]) (by decide)
  simp only [h0] at m0
  obtain ⟨a0, a1, a2⟩ := gx_xS5 hI (by omega)
  have t := a0 8 (by omega) (by omega)
  have t : M 94 17 = M 3 68 := t
  refine ⟨ρ, fun _ _ => rfl, fun f h => ?_, ?_⟩
  · have h : f ∈ ([[(1, 1), (-1, 2)], [(-1, 1), (1, 2)]] : List qF) := h
    simp only [List.mem_cons, List.not_mem_nil, or_false] at h
    rcases h with rfl | rfl
    · show 0 ≤ 1 * ρ 1 + (-1 * ρ 2 + 0)
      (try rw [h0]); omega
    · show 0 ≤ -1 * ρ 1 + (1 * ρ 2 + 0)
      (try rw [h0]); omega
  · show sI M
    exact hI
-- nmUpR94_8
def xr_569 : qRu := (3, [[(1, 1), (-1, 2)], [(-1, 1), (1, 2)]], [(4, 100, [(2, 0)]), (4, 104, [(8, 0)]), (94, 17, [(1, 1)]), (3, 68, [(1, 2)])], [], [(4, 104, [(9, 0)])], [])
theorem xo_569 : qRok xr_569 := by
  intro ρ M h0 hf hm hI
  have f0 := hf [(1, 1), (-1, 2)] (by decide)
  have f1 := hf [(-1, 1), (1, 2)] (by decide)
  simp only [qD, h0] at f0 f1
  have m0 : M 4 100 = 2 * ρ 0 + 0 := hm (4, 100, [(2, 0)]) (by decide)
  have m1 : M 4 104 = 8 * ρ 0 + 0 := hm (4, 104, [(8, 0)]) (by decide)
  have m2 : M 94 17 = 1 * ρ 1 + 0 := hm (94, 17, [(1, 1)]) (by decide)
  have m3 : M 3 68 = 1 * ρ 2 + 0 := hm (3, 68, [(1, 2)]) (by decide)
  simp only [h0] at m0 m1
  have qxS5 := hI.2.2.2.2.2.2.2.2.2.2.2.2.2.2.2.2.2.2.2.2.2.2.2.2.2.1
  refine ⟨ρ, fun _ _ => rfl, fun f h => ?_, ?_⟩
  · exact nomatch h
  · show sI (sU M 4 104 (9 * ρ 0 + 0))
    obtain ⟨W, hW⟩ : ∃ W, W = (sU M 4 104 (9 * ρ 0 + 0)) := ⟨_, rfl⟩
    rw [← hW]
    have base : sI0 W := by
      rw [hW]
      exact (si_u0 hI.1 (fun r hr => by cases hr))
    have k2 : XI2 W := by
      rw [hW]
      exact (xi2_u (by decide +kernel) hI.2.1)
    have k3 : XI3 W := by
      rw [hW]
      exact (xi3_u (by decide +kernel) hI.2.2.1)
    have kXA : XA W := by
      rw [hW]
      exact (uXA (by decide +kernel) hI.2.2.2.1)
    have k_xN1 : xN1 W := by
      rw [hW]
      exact (uxN1 (by decide +kernel) hI.2.2.2.2.1)
    have k_xN2 : xN2 W := by
      rw [hW]
      exact (uxN2 (by decide +kernel) hI.2.2.2.2.2.1)
    have k_xN3 : xN3 W := by
      rw [hW]
      exact (uxN3 (by decide +kernel) hI.2.2.2.2.2.2.1)
    have k_xN4 : xN4 W := by
      rw [hW]
      exact (uxN4 (by decide +kernel) hI.2.2.2.2.2.2.2.1)
    have k_xN5 : xN5 W := by
      rw [hW]
      exact (uxN5 (by decide +kernel) hI.2.2.2.2.2.2.2.2.1)
    have k_xN6 : xN6 W := by
      rw [hW]
      exact (uxN6 (by decide +kernel) hI.2.2.2.2.2.2.2.2.2.1)
    have k_xH1 : xH1 W := by
      rw [hW]
      exact (uxH1 (by decide +kernel) hI.2.2.2.2.2.2.2.2.2.2.1)
    have k_xK1 : xK1 W := by
      rw [hW]
      exact (uxK1 (by decide +kernel) hI.2.2.2.2.2.2.2.2.2.2.2.1)
    have k_xC1 : xC1 W := by
      rw [hW]
      exact (uxC1 (by decide +kernel) hI.2.2.2.2.2.2.2.2.2.2.2.2.1)
    have k_xRW : xRW W := by
      rw [hW]
      exact (uxRW (by decide +kernel) hI.2.2.2.2.2.2.2.2.2.2.2.2.2.1)
    have k_xWT : xWT W := by
      rw [hW]
      exact (uxWT (by decide +kernel) hI.2.2.2.2.2.2.2.2.2.2.2.2.2.2.1)
    have k_xCU : xCU W := by
      rw [hW]
      exact (uxCU (by decide +kernel) hI.2.2.2.2.2.2.2.2.2.2.2.2.2.2.2.1)
    have k_xG2 : xG2 W := by
      rw [hW]
      exact (uxG2 (by decide +kernel) hI.2.2.2.2.2.2.2.2.2.2.2.2.2.2.2.2.1)
    have k_xG3 : xG3 W := by
      rw [hW]
      exact (uxG3 (by decide +kernel) hI.2.2.2.2.2.2.2.2.2.2.2.2.2.2.2.2.2.1)
    have k_xG4 : xG4 W := by
      rw [hW]
      exact (uxG4 (by decide +kernel) hI.2.2.2.2.2.2.2.2.2.2.2.2.2.2.2.2.2.2.1)
    have k_xG5 : xG5 W := by
      rw [hW]
      exact (uxG5 (by decide +kernel) hI.2.2.2.2.2.2.2.2.2.2.2.2.2.2.2.2.2.2.2.1)
    have k_xG6 : xG6 W := by
      rw [hW]
      exact (uxG6 (by decide +kernel) hI.2.2.2.2.2.2.2.2.2.2.2.2.2.2.2.2.2.2.2.2.1)
    have k_xS1 : xS1 W := by
      rw [hW]
      exact (uxS1 (by decide +kernel) hI.2.2.2.2.2.2.2.2.2.2.2.2.2.2.2.2.2.2.2.2.2.1)
    have k_xS2 : xS2 W := by
      rw [hW]
      exact (uxS2 (by decide +kernel) hI.2.2.2.2.2.2.2.2.2.2.2.2.2.2.2.2.2.2.2.2.2.2.1)
    have k_xS3 : xS3 W := by
      rw [hW]
      exact (uxS3 (by decide +kernel) hI.2.2.2.2.2.2.2.2.2.2.2.2.2.2.2.2.2.2.2.2.2.2.2.1)
    have k_xS4 : xS4 W := by
      have r : W 4 100 = 2 := by
        have e := m0
        rw [hW, sU_ne (fun z => by omega)]
        omega
      intro h
      rw [r] at h
      omega
    have k_xS5 : xS5 W := by
      have r4_100 : W 4 100 = M 4 100 := by rw [hW, sU_ne (fun z => by omega)]
      have r4_104 : W 4 104 = 9 * ρ 0 + 0 := by rw [hW, sU_at]
      have r4_105 : W 4 105 = M 4 105 := by rw [hW, sU_ne (fun z => by omega)]
      have r4_106 : W 4 106 = M 4 106 := by rw [hW, sU_ne (fun z => by omega)]
      have c3 : ∀ k, W 3 k = M 3 k := fun k => by rw [hW, sU_ne (fun z => by omega)]
      have e3 : W 3 = M 3 := funext c3
      have c94 : ∀ k, W 94 k = M 94 k := fun k => by rw [hW, sU_ne (fun z => by omega)]
      have e94 : W 94 = M 94 := funext c94
      have c100 : ∀ k, W 100 k = M 100 k := fun k => by rw [hW, sU_ne (fun z => by omega)]
      have e100 : W 100 = M 100 := funext c100
      have c104 : ∀ k, W 104 k = M 104 k := fun k => by rw [hW, sU_ne (fun z => by omega)]
      have e104 : W 104 = M 104 := funext c104
      intro h
      obtain ⟨a0, a1, a2⟩ := gx_xS5 hI (by omega)
      rw [r4_104, r4_105, r4_106, e3, e94, e100, e104]
      refine ⟨fun j hj ht => ?_, fun j hj ht => ?_, fun j hj ht => ?_⟩
      · by_cases hJ : j = 8
        · subst hJ
          show M 94 17 = M 3 68
          omega
        · exact a0 j hj (by (try rw [h0] at ht); omega)
      · exact a1 j hj (by omega)
      · exact a2 j hj (by omega)
    have k_xS6 : xS6 W := by
      rw [hW]
      exact (uxS6 (by decide +kernel) hI.2.2.2.2.2.2.2.2.2.2.2.2.2.2.2.2.2.2.2.2.2.2.2.2.2.2.1)
    have k_xS7 : xS7 W := by
      rw [hW]
      exact (uxS7 (by decide +kernel) hI.2.2.2.2.2.2.2.2.2.2.2.2.2.2.2.2.2.2.2.2.2.2.2.2.2.2.2.1)
    have k_xS8 : xS8 W := by
      rw [hW]
      exact (uxS8 (by decide +kernel) hI.2.2.2.2.2.2.2.2.2.2.2.2.2.2.2.2.2.2.2.2.2.2.2.2.2.2.2.2.1)
    have k_xS9 : xS9 W := by
      rw [hW]
      exact (uxS9 (by decide +kernel) hI.2.2.2.2.2.2.2.2.2.2.2.2.2.2.2.2.2.2.2.2.2.2.2.2.2.2.2.2.2.1)
    have k_xSA : xSA W := by
      rw [hW]
      exact (uxSA (by decide +kernel) hI.2.2.2.2.2.2.2.2.2.2.2.2.2.2.2.2.2.2.2.2.2.2.2.2.2.2.2.2.2.2.1)
    have k_xSG : xSG W := by
      rw [hW]
      exact (uxSG (by decide +kernel) hI.2.2.2.2.2.2.2.2.2.2.2.2.2.2.2.2.2.2.2.2.2.2.2.2.2.2.2.2.2.2.2.1)
    have k_xSF : xSF W := by
      rw [hW]
      exact (uxSF (by decide +kernel) hI.2.2.2.2.2.2.2.2.2.2.2.2.2.2.2.2.2.2.2.2.2.2.2.2.2.2.2.2.2.2.2.2.1)
    have k_xSB : xSB W := by
      rw [hW]
      exact (uxSB (by decide +kernel) hI.2.2.2.2.2.2.2.2.2.2.2.2.2.2.2.2.2.2.2.2.2.2.2.2.2.2.2.2.2.2.2.2.2.1)
    have k_xSC : xSC W := by
      rw [hW]
      exact (uxSC (by decide +kernel) hI.2.2.2.2.2.2.2.2.2.2.2.2.2.2.2.2.2.2.2.2.2.2.2.2.2.2.2.2.2.2.2.2.2.2.1)
    have k_xSD : xSD W := by
      rw [hW]
      exact (uxSD (by decide +kernel) hI.2.2.2.2.2.2.2.2.2.2.2.2.2.2.2.2.2.2.2.2.2.2.2.2.2.2.2.2.2.2.2.2.2.2.2.1)
    have k_xSE : xSE W := by
      rw [hW]
      exact (uxSE (by decide +kernel) hI.2.2.2.2.2.2.2.2.2.2.2.2.2.2.2.2.2.2.2.2.2.2.2.2.2.2.2.2.2.2.2.2.2.2.2.2.1)
    have k_xSW : xSW W := by
      rw [hW]
      exact (uxSW (by decide +kernel) hI.2.2.2.2.2.2.2.2.2.2.2.2.2.2.2.2.2.2.2.2.2.2.2.2.2.2.2.2.2.2.2.2.2.2.2.2.2.1)
    have k_xST : xST W := by
      rw [hW]
      exact (uxST (by decide +kernel) hI.2.2.2.2.2.2.2.2.2.2.2.2.2.2.2.2.2.2.2.2.2.2.2.2.2.2.2.2.2.2.2.2.2.2.2.2.2.2.1)
    have k_xSP : xSP W := by
      rw [hW]
      exact (uxSP (by decide +kernel) hI.2.2.2.2.2.2.2.2.2.2.2.2.2.2.2.2.2.2.2.2.2.2.2.2.2.2.2.2.2.2.2.2.2.2.2.2.2.2.2.1)
    have k_xSL : xSL W := by
      rw [hW]
      exact (uxSL (by decide +kernel) hI.2.2.2.2.2.2.2.2.2.2.2.2.2.2.2.2.2.2.2.2.2.2.2.2.2.2.2.2.2.2.2.2.2.2.2.2.2.2.2.2.1)
    have k_xSM : xSM W := by
      rw [hW]
      exact (uxSM (by decide +kernel) hI.2.2.2.2.2.2.2.2.2.2.2.2.2.2.2.2.2.2.2.2.2.2.2.2.2.2.2.2.2.2.2.2.2.2.2.2.2.2.2.2.2.1)
    have k_xSI : xSI W := by
      rw [hW]
      exact (uxSI (by decide +kernel) hI.2.2.2.2.2.2.2.2.2.2.2.2.2.2.2.2.2.2.2.2.2.2.2.2.2.2.2.2.2.2.2.2.2.2.2.2.2.2.2.2.2.2)
    have k_XC : XC W := ⟨k_xS1, k_xS2, k_xS3, k_xS4, k_xS5, k_xS6, k_xS7, k_xS8, k_xS9, k_xSA, k_xSG, k_xSF, k_xSB, k_xSC, k_xSD, k_xSE, k_xSW, k_xST, k_xSP, k_xSL, k_xSM, k_xSI⟩
    have kXB : XB W := ⟨k_xN1, k_xN2, k_xN3, k_xN4, k_xN5, k_xN6, k_xH1, k_xK1, k_xC1, k_xRW, k_xWT, k_xCU, k_xG2, k_xG3, k_xG4, k_xG5, k_xG6, k_XC⟩
    exact ⟨base, k2, k3, kXA, kXB⟩
-- nmWR94
def xr_570 : qRu := (4, [[(-9, 0), (1, 1), (-1, 3)], [(17, 0), (-1, 1)], [(1, 3)], [(2147483648, 0), (1, 2)], [(2147483647, 0), (-1, 2)]], [(4, 104, [(1, 3)])], [(94, [(1, 1)], [(1, 2)])], [], [])
theorem xo_570 : qRok xr_570 := by
  intro ρ M h0 hf hm hI
  have f0 := hf [(-9, 0), (1, 1), (-1, 3)] (by decide)
  have f1 := hf [(17, 0), (-1, 1)] (by decide)
  have f2 := hf [(1, 3)] (by decide)
  have f3 := hf [(2147483648, 0), (1, 2)] (by decide)
  have f4 := hf [(2147483647, 0), (-1, 2)] (by decide)
  simp only [qD, h0] at f0 f1 f2 f3 f4
  have m0 : M 4 104 = 1 * ρ 3 + 0 := hm (4, 104, [(1, 3)]) (by decide)
  have qxS5 := hI.2.2.2.2.2.2.2.2.2.2.2.2.2.2.2.2.2.2.2.2.2.2.2.2.2.1
  refine ⟨ρ, fun _ _ => rfl, fun f h => ?_, ?_⟩
  · exact nomatch h
  · show sI (sU M 94 (1 * ρ 1 + 0 : Int).toNat (1 * ρ 2 + 0))
    obtain ⟨W, hW⟩ : ∃ W, W = (sU M 94 (1 * ρ 1 + 0).toNat (1 * ρ 2 + 0)) := ⟨_, rfl⟩
    rw [← hW]
    have base : sI0 W := by
      rw [hW]
      exact (si_u0 hI.1 (fun r hr => by rw [xt_94 hr]; exact ⟨by show (-2147483648 : Int) ≤ _; omega, by show _ ≤ (2147483647 : Int); omega⟩))
    have k2 : XI2 W := by
      rw [hW]
      exact (xi2_u (sinc_ok (by decide +kernel) _) hI.2.1)
    have k3 : XI3 W := by
      rw [hW]
      exact (xi3_u (sinc_ok (by decide +kernel) _) hI.2.2.1)
    have kXA : XA W := by
      rw [hW]
      exact (uXA (sinc_ok (by decide +kernel) _) hI.2.2.2.1)
    have k_xN1 : xN1 W := by
      rw [hW]
      exact (uxN1 (sinc_ok (by decide +kernel) _) hI.2.2.2.2.1)
    have k_xN2 : xN2 W := by
      rw [hW]
      exact (uxN2 (sinc_ok (by decide +kernel) _) hI.2.2.2.2.2.1)
    have k_xN3 : xN3 W := by
      rw [hW]
      exact (uxN3 (sinc_ok (by decide +kernel) _) hI.2.2.2.2.2.2.1)
    have k_xN4 : xN4 W := by
      rw [hW]
      exact (uxN4 (sinc_ok (by decide +kernel) _) hI.2.2.2.2.2.2.2.1)
    have k_xN5 : xN5 W := by
      rw [hW]
      exact (uxN5 (sinc_ok (by decide +kernel) _) hI.2.2.2.2.2.2.2.2.1)
    have k_xN6 : xN6 W := by
      rw [hW]
      exact (uxN6 (sinc_ok (by decide +kernel) _) hI.2.2.2.2.2.2.2.2.2.1)
    have k_xH1 : xH1 W := by
      rw [hW]
      exact (uxH1 (sinc_ok (by decide +kernel) _) hI.2.2.2.2.2.2.2.2.2.2.1)
    have k_xK1 : xK1 W := by
      rw [hW]
      exact (uxK1 (sinc_ok (by decide +kernel) _) hI.2.2.2.2.2.2.2.2.2.2.2.1)
    have k_xC1 : xC1 W := by
      rw [hW]
      exact (uxC1 (sinc_ok (by decide +kernel) _) hI.2.2.2.2.2.2.2.2.2.2.2.2.1)
    have k_xRW : xRW W := by
      rw [hW]
      exact (uxRW (sinc_ok (by decide +kernel) _) hI.2.2.2.2.2.2.2.2.2.2.2.2.2.1)
    have k_xWT : xWT W := by
      rw [hW]
      exact (uxWT (sinc_ok (by decide +kernel) _) hI.2.2.2.2.2.2.2.2.2.2.2.2.2.2.1)
    have k_xCU : xCU W := by
      rw [hW]
      exact (uxCU (sinc_ok (by decide +kernel) _) hI.2.2.2.2.2.2.2.2.2.2.2.2.2.2.2.1)
    have k_xG2 : xG2 W := by
      rw [hW]
      exact (uxG2 (sinc_ok (by decide +kernel) _) hI.2.2.2.2.2.2.2.2.2.2.2.2.2.2.2.2.1)
    have k_xG3 : xG3 W := by
      rw [hW]
      exact (uxG3 (sinc_ok (by decide +kernel) _) hI.2.2.2.2.2.2.2.2.2.2.2.2.2.2.2.2.2.1)
    have k_xG4 : xG4 W := by
      rw [hW]
      exact (uxG4 (sinc_ok (by decide +kernel) _) hI.2.2.2.2.2.2.2.2.2.2.2.2.2.2.2.2.2.2.1)
    have k_xG5 : xG5 W := by
      rw [hW]
      exact (uxG5 (sinc_ok (by decide +kernel) _) hI.2.2.2.2.2.2.2.2.2.2.2.2.2.2.2.2.2.2.2.1)
    have k_xG6 : xG6 W := by
      rw [hW]
      exact (uxG6 (sinc_ok (by decide +kernel) _) hI.2.2.2.2.2.2.2.2.2.2.2.2.2.2.2.2.2.2.2.2.1)
    have k_xS1 : xS1 W := by
      rw [hW]
      exact (uxS1 (sinc_ok (by decide +kernel) _) hI.2.2.2.2.2.2.2.2.2.2.2.2.2.2.2.2.2.2.2.2.2.1)
    have k_xS2 : xS2 W := by
      rw [hW]
      exact (uxS2 (sinc_ok (by decide +kernel) _) hI.2.2.2.2.2.2.2.2.2.2.2.2.2.2.2.2.2.2.2.2.2.2.1)
    have k_xS3 : xS3 W := by
      rw [hW]
      exact (uxS3 (sinc_ok (by decide +kernel) _) hI.2.2.2.2.2.2.2.2.2.2.2.2.2.2.2.2.2.2.2.2.2.2.2.1)
    have k_xS4 : xS4 W := by
      rw [hW]
      exact (uxS4 (sinc_ok (by decide +kernel) _) hI.2.2.2.2.2.2.2.2.2.2.2.2.2.2.2.2.2.2.2.2.2.2.2.2.1)
    have k_xS5 : xS5 W := by
      have r4_100 : W 4 100 = M 4 100 := by rw [hW, sU_ne (fun z => by omega)]
      have r4_104 : W 4 104 = M 4 104 := by rw [hW, sU_ne (fun z => by omega)]
      have r4_105 : W 4 105 = M 4 105 := by rw [hW, sU_ne (fun z => by omega)]
      have r4_106 : W 4 106 = M 4 106 := by rw [hW, sU_ne (fun z => by omega)]
      have c3 : ∀ k, W 3 k = M 3 k := fun k => by rw [hW, sU_ne (fun z => by omega)]
      have e3 : W 3 = M 3 := funext c3
      have c94 : ∀ k : Nat, k ≠ (1 * ρ 1 + 0).toNat → W 94 k = M 94 k := fun k hk => by rw [hW, sU_ne (fun z => by omega)]
      have a94 : W 94 (1 * ρ 1 + 0).toNat = 1 * ρ 2 + 0 := by rw [hW, sU_at]
      have c100 : ∀ k, W 100 k = M 100 k := fun k => by rw [hW, sU_ne (fun z => by omega)]
      have e100 : W 100 = M 100 := funext c100
      have c104 : ∀ k, W 104 k = M 104 k := fun k => by rw [hW, sU_ne (fun z => by omega)]
      have e104 : W 104 = M 104 := funext c104
      intro h
      rw [r4_100] at h
      obtain ⟨a0, a1, a2⟩ := gx_xS5 hI h
      rw [r4_104, r4_105, r4_106, e3]
      refine ⟨fun j hj ht => ?_, fun j hj ht => ?_, fun j hj ht => ?_⟩
      · rw [c94 _ (by omega)]
        exact a0 j hj (by omega)
      · rw [e100]
        exact a1 j hj (by omega)
      · rw [e104]
        exact a2 j hj (by omega)
    have k_xS6 : xS6 W := by
      rw [hW]
      exact (uxS6 (sinc_ok (by decide +kernel) _) hI.2.2.2.2.2.2.2.2.2.2.2.2.2.2.2.2.2.2.2.2.2.2.2.2.2.2.1)
    have k_xS7 : xS7 W := by
      rw [hW]
      exact (uxS7 (sinc_ok (by decide +kernel) _) hI.2.2.2.2.2.2.2.2.2.2.2.2.2.2.2.2.2.2.2.2.2.2.2.2.2.2.2.1)
    have k_xS8 : xS8 W := by
      rw [hW]
      exact (uxS8 (sinc_ok (by decide +kernel) _) hI.2.2.2.2.2.2.2.2.2.2.2.2.2.2.2.2.2.2.2.2.2.2.2.2.2.2.2.2.1)
    have k_xS9 : xS9 W := by
      rw [hW]
      exact (uxS9 (sinc_ok (by decide +kernel) _) hI.2.2.2.2.2.2.2.2.2.2.2.2.2.2.2.2.2.2.2.2.2.2.2.2.2.2.2.2.2.1)
    have k_xSA : xSA W := by
      rw [hW]
      exact (uxSA (sinc_ok (by decide +kernel) _) hI.2.2.2.2.2.2.2.2.2.2.2.2.2.2.2.2.2.2.2.2.2.2.2.2.2.2.2.2.2.2.1)
    have k_xSG : xSG W := by
      rw [hW]
      exact (uxSG (sinc_ok (by decide +kernel) _) hI.2.2.2.2.2.2.2.2.2.2.2.2.2.2.2.2.2.2.2.2.2.2.2.2.2.2.2.2.2.2.2.1)
    have k_xSF : xSF W := by
      rw [hW]
      exact (uxSF (sinc_ok (by decide +kernel) _) hI.2.2.2.2.2.2.2.2.2.2.2.2.2.2.2.2.2.2.2.2.2.2.2.2.2.2.2.2.2.2.2.2.1)
    have k_xSB : xSB W := by
      rw [hW]
      exact (uxSB (sinc_ok (by decide +kernel) _) hI.2.2.2.2.2.2.2.2.2.2.2.2.2.2.2.2.2.2.2.2.2.2.2.2.2.2.2.2.2.2.2.2.2.1)
    have k_xSC : xSC W := by
      rw [hW]
      exact (uxSC (sinc_ok (by decide +kernel) _) hI.2.2.2.2.2.2.2.2.2.2.2.2.2.2.2.2.2.2.2.2.2.2.2.2.2.2.2.2.2.2.2.2.2.2.1)
    have k_xSD : xSD W := by
      rw [hW]
      exact (uxSD (sinc_ok (by decide +kernel) _) hI.2.2.2.2.2.2.2.2.2.2.2.2.2.2.2.2.2.2.2.2.2.2.2.2.2.2.2.2.2.2.2.2.2.2.2.1)
    have k_xSE : xSE W := by
      rw [hW]
      exact (uxSE (sinc_ok (by decide +kernel) _) hI.2.2.2.2.2.2.2.2.2.2.2.2.2.2.2.2.2.2.2.2.2.2.2.2.2.2.2.2.2.2.2.2.2.2.2.2.1)
    have k_xSW : xSW W := by
      rw [hW]
      exact (uxSW (sinc_ok (by decide +kernel) _) hI.2.2.2.2.2.2.2.2.2.2.2.2.2.2.2.2.2.2.2.2.2.2.2.2.2.2.2.2.2.2.2.2.2.2.2.2.2.1)
    have k_xST : xST W := by
      rw [hW]
      exact (uxST (sinc_ok (by decide +kernel) _) hI.2.2.2.2.2.2.2.2.2.2.2.2.2.2.2.2.2.2.2.2.2.2.2.2.2.2.2.2.2.2.2.2.2.2.2.2.2.2.1)
    have k_xSP : xSP W := by
      rw [hW]
      exact (uxSP (sinc_ok (by decide +kernel) _) hI.2.2.2.2.2.2.2.2.2.2.2.2.2.2.2.2.2.2.2.2.2.2.2.2.2.2.2.2.2.2.2.2.2.2.2.2.2.2.2.1)
    have k_xSL : xSL W := by
      rw [hW]
      exact (uxSL (sinc_ok (by decide +kernel) _) hI.2.2.2.2.2.2.2.2.2.2.2.2.2.2.2.2.2.2.2.2.2.2.2.2.2.2.2.2.2.2.2.2.2.2.2.2.2.2.2.2.1)
    have k_xSM : xSM W := by
      rw [hW]
      exact (uxSM (sinc_ok (by decide +kernel) _) hI.2.2.2.2.2.2.2.2.2.2.2.2.2.2.2.2.2.2.2.2.2.2.2.2.2.2.2.2.2.2.2.2.2.2.2.2.2.2.2.2.2.1)
    have k_xSI : xSI W := by
      rw [hW]
      exact (uxSI (sinc_ok (by decide +kernel) _) hI.2.2.2.2.2.2.2.2.2.2.2.2.2.2.2.2.2.2.2.2.2.2.2.2.2.2.2.2.2.2.2.2.2.2.2.2.2.2.2.2.2.2)
    have k_XC : XC W := ⟨k_xS1, k_xS2, k_xS3, k_xS4, k_xS5, k_xS6, k_xS7, k_xS8, k_xS9, k_xSA, k_xSG, k_xSF, k_xSB, k_xSC, k_xSD, k_xSE, k_xSW, k_xST, k_xSP, k_xSL, k_xSM, k_xSI⟩
    have kXB : XB W := ⟨k_xN1, k_xN2, k_xN3, k_xN4, k_xN5, k_xN6, k_xH1, k_xK1, k_xC1, k_xRW, k_xWT, k_xCU, k_xG2, k_xG3, k_xG4, k_xG5, k_xG6, k_XC⟩
    exact ⟨base, k2, k3, kXA, kXB⟩
-- nmLR94
def xr_571 : qRu := (3, [[(1, 1)], [(8, 0), (-1, 1)], [(2147483648, 0), (1, 2)], [(2147483647, 0), (-1, 2)]], [], [(94, [(1, 1)], [(1, 2)])], [], [])
theorem xo_571 : qRok xr_571 := by
  intro ρ M h0 hf hm hI
  have f0 := hf [(1, 1)] (by decide)
  have f1 := hf [(8, 0), (-1, 1)] (by decide)
  have f2 := hf [(2147483648, 0), (1, 2)] (by decide)
  have f3 := hf [(2147483647, 0), (-1, 2)] (by decide)
  simp only [qD, h0] at f0 f1 f2 f3
  have qxS5 := hI.2.2.2.2.2.2.2.2.2.2.2.2.2.2.2.2.2.2.2.2.2.2.2.2.2.1
  refine ⟨ρ, fun _ _ => rfl, fun f h => ?_, ?_⟩
  · exact nomatch h
  · show sI (sU M 94 (1 * ρ 1 + 0 : Int).toNat (1 * ρ 2 + 0))
    obtain ⟨W, hW⟩ : ∃ W, W = (sU M 94 (1 * ρ 1 + 0).toNat (1 * ρ 2 + 0)) := ⟨_, rfl⟩
    rw [← hW]
    have base : sI0 W := by
      rw [hW]
      exact (si_u0 hI.1 (fun r hr => by rw [xt_94 hr]; exact ⟨by show (-2147483648 : Int) ≤ _; omega, by show _ ≤ (2147483647 : Int); omega⟩))
    have k2 : XI2 W := by
      rw [hW]
      exact (xi2_u (sinc_ok (by decide +kernel) _) hI.2.1)
    have k3 : XI3 W := by
      rw [hW]
      exact (xi3_u (sinc_ok (by decide +kernel) _) hI.2.2.1)
    have kXA : XA W := by
      rw [hW]
      exact (uXA (sinc_ok (by decide +kernel) _) hI.2.2.2.1)
    have k_xN1 : xN1 W := by
      rw [hW]
      exact (uxN1 (sinc_ok (by decide +kernel) _) hI.2.2.2.2.1)
    have k_xN2 : xN2 W := by
      rw [hW]
      exact (uxN2 (sinc_ok (by decide +kernel) _) hI.2.2.2.2.2.1)
    have k_xN3 : xN3 W := by
      rw [hW]
      exact (uxN3 (sinc_ok (by decide +kernel) _) hI.2.2.2.2.2.2.1)
    have k_xN4 : xN4 W := by
      rw [hW]
      exact (uxN4 (sinc_ok (by decide +kernel) _) hI.2.2.2.2.2.2.2.1)
    have k_xN5 : xN5 W := by
      rw [hW]
      exact (uxN5 (sinc_ok (by decide +kernel) _) hI.2.2.2.2.2.2.2.2.1)
    have k_xN6 : xN6 W := by
      rw [hW]
      exact (uxN6 (sinc_ok (by decide +kernel) _) hI.2.2.2.2.2.2.2.2.2.1)
    have k_xH1 : xH1 W := by
      rw [hW]
      exact (uxH1 (sinc_ok (by decide +kernel) _) hI.2.2.2.2.2.2.2.2.2.2.1)
    have k_xK1 : xK1 W := by
      rw [hW]
      exact (uxK1 (sinc_ok (by decide +kernel) _) hI.2.2.2.2.2.2.2.2.2.2.2.1)
    have k_xC1 : xC1 W := by
      rw [hW]
      exact (uxC1 (sinc_ok (by decide +kernel) _) hI.2.2.2.2.2.2.2.2.2.2.2.2.1)
    have k_xRW : xRW W := by
      rw [hW]
      exact (uxRW (sinc_ok (by decide +kernel) _) hI.2.2.2.2.2.2.2.2.2.2.2.2.2.1)
    have k_xWT : xWT W := by
      rw [hW]
      exact (uxWT (sinc_ok (by decide +kernel) _) hI.2.2.2.2.2.2.2.2.2.2.2.2.2.2.1)
    have k_xCU : xCU W := by
      rw [hW]
      exact (uxCU (sinc_ok (by decide +kernel) _) hI.2.2.2.2.2.2.2.2.2.2.2.2.2.2.2.1)
    have k_xG2 : xG2 W := by
      rw [hW]
      exact (uxG2 (sinc_ok (by decide +kernel) _) hI.2.2.2.2.2.2.2.2.2.2.2.2.2.2.2.2.1)
    have k_xG3 : xG3 W := by
      rw [hW]
      exact (uxG3 (sinc_ok (by decide +kernel) _) hI.2.2.2.2.2.2.2.2.2.2.2.2.2.2.2.2.2.1)
    have k_xG4 : xG4 W := by
      rw [hW]
      exact (uxG4 (sinc_ok (by decide +kernel) _) hI.2.2.2.2.2.2.2.2.2.2.2.2.2.2.2.2.2.2.1)
    have k_xG5 : xG5 W := by
      rw [hW]
      exact (uxG5 (sinc_ok (by decide +kernel) _) hI.2.2.2.2.2.2.2.2.2.2.2.2.2.2.2.2.2.2.2.1)
    have k_xG6 : xG6 W := by
      rw [hW]
      exact (uxG6 (sinc_ok (by decide +kernel) _) hI.2.2.2.2.2.2.2.2.2.2.2.2.2.2.2.2.2.2.2.2.1)
    have k_xS1 : xS1 W := by
      rw [hW]
      exact (uxS1 (sinc_ok (by decide +kernel) _) hI.2.2.2.2.2.2.2.2.2.2.2.2.2.2.2.2.2.2.2.2.2.1)
    have k_xS2 : xS2 W := by
      rw [hW]
      exact (uxS2 (sinc_ok (by decide +kernel) _) hI.2.2.2.2.2.2.2.2.2.2.2.2.2.2.2.2.2.2.2.2.2.2.1)
    have k_xS3 : xS3 W := by
      rw [hW]
      exact (uxS3 (sinc_ok (by decide +kernel) _) hI.2.2.2.2.2.2.2.2.2.2.2.2.2.2.2.2.2.2.2.2.2.2.2.1)
    have k_xS4 : xS4 W := by
      rw [hW]
      exact (uxS4 (sinc_ok (by decide +kernel) _) hI.2.2.2.2.2.2.2.2.2.2.2.2.2.2.2.2.2.2.2.2.2.2.2.2.1)
    have k_xS5 : xS5 W := by
      have r4_100 : W 4 100 = M 4 100 := by rw [hW, sU_ne (fun z => by omega)]
      have r4_104 : W 4 104 = M 4 104 := by rw [hW, sU_ne (fun z => by omega)]
      have r4_105 : W 4 105 = M 4 105 := by rw [hW, sU_ne (fun z => by omega)]
      have r4_106 : W 4 106 = M 4 106 := by rw [hW, sU_ne (fun z => by omega)]
      have c3 : ∀ k, W 3 k = M 3 k := fun k => by rw [hW, sU_ne (fun z => by omega)]
      have e3 : W 3 = M 3 := funext c3
      have c94 : ∀ k : Nat, k ≠ (1 * ρ 1 + 0).toNat → W 94 k = M 94 k := fun k hk => by rw [hW, sU_ne (fun z => by omega)]
      have a94 : W 94 (1 * ρ 1 + 0).toNat = 1 * ρ 2 + 0 := by rw [hW, sU_at]
      have c100 : ∀ k, W 100 k = M 100 k := fun k => by rw [hW, sU_ne (fun z => by omega)]
      have e100 : W 100 = M 100 := funext c100
      have c104 : ∀ k, W 104 k = M 104 k := fun k => by rw [hW, sU_ne (fun z => by omega)]
      have e104 : W 104 = M 104 := funext c104
      intro h
      rw [r4_100] at h
      obtain ⟨a0, a1, a2⟩ := gx_xS5 hI h
      rw [r4_104, r4_105, r4_106, e3]
      refine ⟨fun j hj ht => ?_, fun j hj ht => ?_, fun j hj ht => ?_⟩
      · rw [c94 _ (by omega)]
        exact a0 j hj (by omega)
      · rw [e100]
        exact a1 j hj (by omega)
      · rw [e104]
        exact a2 j hj (by omega)
    have k_xS6 : xS6 W := by
      rw [hW]
      exact (uxS6 (sinc_ok (by decide +kernel) _) hI.2.2.2.2.2.2.2.2.2.2.2.2.2.2.2.2.2.2.2.2.2.2.2.2.2.2.1)
    have k_xS7 : xS7 W := by
      rw [hW]
      exact (uxS7 (sinc_ok (by decide +kernel) _) hI.2.2.2.2.2.2.2.2.2.2.2.2.2.2.2.2.2.2.2.2.2.2.2.2.2.2.2.1)
    have k_xS8 : xS8 W := by
      rw [hW]
      exact (uxS8 (sinc_ok (by decide +kernel) _) hI.2.2.2.2.2.2.2.2.2.2.2.2.2.2.2.2.2.2.2.2.2.2.2.2.2.2.2.2.1)
    have k_xS9 : xS9 W := by
      rw [hW]
      exact (uxS9 (sinc_ok (by decide +kernel) _) hI.2.2.2.2.2.2.2.2.2.2.2.2.2.2.2.2.2.2.2.2.2.2.2.2.2.2.2.2.2.1)
    have k_xSA : xSA W := by
      rw [hW]
      exact (uxSA (sinc_ok (by decide +kernel) _) hI.2.2.2.2.2.2.2.2.2.2.2.2.2.2.2.2.2.2.2.2.2.2.2.2.2.2.2.2.2.2.1)
    have k_xSG : xSG W := by
      rw [hW]
      exact (uxSG (sinc_ok (by decide +kernel) _) hI.2.2.2.2.2.2.2.2.2.2.2.2.2.2.2.2.2.2.2.2.2.2.2.2.2.2.2.2.2.2.2.1)
    have k_xSF : xSF W := by
      rw [hW]
      exact (uxSF (sinc_ok (by decide +kernel) _) hI.2.2.2.2.2.2.2.2.2.2.2.2.2.2.2.2.2.2.2.2.2.2.2.2.2.2.2.2.2.2.2.2.1)
    have k_xSB : xSB W := by
      rw [hW]
      exact (uxSB (sinc_ok (by decide +kernel) _) hI.2.2.2.2.2.2.2.2.2.2.2.2.2.2.2.2.2.2.2.2.2.2.2.2.2.2.2.2.2.2.2.2.2.1)
    have k_xSC : xSC W := by
      rw [hW]
      exact (uxSC (sinc_ok (by decide +kernel) _) hI.2.2.2.2.2.2.2.2.2.2.2.2.2.2.2.2.2.2.2.2.2.2.2.2.2.2.2.2.2.2.2.2.2.2.1)
    have k_xSD : xSD W := by
      rw [hW]
      exact (uxSD (sinc_ok (by decide +kernel) _) hI.2.2.2.2.2.2.2.2.2.2.2.2.2.2.2.2.2.2.2.2.2.2.2.2.2.2.2.2.2.2.2.2.2.2.2.1)
    have k_xSE : xSE W := by
      rw [hW]
      exact (uxSE (sinc_ok (by decide +kernel) _) hI.2.2.2.2.2.2.2.2.2.2.2.2.2.2.2.2.2.2.2.2.2.2.2.2.2.2.2.2.2.2.2.2.2.2.2.2.1)
    have k_xSW : xSW W := by
      rw [hW]
      exact (uxSW (sinc_ok (by decide +kernel) _) hI.2.2.2.2.2.2.2.2.2.2.2.2.2.2.2.2.2.2.2.2.2.2.2.2.2.2.2.2.2.2.2.2.2.2.2.2.2.1)
    have k_xST : xST W := by
      rw [hW]
      exact (uxST (sinc_ok (by decide +kernel) _) hI.2.2.2.2.2.2.2.2.2.2.2.2.2.2.2.2.2.2.2.2.2.2.2.2.2.2.2.2.2.2.2.2.2.2.2.2.2.2.1)
    have k_xSP : xSP W := by
      rw [hW]
      exact (uxSP (sinc_ok (by decide +kernel) _) hI.2.2.2.2.2.2.2.2.2.2.2.2.2.2.2.2.2.2.2.2.2.2.2.2.2.2.2.2.2.2.2.2.2.2.2.2.2.2.2.1)
    have k_xSL : xSL W := by
      rw [hW]
      exact (uxSL (sinc_ok (by decide +kernel) _) hI.2.2.2.2.2.2.2.2.2.2.2.2.2.2.2.2.2.2.2.2.2.2.2.2.2.2.2.2.2.2.2.2.2.2.2.2.2.2.2.2.1)
    have k_xSM : xSM W := by
      rw [hW]
      exact (uxSM (sinc_ok (by decide +kernel) _) hI.2.2.2.2.2.2.2.2.2.2.2.2.2.2.2.2.2.2.2.2.2.2.2.2.2.2.2.2.2.2.2.2.2.2.2.2.2.2.2.2.2.1)
    have k_xSI : xSI W := by
      rw [hW]
      exact (uxSI (sinc_ok (by decide +kernel) _) hI.2.2.2.2.2.2.2.2.2.2.2.2.2.2.2.2.2.2.2.2.2.2.2.2.2.2.2.2.2.2.2.2.2.2.2.2.2.2.2.2.2.2)
    have k_XC : XC W := ⟨k_xS1, k_xS2, k_xS3, k_xS4, k_xS5, k_xS6, k_xS7, k_xS8, k_xS9, k_xSA, k_xSG, k_xSF, k_xSB, k_xSC, k_xSD, k_xSE, k_xSW, k_xST, k_xSP, k_xSL, k_xSM, k_xSI⟩
    have kXB : XB W := ⟨k_xN1, k_xN2, k_xN3, k_xN4, k_xN5, k_xN6, k_xH1, k_xK1, k_xC1, k_xRW, k_xWT, k_xCU, k_xG2, k_xG3, k_xG4, k_xG5, k_xG6, k_XC⟩
    exact ⟨base, k2, k3, kXA, kXB⟩
-- nm0R94
def xr_572 : qRu := (3, [[(1, 1)], [(17, 0), (-1, 1)], [(2147483648, 0), (1, 2)], [(2147483647, 0), (-1, 2)]], [(4, 100, [])], [(94, [(1, 1)], [(1, 2)])], [], [])
theorem xo_572 : qRok xr_572 := by
  intro ρ M h0 hf hm hI
  have f0 := hf [(1, 1)] (by decide)
  have f1 := hf [(17, 0), (-1, 1)] (by decide)
  have f2 := hf [(2147483648, 0), (1, 2)] (by decide)
  have f3 := hf [(2147483647, 0), (-1, 2)] (by decide)
  simp only [qD, h0] at f0 f1 f2 f3
  have m0 : M 4 100 = 0 := hm (4, 100, []) (by decide)
  refine ⟨ρ, fun _ _ => rfl, fun f h => ?_, ?_⟩
  · exact nomatch h
  · show sI (sU M 94 (1 * ρ 1 + 0 : Int).toNat (1 * ρ 2 + 0))
    obtain ⟨W, hW⟩ : ∃ W, W = (sU M 94 (1 * ρ 1 + 0).toNat (1 * ρ 2 + 0)) := ⟨_, rfl⟩
    rw [← hW]
    have base : sI0 W := by
      rw [hW]
      exact (si_u0 hI.1 (fun r hr => by rw [xt_94 hr]; exact ⟨by show (-2147483648 : Int) ≤ _; omega, by show _ ≤ (2147483647 : Int); omega⟩))
    have k2 : XI2 W := by
      rw [hW]
      exact (xi2_u (sinc_ok (by decide +kernel) _) hI.2.1)
    have k3 : XI3 W := by
      rw [hW]
      exact (xi3_u (sinc_ok (by decide +kernel) _) hI.2.2.1)
    have kXA : XA W := by
      rw [hW]
      exact (uXA (sinc_ok (by decide +kernel) _) hI.2.2.2.1)
    have k_xN1 : xN1 W := by
      rw [hW]
      exact (uxN1 (sinc_ok (by decide +kernel) _) hI.2.2.2.2.1)
    have k_xN2 : xN2 W := by
      rw [hW]
      exact (uxN2 (sinc_ok (by decide +kernel) _) hI.2.2.2.2.2.1)
    have k_xN3 : xN3 W := by
      rw [hW]
      exact (uxN3 (sinc_ok (by decide +kernel) _) hI.2.2.2.2.2.2.1)
    have k_xN4 : xN4 W := by
      rw [hW]
      exact (uxN4 (sinc_ok (by decide +kernel) _) hI.2.2.2.2.2.2.2.1)
    have k_xN5 : xN5 W := by
      rw [hW]
      exact (uxN5 (sinc_ok (by decide +kernel) _) hI.2.2.2.2.2.2.2.2.1)
    have k_xN6 : xN6 W := by
      rw [hW]
      exact (uxN6 (sinc_ok (by decide +kernel) _) hI.2.2.2.2.2.2.2.2.2.1)
    have k_xH1 : xH1 W := by
      rw [hW]
      exact (uxH1 (sinc_ok (by decide +kernel) _) hI.2.2.2.2.2.2.2.2.2.2.1)
    have k_xK1 : xK1 W := by
      rw [hW]
      exact (uxK1 (sinc_ok (by decide +kernel) _) hI.2.2.2.2.2.2.2.2.2.2.2.1)
    have k_xC1 : xC1 W := by
      rw [hW]
      exact (uxC1 (sinc_ok (by decide +kernel) _) hI.2.2.2.2.2.2.2.2.2.2.2.2.1)
    have k_xRW : xRW W := by
      rw [hW]
      exact (uxRW (sinc_ok (by decide +kernel) _) hI.2.2.2.2.2.2.2.2.2.2.2.2.2.1)
    have k_xWT : xWT W := by
      rw [hW]
      exact (uxWT (sinc_ok (by decide +kernel) _) hI.2.2.2.2.2.2.2.2.2.2.2.2.2.2.1)
    have k_xCU : xCU W := by
      rw [hW]
      exact (uxCU (sinc_ok (by decide +kernel) _) hI.2.2.2.2.2.2.2.2.2.2.2.2.2.2.2.1)
    have k_xG2 : xG2 W := by
      rw [hW]
      exact (uxG2 (sinc_ok (by decide +kernel) _) hI.2.2.2.2.2.2.2.2.2.2.2.2.2.2.2.2.1)
    have k_xG3 : xG3 W := by
      rw [hW]
      exact (uxG3 (sinc_ok (by decide +kernel) _) hI.2.2.2.2.2.2.2.2.2.2.2.2.2.2.2.2.2.1)
    have k_xG4 : xG4 W := by
      rw [hW]
      exact (uxG4 (sinc_ok (by decide +kernel) _) hI.2.2.2.2.2.2.2.2.2.2.2.2.2.2.2.2.2.2.1)
    have k_xG5 : xG5 W := by
      rw [hW]
      exact (uxG5 (sinc_ok (by decide +kernel) _) hI.2.2.2.2.2.2.2.2.2.2.2.2.2.2.2.2.2.2.2.1)
    have k_xG6 : xG6 W := by
      rw [hW]
      exact (uxG6 (sinc_ok (by decide +kernel) _) hI.2.2.2.2.2.2.2.2.2.2.2.2.2.2.2.2.2.2.2.2.1)
    have k_xS1 : xS1 W := by
      rw [hW]
      exact (uxS1 (sinc_ok (by decide +kernel) _) hI.2.2.2.2.2.2.2.2.2.2.2.2.2.2.2.2.2.2.2.2.2.1)
    have k_xS2 : xS2 W := by
      rw [hW]
      exact (uxS2 (sinc_ok (by decide +kernel) _) hI.2.2.2.2.2.2.2.2.2.2.2.2.2.2.2.2.2.2.2.2.2.2.1)
    have k_xS3 : xS3 W := by
      rw [hW]
      exact (uxS3 (sinc_ok (by decide +kernel) _) hI.2.2.2.2.2.2.2.2.2.2.2.2.2.2.2.2.2.2.2.2.2.2.2.1)
    have k_xS4 : xS4 W := by
      rw [hW]
      exact (uxS4 (sinc_ok (by decide +kernel) _) hI.2.2.2.2.2.2.2.2.2.2.2.2.2.2.2.2.2.2.2.2.2.2.2.2.1)
    have k_xS5 : xS5 W := by
      have r : W 4 100 = 0 := by
        have e := m0
        rw [hW, sU_ne (fun z => by omega)]
        omega
      intro h
      rw [r] at h
      omega
    have k_xS6 : xS6 W := by
      rw [hW]
      exact (uxS6 (sinc_ok (by decide +kernel) _) hI.2.2.2.2.2.2.2.2.2.2.2.2.2.2.2.2.2.2.2.2.2.2.2.2.2.2.1)
    have k_xS7 : xS7 W := by
      rw [hW]
      exact (uxS7 (sinc_ok (by decide +kernel) _) hI.2.2.2.2.2.2.2.2.2.2.2.2.2.2.2.2.2.2.2.2.2.2.2.2.2.2.2.1)
    have k_xS8 : xS8 W := by
      rw [hW]
      exact (uxS8 (sinc_ok (by decide +kernel) _) hI.2.2.2.2.2.2.2.2.2.2.2.2.2.2.2.2.2.2.2.2.2.2.2.2.2.2.2.2.1)
    have k_xS9 : xS9 W := by
      rw [hW]
      exact (uxS9 (sinc_ok (by decide +kernel) _) hI.2.2.2.2.2.2.2.2.2.2.2.2.2.2.2.2.2.2.2.2.2.2.2.2.2.2.2.2.2.1)
    have k_xSA : xSA W := by
      rw [hW]
      exact (uxSA (sinc_ok (by decide +kernel) _) hI.2.2.2.2.2.2.2.2.2.2.2.2.2.2.2.2.2.2.2.2.2.2.2.2.2.2.2.2.2.2.1)
    have k_xSG : xSG W := by
      rw [hW]
      exact (uxSG (sinc_ok (by decide +kernel) _) hI.2.2.2.2.2.2.2.2.2.2.2.2.2.2.2.2.2.2.2.2.2.2.2.2.2.2.2.2.2.2.2.1)
    have k_xSF : xSF W := by
      rw [hW]
      exact (uxSF (sinc_ok (by decide +kernel) _) hI.2.2.2.2.2.2.2.2.2.2.2.2.2.2.2.2.2.2.2.2.2.2.2.2.2.2.2.2.2.2.2.2.1)
    have k_xSB : xSB W := by
      rw [hW]
      exact (uxSB (sinc_ok (by decide +kernel) _) hI.2.2.2.2.2.2.2.2.2.2.2.2.2.2.2.2.2.2.2.2.2.2.2.2.2.2.2.2.2.2.2.2.2.1)
    have k_xSC : xSC W := by
      rw [hW]
      exact (uxSC (sinc_ok (by decide +kernel) _) hI.2.2.2.2.2.2.2.2.2.2.2.2.2.2.2.2.2.2.2.2.2.2.2.2.2.2.2.2.2.2.2.2.2.2.1)
    have k_xSD : xSD W := by
      rw [hW]
      exact (uxSD (sinc_ok (by decide +kernel) _) hI.2.2.2.2.2.2.2.2.2.2.2.2.2.2.2.2.2.2.2.2.2.2.2.2.2.2.2.2.2.2.2.2.2.2.2.1)
    have k_xSE : xSE W := by
      rw [hW]
      exact (uxSE (sinc_ok (by decide +kernel) _) hI.2.2.2.2.2.2.2.2.2.2.2.2.2.2.2.2.2.2.2.2.2.2.2.2.2.2.2.2.2.2.2.2.2.2.2.2.1)
    have k_xSW : xSW W := by
      rw [hW]
      exact (uxSW (sinc_ok (by decide +kernel) _) hI.2.2.2.2.2.2.2.2.2.2.2.2.2.2.2.2.2.2.2.2.2.2.2.2.2.2.2.2.2.2.2.2.2.2.2.2.2.1)
    have k_xST : xST W := by
      rw [hW]
      exact (uxST (sinc_ok (by decide +kernel) _) hI.2.2.2.2.2.2.2.2.2.2.2.2.2.2.2.2.2.2.2.2.2.2.2.2.2.2.2.2.2.2.2.2.2.2.2.2.2.2.1)
    have k_xSP : xSP W := by
      rw [hW]
      exact (uxSP (sinc_ok (by decide +kernel) _) hI.2.2.2.2.2.2.2.2.2.2.2.2.2.2.2.2.2.2.2.2.2.2.2.2.2.2.2.2.2.2.2.2.2.2.2.2.2.2.2.1)
    have k_xSL : xSL W := by
      rw [hW]
      exact (uxSL (sinc_ok (by decide +kernel) _) hI.2.2.2.2.2.2.2.2.2.2.2.2.2.2.2.2.2.2.2.2.2.2.2.2.2.2.2.2.2.2.2.2.2.2.2.2.2.2.2.2.1)
    have k_xSM : xSM W := by
      rw [hW]
      exact (uxSM (sinc_ok (by decide +kernel) _) hI.2.2.2.2.2.2.2.2.2.2.2.2.2.2.2.2.2.2.2.2.2.2.2.2.2.2.2.2.2.2.2.2.2.2.2.2.2.2.2.2.2.1)
    have k_xSI : xSI W := by
      rw [hW]
      exact (uxSI (sinc_ok (by decide +kernel) _) hI.2.2.2.2.2.2.2.2.2.2.2.2.2.2.2.2.2.2.2.2.2.2.2.2.2.2.2.2.2.2.2.2.2.2.2.2.2.2.2.2.2.2)
    have k_XC : XC W := ⟨k_xS1, k_xS2, k_xS3, k_xS4, k_xS5, k_xS6, k_xS7, k_xS8, k_xS9, k_xSA, k_xSG, k_xSF, k_xSB, k_xSC, k_xSD, k_xSE, k_xSW, k_xST, k_xSP, k_xSL, k_xSM, k_xSI⟩
    have kXB : XB W := ⟨k_xN1, k_xN2, k_xN3, k_xN4, k_xN5, k_xN6, k_xH1, k_xK1, k_xC1, k_xRW, k_xWT, k_xCU, k_xG2, k_xG3, k_xG4, k_xG5, k_xG6, k_XC⟩
    exact ⟨base, k2, k3, kXA, kXB⟩
-- nmTieR100_0
def xr_573 : qRu := (4, [[(-1, 0), (1, 3)]], [(4, 100, [(2, 0)]), (4, 105, [(1, 3)]), (100, 6, [(1, 1)]), (3, 70, [(1, 2)])], [], [], [[(1, 1), (-1, 2)], [(-1, 1), (1, 2)]])
theorem xo_573 : qRok xr_573 := by
  intro ρ M h0 hf hm hI
  have f0 := hf [(-1, 0), (1, 3)] (by decide)
  simp only [qD, h0] at f0
  have m0 : M 4 100 = 2 * ρ 0 + 0 := hm (4, 100, [(2, 0)]) (by decide)
  have m1 : M 4 105 = 1 * ρ 3 + 0 := hm (4, 105, [(1, 3)]) (by decide)
  have m2 : M 100 6 = 1 * ρ 1 + 0 := hm (100, 6, [(1, 1)]) (by decide)
  have m3 : M 3 70 = 1 * ρ 2 + 0 := hm (3, 70, [(1, 2)]) (by decide)
  simp only [h0] at m0
  obtain ⟨a0, a1, a2⟩ := gx_xS5 hI (by omega)
  have t := a1 0 (by omega) (by omega)
  have t : M 100 6 = M 3 70 := t
  refine ⟨ρ, fun _ _ => rfl, fun f h => ?_, ?_⟩
  · have h : f ∈ ([[(1, 1), (-1, 2)], [(-1, 1), (1, 2)]] : List qF) := h
    simp only [List.mem_cons, List.not_mem_nil, or_false] at h
    rcases h with rfl | rfl
    · show 0 ≤ 1 * ρ 1 + (-1 * ρ 2 + 0)
      (try rw [h0]); omega
    · show 0 ≤ -1 * ρ 1 + (1 * ρ 2 + 0)
      (try rw [h0]); omega
  · show sI M
    exact hI
-- nmUpR100_0
def xr_574 : qRu := (3, [[(1, 1), (-1, 2)], [(-1, 1), (1, 2)]], [(4, 100, [(2, 0)]), (4, 105, []), (100, 6, [(1, 1)]), (3, 70, [(1, 2)])], [], [(4, 105, [(1, 0)])], [])
theorem xo_574 : qRok xr_574 := by
  intro ρ M h0 hf hm hI
  have f0 := hf [(1, 1), (-1, 2)] (by decide)
  have f1 := hf [(-1, 1), (1, 2)] (by decide)
  simp only [qD, h0] at f0 f1
  have m0 : M 4 100 = 2 * ρ 0 + 0 := hm (4, 100, [(2, 0)]) (by decide)
  have m1 : M 4 105 = 0 := hm (4, 105, []) (by decide)
  have m2 : M 100 6 = 1 * ρ 1 + 0 := hm (100, 6, [(1, 1)]) (by decide)
  have m3 : M 3 70 = 1 * ρ 2 + 0 := hm (3, 70, [(1, 2)]) (by decide)
  simp only [h0] at m0
  have qxS5 := hI.2.2.2.2.2.2.2.2.2.2.2.2.2.2.2.2.2.2.2.2.2.2.2.2.2.1
  refine ⟨ρ, fun _ _ => rfl, fun f h => ?_, ?_⟩
  · exact nomatch h
  · show sI (sU M 4 105 (1 * ρ 0 + 0))
    obtain ⟨W, hW⟩ : ∃ W, W = (sU M 4 105 (1 * ρ 0 + 0)) := ⟨_, rfl⟩
    rw [← hW]
    have base : sI0 W := by
      rw [hW]
      exact (si_u0 hI.1 (fun r hr => by cases hr))
    have k2 : XI2 W := by
      rw [hW]
      exact (xi2_u (by decide +kernel) hI.2.1)
    have k3 : XI3 W := by
      rw [hW]
      exact (xi3_u (by decide +kernel) hI.2.2.1)
    have kXA : XA W := by
      rw [hW]
      exact (uXA (by decide +kernel) hI.2.2.2.1)
    have k_xN1 : xN1 W := by
      rw [hW]
      exact (uxN1 (by decide +kernel) hI.2.2.2.2.1)
    have k_xN2 : xN2 W := by
      rw [hW]
      exact (uxN2 (by decide +kernel) hI.2.2.2.2.2.1)
    have k_xN3 : xN3 W := by
      rw [hW]
      exact (uxN3 (by decide +kernel) hI.2.2.2.2.2.2.1)
    have k_xN4 : xN4 W := by
      rw [hW]
      exact (uxN4 (by decide +kernel) hI.2.2.2.2.2.2.2.1)
    have k_xN5 : xN5 W := by
      rw [hW]
      exact (uxN5 (by decide +kernel) hI.2.2.2.2.2.2.2.2.1)
    have k_xN6 : xN6 W := by
      rw [hW]
      exact (uxN6 (by decide +kernel) hI.2.2.2.2.2.2.2.2.2.1)
    have k_xH1 : xH1 W := by
      rw [hW]
      exact (uxH1 (by decide +kernel) hI.2.2.2.2.2.2.2.2.2.2.1)
    have k_xK1 : xK1 W := by
      rw [hW]
      exact (uxK1 (by decide +kernel) hI.2.2.2.2.2.2.2.2.2.2.2.1)
    have k_xC1 : xC1 W := by
      rw [hW]
      exact (uxC1 (by decide +kernel) hI.2.2.2.2.2.2.2.2.2.2.2.2.1)
    have k_xRW : xRW W := by
      rw [hW]
      exact (uxRW (by decide +kernel) hI.2.2.2.2.2.2.2.2.2.2.2.2.2.1)
    have k_xWT : xWT W := by
      rw [hW]
      exact (uxWT (by decide +kernel) hI.2.2.2.2.2.2.2.2.2.2.2.2.2.2.1)
    have k_xCU : xCU W := by
      rw [hW]
      exact (uxCU (by decide +kernel) hI.2.2.2.2.2.2.2.2.2.2.2.2.2.2.2.1)
    have k_xG2 : xG2 W := by
      rw [hW]
      exact (uxG2 (by decide +kernel) hI.2.2.2.2.2.2.2.2.2.2.2.2.2.2.2.2.1)
    have k_xG3 : xG3 W := by
      rw [hW]
      exact (uxG3 (by decide +kernel) hI.2.2.2.2.2.2.2.2.2.2.2.2.2.2.2.2.2.1)
    have k_xG4 : xG4 W := by
      rw [hW]
      exact (uxG4 (by decide +kernel) hI.2.2.2.2.2.2.2.2.2.2.2.2.2.2.2.2.2.2.1)
    have k_xG5 : xG5 W := by
      rw [hW]
      exact (uxG5 (by decide +kernel) hI.2.2.2.2.2.2.2.2.2.2.2.2.2.2.2.2.2.2.2.1)
    have k_xG6 : xG6 W := by
      rw [hW]
      exact (uxG6 (by decide +kernel) hI.2.2.2.2.2.2.2.2.2.2.2.2.2.2.2.2.2.2.2.2.1)
    have k_xS1 : xS1 W := by
      rw [hW]
      exact (uxS1 (by decide +kernel) hI.2.2.2.2.2.2.2.2.2.2.2.2.2.2.2.2.2.2.2.2.2.1)
    have k_xS2 : xS2 W := by
      rw [hW]
      exact (uxS2 (by decide +kernel) hI.2.2.2.2.2.2.2.2.2.2.2.2.2.2.2.2.2.2.2.2.2.2.1)
    have k_xS3 : xS3 W := by
      rw [hW]
      exact (uxS3 (by decide +kernel) hI.2.2.2.2.2.2.2.2.2.2.2.2.2.2.2.2.2.2.2.2.2.2.2.1)
    have k_xS4 : xS4 W := by
      have r : W 4 100 = 2 := by
        have e := m0
        rw [hW, sU_ne (fun z => by omega)]
        omega
      intro h
      rw [r] at h
      omega
    have k_xS5 : xS5 W := by
      have r4_100 : W 4 100 = M 4 100 := by rw [hW, sU_ne (fun z => by omega)]
      have r4_104 : W 4 104 = M 4 104 := by rw [hW, sU_ne (fun z => by omega)]
      have r4_105 : W 4 105 = 1 * ρ 0 + 0 := by rw [hW, sU_at]
      have r4_106 : W 4 106 = M 4 106 := by rw [hW, sU_ne (fun z => by omega)]
      have c3 : ∀ k, W 3 k = M 3 k := fun k => by rw [hW, sU_ne (fun z => by omega)]
      have e3 : W 3 = M 3 := funext c3
      have c94 : ∀ k, W 94 k = M 94 k := fun k => by rw [hW, sU_ne (fun z => by omega)]
      have e94 : W 94 = M 94 := funext c94
      have c100 : ∀ k, W 100 k = M 100 k := fun k => by rw [hW, sU_ne (fun z => by omega)]
      have e100 : W 100 = M 100 := funext c100
      have c104 : ∀ k, W 104 k = M 104 k := fun k => by rw [hW, sU_ne (fun z => by omega)]
      have e104 : W 104 = M 104 := funext c104
      intro h
      obtain ⟨a0, a1, a2⟩ := gx_xS5 hI (by omega)
      rw [r4_104, r4_105, r4_106, e3, e94, e100, e104]
      refine ⟨fun j hj ht => ?_, fun j hj ht => ?_, fun j hj ht => ?_⟩
      · exact a0 j hj (by omega)
      · by_cases hJ : j = 0
        · subst hJ
          show M 100 6 = M 3 70
          omega
        · exact a1 j hj (by (try rw [h0] at ht); omega)
      · exact a2 j hj (by omega)
    have k_xS6 : xS6 W := by
      rw [hW]
      exact (uxS6 (by decide +kernel) hI.2.2.2.2.2.2.2.2.2.2.2.2.2.2.2.2.2.2.2.2.2.2.2.2.2.2.1)
    have k_xS7 : xS7 W := by
      rw [hW]
      exact (uxS7 (by decide +kernel) hI.2.2.2.2.2.2.2.2.2.2.2.2.2.2.2.2.2.2.2.2.2.2.2.2.2.2.2.1)
    have k_xS8 : xS8 W := by
      rw [hW]
      exact (uxS8 (by decide +kernel) hI.2.2.2.2.2.2.2.2.2.2.2.2.2.2.2.2.2.2.2.2.2.2.2.2.2.2.2.2.1)
    have k_xS9 : xS9 W := by
      rw [hW]
      exact (uxS9 (by decide +kernel) hI.2.2.2.2.2.2.2.2.2.2.2.2.2.2.2.2.2.2.2.2.2.2.2.2.2.2.2.2.2.1)
    have k_xSA : xSA W := by
      rw [hW]
      exact (uxSA (by decide +kernel) hI.2.2.2.2.2.2.2.2.2.2.2.2.2.2.2.2.2.2.2.2.2.2.2.2.2.2.2.2.2.2.1)
    have k_xSG : xSG W := by
      rw [hW]
      exact (uxSG (by decide +kernel) hI.2.2.2.2.2.2.2.2.2.2.2.2.2.2.2.2.2.2.2.2.2.2.2.2.2.2.2.2.2.2.2.1)
    have k_xSF : xSF W := by
      rw [hW]
      exact (uxSF (by decide +kernel) hI.2.2.2.2.2.2.2.2.2.2.2.2.2.2.2.2.2.2.2.2.2.2.2.2.2.2.2.2.2.2.2.2.1)
    have k_xSB : xSB W := by
      rw [hW]
      exact (uxSB (by decide +kernel) hI.2.2.2.2.2.2.2.2.2.2.2.2.2.2.2.2.2.2.2.2.2.2.2.2.2.2.2.2.2.2.2.2.2.1)
    have k_xSC : xSC W := by
      rw [hW]
      exact (uxSC (by decide +kernel) hI.2.2.2.2.2.2.2.2.2.2.2.2.2.2.2.2.2.2.2.2.2.2.2.2.2.2.2.2.2.2.2.2.2.2.1)
    have k_xSD : xSD W := by
      rw [hW]
      exact (uxSD (by decide +kernel) hI.2.2.2.2.2.2.2.2.2.2.2.2.2.2.2.2.2.2.2.2.2.2.2.2.2.2.2.2.2.2.2.2.2.2.2.1)
    have k_xSE : xSE W := by
      rw [hW]
      exact (uxSE (by decide +kernel) hI.2.2.2.2.2.2.2.2.2.2.2.2.2.2.2.2.2.2.2.2.2.2.2.2.2.2.2.2.2.2.2.2.2.2.2.2.1)
    have k_xSW : xSW W := by
      rw [hW]
      exact (uxSW (by decide +kernel) hI.2.2.2.2.2.2.2.2.2.2.2.2.2.2.2.2.2.2.2.2.2.2.2.2.2.2.2.2.2.2.2.2.2.2.2.2.2.1)
    have k_xST : xST W := by
      rw [hW]
      exact (uxST (by decide +kernel) hI.2.2.2.2.2.2.2.2.2.2.2.2.2.2.2.2.2.2.2.2.2.2.2.2.2.2.2.2.2.2.2.2.2.2.2.2.2.2.1)
    have k_xSP : xSP W := by
      rw [hW]
      exact (uxSP (by decide +kernel) hI.2.2.2.2.2.2.2.2.2.2.2.2.2.2.2.2.2.2.2.2.2.2.2.2.2.2.2.2.2.2.2.2.2.2.2.2.2.2.2.1)
    have k_xSL : xSL W := by
      rw [hW]
      exact (uxSL (by decide +kernel) hI.2.2.2.2.2.2.2.2.2.2.2.2.2.2.2.2.2.2.2.2.2.2.2.2.2.2.2.2.2.2.2.2.2.2.2.2.2.2.2.2.1)
    have k_xSM : xSM W := by
      rw [hW]
      exact (uxSM (by decide +kernel) hI.2.2.2.2.2.2.2.2.2.2.2.2.2.2.2.2.2.2.2.2.2.2.2.2.2.2.2.2.2.2.2.2.2.2.2.2.2.2.2.2.2.1)
    have k_xSI : xSI W := by
      rw [hW]
      exact (uxSI (by decide +kernel) hI.2.2.2.2.2.2.2.2.2.2.2.2.2.2.2.2.2.2.2.2.2.2.2.2.2.2.2.2.2.2.2.2.2.2.2.2.2.2.2.2.2.2)
    have k_XC : XC W := ⟨k_xS1, k_xS2, k_xS3, k_xS4, k_xS5, k_xS6, k_xS7, k_xS8, k_xS9, k_xSA, k_xSG, k_xSF, k_xSB, k_xSC, k_xSD, k_xSE, k_xSW, k_xST, k_xSP, k_xSL, k_xSM, k_xSI⟩
    have kXB : XB W := ⟨k_xN1, k_xN2, k_xN3, k_xN4, k_xN5, k_xN6, k_xH1, k_xK1, k_xC1, k_xRW, k_xWT, k_xCU, k_xG2, k_xG3, k_xG4, k_xG5, k_xG6, k_XC⟩
    exact ⟨base, k2, k3, kXA, kXB⟩
-- nmTieR100_1
def xr_575 : qRu := (4, [[(-2, 0), (1, 3)]], [(4, 100, [(2, 0)]), (4, 105, [(1, 3)]), (100, 7, [(1, 1)]), (3, 71, [(1, 2)])], [], [], [[(1, 1), (-1, 2)], [(-1, 1), (1, 2)]])
theorem xo_575 : qRok xr_575 := by
  intro ρ M h0 hf hm hI
  have f0 := hf [(-2, 0), (1, 3)] (by decide)
  simp only [qD, h0] at f0
  have m0 : M 4 100 = 2 * ρ 0 + 0 := hm (4, 100, [(2, 0)]) (by decide)
  have m1 : M 4 105 = 1 * ρ 3 + 0 := hm (4, 105, [(1, 3)]) (by decide)
  have m2 : M 100 7 = 1 * ρ 1 + 0 := hm (100, 7, [(1, 1)]) (by decide)
  have m3 : M 3 71 = 1 * ρ 2 + 0 := hm (3, 71, [(1, 2)]) (by decide)
  simp only [h0] at m0
  obtain ⟨a0, a1, a2⟩ := gx_xS5 hI (by omega)
  have t := a1 1 (by omega) (by omega)
  have t : M 100 7 = M 3 71 := t
  refine ⟨ρ, fun _ _ => rfl, fun f h => ?_, ?_⟩
  · have h : f ∈ ([[(1, 1), (-1, 2)], [(-1, 1), (1, 2)]] : List qF) := h
    simp only [List.mem_cons, List.not_mem_nil, or_false] at h
    rcases h with rfl | rfl
    · show 0 ≤ 1 * ρ 1 + (-1 * ρ 2 + 0)
      (try rw [h0]); omega
    · show 0 ≤ -1 * ρ 1 + (1 * ρ 2 + 0)
      (try rw [h0]); omega
  · show sI M
    exact hI
-- nmUpR100_1
def xr_576 : qRu := (3, [[(1, 1), (-1, 2)], [(-1, 1), (1, 2)]], [(4, 100, [(2, 0)]), (4, 105, [(1, 0)]), (100, 7, [(1, 1)]), (3, 71, [(1, 2)])], [], [(4, 105, [(2, 0)])], [])
theorem xo_576 : qRok xr_576 := by
  intro ρ M h0 hf hm hI
  have f0 := hf [(1, 1), (-1, 2)] (by decide)
  have f1 := hf [(-1, 1), (1, 2)] (by decide)
  simp only [qD, h0] at f0 f1
  have m0 : M 4 100 = 2 * ρ 0 + 0 := hm (4, 100, [(2, 0)]) (by decide)
  have m1 : M 4 105 = 1 * ρ 0 + 0 := hm (4, 105, [(1, 0)]) (by decide)
  have m2 : M 100 7 = 1 * ρ 1 + 0 := hm (100, 7, [(1, 1)]) (by decide)
  have m3 : M 3 71 = 1 * ρ 2 + 0 := hm (3, 71, [(1, 2)]) (by decide)
  simp only [h0] at m0 m1
  have qxS5 := hI.2.2.2.2.2.2.2.2.2.2.2.2.2.2.2.2.2.2.2.2.2.2.2.2.2.1
  refine ⟨ρ, fun _ _ => rfl, fun f h => ?_, ?_⟩
  · exact nomatch h
  · show sI (sU M 4 105 (2 * ρ 0 + 0))
    obtain ⟨W, hW⟩ : ∃ W, W = (sU M 4 105 (2 * ρ 0 + 0)) := ⟨_, rfl⟩
    rw [← hW]
    have base : sI0 W := by
      rw [hW]
      exact (si_u0 hI.1 (fun r hr => by cases hr))
    have k2 : XI2 W := by
      rw [hW]
      exact (xi2_u (by decide +kernel) hI.2.1)
    have k3 : XI3 W := by
      rw [hW]
      exact (xi3_u (by decide +kernel) hI.2.2.1)
    have kXA : XA W := by
      rw [hW]
      exact (uXA (by decide +kernel) hI.2.2.2.1)
    have k_xN1 : xN1 W := by
      rw [hW]
      exact (uxN1 (by decide +kernel) hI.2.2.2.2.1)
    have k_xN2 : xN2 W := by
      rw [hW]
      exact (uxN2 (by decide +kernel) hI.2.2.2.2.2.1)
    have k_xN3 : xN3 W := by
      rw [hW]
      exact (uxN3 (by decide +kernel) hI.2.2.2.2.2.2.1)
    have k_xN4 : xN4 W := by
      rw [hW]
      exact (uxN4 (by decide +kernel) hI.2.2.2.2.2.2.2.1)
    have k_xN5 : xN5 W := by
      rw [hW]
      exact (uxN5 (by decide +kernel) hI.2.2.2.2.2.2.2.2.1)
    have k_xN6 : xN6 W := by
      rw [hW]
      exact (uxN6 (by decide +kernel) hI.2.2.2.2.2.2.2.2.2.1)
    have k_xH1 : xH1 W := by
      rw [hW]
      exact (uxH1 (by decide +kernel) hI.2.2.2.2.2.2.2.2.2.2.1)
    have k_xK1 : xK1 W := by
      rw [hW]
      exact (uxK1 (by decide +kernel) hI.2.2.2.2.2.2.2.2.2.2.2.1)
    have k_xC1 : xC1 W := by
      rw [hW]
      exact (uxC1 (by decide +kernel) hI.2.2.2.2.2.2.2.2.2.2.2.2.1)
    have k_xRW : xRW W := by
      rw [hW]
      exact (uxRW (by decide +kernel) hI.2.2.2.2.2.2.2.2.2.2.2.2.2.1)
    have k_xWT : xWT W := by
      rw [hW]
      exact (uxWT (by decide +kernel) hI.2.2.2.2.2.2.2.2.2.2.2.2.2.2.1)
    have k_xCU : xCU W := by
      rw [hW]
      exact (uxCU (by decide +kernel) hI.2.2.2.2.2.2.2.2.2.2.2.2.2.2.2.1)
    have k_xG2 : xG2 W := by
      rw [hW]
      exact (uxG2 (by decide +kernel) hI.2.2.2.2.2.2.2.2.2.2.2.2.2.2.2.2.1)
    have k_xG3 : xG3 W := by
      rw [hW]
      exact (uxG3 (by decide +kernel) hI.2.2.2.2.2.2.2.2.2.2.2.2.2.2.2.2.2.1)
    have k_xG4 : xG4 W := by
      rw [hW]
      exact (uxG4 (by decide +kernel) hI.2.2.2.2.2.2.2.2.2.2.2.2.2.2.2.2.2.2.1)
    have k_xG5 : xG5 W := by
      rw [hW]
      exact (uxG5 (by decide +kernel) hI.2.2.2.2.2.2.2.2.2.2.2.2.2.2.2.2.2.2.2.1)
    have k_xG6 : xG6 W := by
      rw [hW]
      exact (uxG6 (by decide +kernel) hI.2.2.2.2.2.2.2.2.2.2.2.2.2.2.2.2.2.2.2.2.1)
    have k_xS1 : xS1 W := by
      rw [hW]
      exact (uxS1 (by decide +kernel) hI.2.2.2.2.2.2.2.2.2.2.2.2.2.2.2.2.2.2.2.2.2.1)
    have k_xS2 : xS2 W := by
      rw [hW]
      exact (uxS2 (by decide +kernel) hI.2.2.2.2.2.2.2.2.2.2.2.2.2.2.2.2.2.2.2.2.2.2.1)
    have k_xS3 : xS3 W := by
      rw [hW]
      exact (uxS3 (by decide +kernel) hI.2.2.2.2.2.2.2.2.2.2.2.2.2.2.2.2.2.2.2.2.2.2.2.1)
    have k_xS4 : xS4 W := by
      have r : W 4 100 = 2 := by
        have e := m0
        rw [hW, sU_ne (fun z => by omega)]
        omega
      intro h
      rw [r] at h
      omega
    have k_xS5 : xS5 W := by
      have r4_100 : W 4 100 = M 4 100 := by rw [hW, sU_ne (fun z => by omega)]
      have r4_104 : W 4 104 = M 4 104 := by rw [hW, sU_ne (fun z => by omega)]
      have r4_105 : W 4 105 = 2 * ρ 0 + 0 := by rw [hW, sU_at]
      have r4_106 : W 4 106 = M 4 106 := by rw [hW, sU_ne (fun z => by omega)]
      have c3 : ∀ k, W 3 k = M 3 k := fun k => by rw [hW, sU_ne (fun z => by omega)]
      have e3 : W 3 = M 3 := funext c3
      have c94 : ∀ k, W 94 k = M 94 k := fun k => by rw [hW, sU_ne (fun z => by omega)]
      have e94 : W 94 = M 94 := funext c94
      have c100 : ∀ k, W 100 k = M 100 k := fun k => by rw [hW, sU_ne (fun z => by omega)]
      have e100 : W 100 = M 100 := funext c100
      have c104 : ∀ k, W 104 k = M 104 k := fun k => by rw [hW, sU_ne (fun z => by omega)]
      have e104 : W 104 = M 104 := funext c104
      intro h
      obtain ⟨a0, a1, a2⟩ := gx_xS5 hI (by omega)
      rw [r4_104, r4_105, r4_106, e3, e94, e100, e104]
      refine ⟨fun j hj ht => ?_, fun j hj ht => ?_, fun j hj ht => ?_⟩
      · exact a0 j hj (by omega)
      · by_cases hJ : j = 1
        · subst hJ
          show M 100 7 = M 3 71
          omega
        · exact a1 j hj (by (try rw [h0] at ht); omega)
      · exact a2 j hj (by omega)
    have k_xS6 : xS6 W := by
      rw [hW]
      exact (uxS6 (by decide +kernel) hI.2.2.2.2.2.2.2.2.2.2.2.2.2.2.2.2.2.2.2.2.2.2.2.2.2.2.1)
    have k_xS7 : xS7 W := by
      rw [hW]
      exact (uxS7 (by decide +kernel) hI.2.2.2.2.2.2.2.2.2.2.2.2.2.2.2.2.2.2.2.2.2.2.2.2.2.2.2.1)
    have k_xS8 : xS8 W := by
      rw [hW]
      exact (uxS8 (by decide +kernel) hI.2.2.2.2.2.2.2.2.2.2.2.2.2.2.2.2.2.2.2.2.2.2.2.2.2.2.2.2.1)
    have k_xS9 : xS9 W := by
      rw [hW]
      exact (uxS9 (by decide +kernel) hI.2.2.2.2.2.2.2.2.2.2.2.2.2.2.2.2.2.2.2.2.2.2.2.2.2.2.2.2.2.1)
    have k_xSA : xSA W := by
      rw [hW]
      exact (uxSA (by decide +kernel) hI.2.2.2.2.2.2.2.2.2.2.2.2.2.2.2.2.2.2.2.2.2.2.2.2.2.2.2.2.2.2.1)
    have k_xSG : xSG W := by
      rw [hW]
      exact (uxSG (by decide +kernel) hI.2.2.2.2.2.2.2.2.2.2.2.2.2.2.2.2.2.2.2.2.2.2.2.2.2.2.2.2.2.2.2.1)
    have k_xSF : xSF W := by
      rw [hW]
      exact (uxSF (by decide +kernel) hI.2.2.2.2.2.2.2.2.2.2.2.2.2.2.2.2.2.2.2.2.2.2.2.2.2.2.2.2.2.2.2.2.1)
    have k_xSB : xSB W := by
      rw [hW]
      exact (uxSB (by decide +kernel) hI.2.2.2.2.2.2.2.2.2.2.2.2.2.2.2.2.2.2.2.2.2.2.2.2.2.2.2.2.2.2.2.2.2.1)
    have k_xSC : xSC W := by
      rw [hW]
      exact (uxSC (by decide +kernel) hI.2.2.2.2.2.2.2.2.2.2.2.2.2.2.2.2.2.2.2.2.2.2.2.2.2.2.2.2.2.2.2.2.2.2.1)
    have k_xSD : xSD W := by
      rw [hW]
      exact (uxSD (by decide +kernel) hI.2.2.2.2.2.2.2.2.2.2.2.2.2.2.2.2.2.2.2.2.2.2.2.2.2.2.2.2.2.2.2.2.2.2.2.1)
    have k_xSE : xSE W := by
      rw [hW]
      exact (uxSE (by decide +kernel) hI.2.2.2.2.2.2.2.2.2.2.2.2.2.2.2.2.2.2.2.2.2.2.2.2.2.2.2.2.2.2.2.2.2.2.2.2.1)
    have k_xSW : xSW W := by
      rw [hW]
      exact (uxSW (by decide +kernel) hI.2.2.2.2.2.2.2.2.2.2.2.2.2.2.2.2.2.2.2.2.2.2.2.2.2.2.2.2.2.2.2.2.2.2.2.2.2.1)
    have k_xST : xST W := by
      rw [hW]
      exact (uxST (by decide +kernel) hI.2.2.2.2.2.2.2.2.2.2.2.2.2.2.2.2.2.2.2.2.2.2.2.2.2.2.2.2.2.2.2.2.2.2.2.2.2.2.1)
    have k_xSP : xSP W := by
      rw [hW]
      exact (uxSP (by decide +kernel) hI.2.2.2.2.2.2.2.2.2.2.2.2.2.2.2.2.2.2.2.2.2.2.2.2.2.2.2.2.2.2.2.2.2.2.2.2.2.2.2.1)
    have k_xSL : xSL W := by
      rw [hW]
      exact (uxSL (by decide +kernel) hI.2.2.2.2.2.2.2.2.2.2.2.2.2.2.2.2.2.2.2.2.2.2.2.2.2.2.2.2.2.2.2.2.2.2.2.2.2.2.2.2.1)
    have k_xSM : xSM W := by
      rw [hW]
      exact (uxSM (by decide +kernel) hI.2.2.2.2.2.2.2.2.2.2.2.2.2.2.2.2.2.2.2.2.2.2.2.2.2.2.2.2.2.2.2.2.2.2.2.2.2.2.2.2.2.1)
    have k_xSI : xSI W := by
      rw [hW]
      exact (uxSI (by decide +kernel) hI.2.2.2.2.2.2.2.2.2.2.2.2.2.2.2.2.2.2.2.2.2.2.2.2.2.2.2.2.2.2.2.2.2.2.2.2.2.2.2.2.2.2)
    have k_XC : XC W := ⟨k_xS1, k_xS2, k_xS3, k_xS4, k_xS5, k_xS6, k_xS7, k_xS8, k_xS9, k_xSA, k_xSG, k_xSF, k_xSB, k_xSC, k_xSD, k_xSE, k_xSW, k_xST, k_xSP, k_xSL, k_xSM, k_xSI⟩
    have kXB : XB W := ⟨k_xN1, k_xN2, k_xN3, k_xN4, k_xN5, k_xN6, k_xH1, k_xK1, k_xC1, k_xRW, k_xWT, k_xCU, k_xG2, k_xG3, k_xG4, k_xG5, k_xG6, k_XC⟩
    exact ⟨base, k2, k3, kXA, kXB⟩
-- nmTieR100_2
def xr_577 : qRu := (4, [[(-3, 0), (1, 3)]], [(4, 100, [(2, 0)]), (4, 105, [(1, 3)]), (100, 8, [(1, 1)]), (3, 72, [(1, 2)])], [], [], [[(1, 1), (-1, 2)], [(-1, 1), (1, 2)]])
theorem xo_577 : qRok xr_577 := by
  intro ρ M h0 hf hm hI
  have f0 := hf [(-3, 0), (1, 3)] (by decide)
  simp only [qD, h0] at f0
  have m0 : M 4 100 = 2 * ρ 0 + 0 := hm (4, 100, [(2, 0)]) (by decide)
  have m1 : M 4 105 = 1 * ρ 3 + 0 := hm (4, 105, [(1, 3)]) (by decide)
  have m2 : M 100 8 = 1 * ρ 1 + 0 := hm (100, 8, [(1, 1)]) (by decide)
  have m3 : M 3 72 = 1 * ρ 2 + 0 := hm (3, 72, [(1, 2)]) (by decide)
  simp only [h0] at m0
  obtain ⟨a0, a1, a2⟩ := gx_xS5 hI (by omega)
  have t := a1 2 (by omega) (by omega)
  have t : M 100 8 = M 3 72 := t
  refine ⟨ρ, fun _ _ => rfl, fun f h => ?_, ?_⟩
  · have h : f ∈ ([[(1, 1), (-1, 2)], [(-1, 1), (1, 2)]] : List qF) := h
    simp only [List.mem_cons, List.not_mem_nil, or_false] at h
    rcases h with rfl | rfl
    · show 0 ≤ 1 * ρ 1 + (-1 * ρ 2 + 0)
      (try rw [h0]); omega
    · show 0 ≤ -1 * ρ 1 + (1 * ρ 2 + 0)
      (try rw [h0]); omega
  · show sI M
    exact hI
-- nmUpR100_2
def xr_578 : qRu := (3, [[(1, 1), (-1, 2)], [(-1, 1), (1, 2)]], [(4, 100, [(2, 0)]), (4, 105, [(2, 0)]), (100, 8, [(1, 1)]), (3, 72, [(1, 2)])], [], [(4, 105, [(3, 0)])], [])
theorem xo_578 : qRok xr_578 := by
  intro ρ M h0 hf hm hI
  have f0 := hf [(1, 1), (-1, 2)] (by decide)
  have f1 := hf [(-1, 1), (1, 2)] (by decide)
  simp only [qD, h0] at f0 f1
  have m0 : M 4 100 = 2 * ρ 0 + 0 := hm (4, 100, [(2, 0)]) (by decide)
  have m1 : M 4 105 = 2 * ρ 0 + 0 := hm (4, 105, [(2, 0)]) (by decide)
  have m2 : M 100 8 = 1 * ρ 1 + 0 := hm (100, 8, [(1, 1)]) (by decide)
  have m3 : M 3 72 = 1 * ρ 2 + 0 := hm (3, 72, [(1, 2)]) (by decide)
  simp only [h0] at m0 m1
  have qxS5 := hI.2.2.2.2.2.2.2.2.2.2.2.2.2.2.2.2.2.2.2.2.2.2.2.2.2.1
  refine ⟨ρ, fun _ _ => rfl, fun f h => ?_, ?_⟩
  · exact nomatch h
  · show sI (sU M 4 105 (3 * ρ 0 + 0))
    obtain ⟨W, hW⟩ : ∃ W, W = (sU M 4 105 (3 * ρ 0 + 0)) := ⟨_, rfl⟩
    rw [← hW]
    have base : sI0 W := by
      rw [hW]
      exact (si_u0 hI.1 (fun r hr => by cases hr))
    have k2 : XI2 W := by
      rw [hW]
      exact (xi2_u (by decide +kernel) hI.2.1)
    have k3 : XI3 W := by
      rw [hW]
      exact (xi3_u (by decide +kernel) hI.2.2.1)
    have kXA : XA W := by
      rw [hW]
      exact (uXA (by decide +kernel) hI.2.2.2.1)
    have k_xN1 : xN1 W := by
      rw [hW]
      exact (uxN1 (by decide +kernel) hI.2.2.2.2.1)
    have k_xN2 : xN2 W := by
      rw [hW]
      exact (uxN2 (by decide +kernel) hI.2.2.2.2.2.1)
    have k_xN3 : xN3 W := by
      rw [hW]
      exact (uxN3 (by decide +kernel) hI.2.2.2.2.2.2.1)
    have k_xN4 : xN4 W := by
      rw [hW]
      exact (uxN4 (by decide +kernel) hI.2.2.2.2.2.2.2.1)
    have k_xN5 : xN5 W := by
      rw [hW]
      exact (uxN5 (by decide +kernel) hI.2.2.2.2.2.2.2.2.1)
    have k_xN6 : xN6 W := by
      rw [hW]
      exact (uxN6 (by decide +kernel) hI.2.2.2.2.2.2.2.2.2.1)
    have k_xH1 : xH1 W := by
      rw [hW]
      exact (uxH1 (by decide +kernel) hI.2.2.2.2.2.2.2.2.2.2.1)
    have k_xK1 : xK1 W := by
      rw [hW]
      exact (uxK1 (by decide +kernel) hI.2.2.2.2.2.2.2.2.2.2.2.1)
    have k_xC1 : xC1 W := by
      rw [hW]
      exact (uxC1 (by decide +kernel) hI.2.2.2.2.2.2.2.2.2.2.2.2.1)
    have k_xRW : xRW W := by
      rw [hW]
      exact (uxRW (by decide +kernel) hI.2.2.2.2.2.2.2.2.2.2.2.2.2.1)
    have k_xWT : xWT W := by
      rw [hW]
      exact (uxWT (by decide +kernel) hI.2.2.2.2.2.2.2.2.2.2.2.2.2.2.1)
    have k_xCU : xCU W := by
      rw [hW]
      exact (uxCU (by decide +kernel) hI.2.2.2.2.2.2.2.2.2.2.2.2.2.2.2.1)
    have k_xG2 : xG2 W := by
      rw [hW]
      exact (uxG2 (by decide +kernel) hI.2.2.2.2.2.2.2.2.2.2.2.2.2.2.2.2.1)
    have k_xG3 : xG3 W := by
      rw [hW]
      exact (uxG3 (by decide +kernel) hI.2.2.2.2.2.2.2.2.2.2.2.2.2.2.2.2.2.1)
    have k_xG4 : xG4 W := by
      rw [hW]
      exact (uxG4 (by decide +kernel) hI.2.2.2.2.2.2.2.2.2.2.2.2.2.2.2.2.2.2.1)
    have k_xG5 : xG5 W := by
      rw [hW]
      exact (uxG5 (by decide +kernel) hI.2.2.2.2.2.2.2.2.2.2.2.2.2.2.2.2.2.2.2.1)
    have k_xG6 : xG6 W := by
      rw [hW]
      exact (uxG6 (by decide +kernel) hI.2.2.2.2.2.2.2.2.2.2.2.2.2.2.2.2.2.2.2.2.1)
    have k_xS1 : xS1 W := by
      rw [hW]
      exact (uxS1 (by decide +kernel) hI.2.2.2.2.2.2.2.2.2.2.2.2.2.2.2.2.2.2.2.2.2.1)
    have k_xS2 : xS2 W := by
      rw [hW]
      exact (uxS2 (by decide +kernel) hI.2.2.2.2.2.2.2.2.2.2.2.2.2.2.2.2.2.2.2.2.2.2.1)
    have k_xS3 : xS3 W := by
      rw [hW]
      exact (uxS3 (by decide +kernel) hI.2.2.2.2.2.2.2.2.2.2.2.2.2.2.2.2.2.2.2.2.2.2.2.1)
    have k_xS4 : xS4 W := by
      have r : W 4 100 = 2 := by
        have e := m0
        rw [hW, sU_ne (fun z => by omega)]
        omega
      intro h
      rw [r] at h
      omega
    have k_xS5 : xS5 W := by
      have r4_100 : W 4 100 = M 4 100 := by rw [hW, sU_ne (fun z => by omega)]
      have r4_104 : W 4 104 = M 4 104 := by rw [hW, sU_ne (fun z => by omega)]
      have r4_105 : W 4 105 = 3 * ρ 0 + 0 := by rw [hW, sU_at]
      have r4_106 : W 4 106 = M 4 106 := by rw [hW, sU_ne (fun z => by omega)]
      have c3 : ∀ k, W 3 k = M 3 k := fun k => by rw [hW, sU_ne (fun z => by omega)]
      have e3 : W 3 = M 3 := funext c3
      have c94 : ∀ k, W 94 k = M 94 k := fun k => by rw [hW, sU_ne (fun z => by omega)]
      have e94 : W 94 = M 94 := funext c94
      have c100 : ∀ k, W 100 k = M 100 k := fun k => by rw [hW, sU_ne (fun z => by omega)]
      have e100 : W 100 = M 100 := funext c100
      have c104 : ∀ k, W 104 k = M 104 k := fun k => by rw [hW, sU_ne (fun z => by omega)]
      have e104 : W 104 = M 104 := funext c104
      intro h
      obtain ⟨a0, a1, a2⟩ := gx_xS5 hI (by omega)
      rw [r4_104, r4_105, r4_106, e3, e94, e100, e104]
      refine ⟨fun j hj ht => ?_, fun j hj ht => ?_, fun j hj ht => ?_⟩
      · exact a0 j hj (by omega)
      · by_cases hJ : j = 2
        · subst hJ
          show M 100 8 = M 3 72
          omega
        · exact a1 j hj (by (try rw [h0] at ht); omega)
      · exact a2 j hj (by omega)
    have k_xS6 : xS6 W := by
      rw [hW]
      exact (uxS6 (by decide +kernel) hI.2.2.2.2.2.2.2.2.2.2.2.2.2.2.2.2.2.2.2.2.2.2.2.2.2.2.1)
    have k_xS7 : xS7 W := by
      rw [hW]
      exact (uxS7 (by decide +kernel) hI.2.2.2.2.2.2.2.2.2.2.2.2.2.2.2.2.2.2.2.2.2.2.2.2.2.2.2.1)
    have k_xS8 : xS8 W := by
      rw [hW]
      exact (uxS8 (by decide +kernel) hI.2.2.2.2.2.2.2.2.2.2.2.2.2.2.2.2.2.2.2.2.2.2.2.2.2.2.2.2.1)
    have k_xS9 : xS9 W := by
      rw [hW]
      exact (uxS9 (by decide +kernel) hI.2.2.2.2.2.2.2.2.2.2.2.2.2.2.2.2.2.2.2.2.2.2.2.2.2.2.2.2.2.1)
    have k_xSA : xSA W := by
      rw [hW]
      exact (uxSA (by decide +kernel) hI.2.2.2.2.2.2.2.2.2.2.2.2.2.2.2.2.2.2.2.2.2.2.2.2.2.2.2.2.2.2.1)
    have k_xSG : xSG W := by
      rw [hW]
      exact (uxSG (by decide +kernel) hI.2.2.2.2.2.2.2.2.2.2.2.2.2.2.2.2.2.2.2.2.2.2.2.2.2.2.2.2.2.2.2.1)
    have k_xSF : xSF W := by
      rw [hW]
      exact (uxSF (by decide +kernel) hI.2.2.2.2.2.2.2.2.2.2.2.2.2.2.2.2.2.2.2.2.2.2.2.2.2.2.2.2.2.2.2.2.1)
    have k_xSB : xSB W := by
      rw [hW]
      exact (uxSB (by decide +kernel) hI.2.2.2.2.2.2.2.2.2.2.2.2.2.2.2.2.2.2.2.2.2.2.2.2.2.2.2.2.2.2.2.2.2.1)
    have k_xSC : xSC W := by
      rw [hW]
      exact (uxSC (by decide +kernel) hI.2.2.2.2.2.2.2.2.2.2.2.2.2.2.2.2.2.2.2.2.2.2.2.2.2.2.2.2.2.2.2.2.2.2.1)
    have k_xSD : xSD W := by
      rw [hW]
      exact (uxSD (by decide +kernel) hI.2.2.2.2.2.2.2.2.2.2.2.2.2.2.2.2.2.2.2.2.2.2.2.2.2.2.2.2.2.2.2.2.2.2.2.1)
    have k_xSE : xSE W := by
      rw [hW]
      exact (uxSE (by decide +kernel) hI.2.2.2.2.2.2.2.2.2.2.2.2.2.2.2.2.2.2.2.2.2.2.2.2.2.2.2.2.2.2.2.2.2.2.2.2.1)
    have k_xSW : xSW W := by
      rw [hW]
      exact (uxSW (by decide +kernel) hI.2.2.2.2.2.2.2.2.2.2.2.2.2.2.2.2.2.2.2.2.2.2.2.2.2.2.2.2.2.2.2.2.2.2.2.2.2.1)
    have k_xST : xST W := by
      rw [hW]
      exact (uxST (by decide +kernel) hI.2.2.2.2.2.2.2.2.2.2.2.2.2.2.2.2.2.2.2.2.2.2.2.2.2.2.2.2.2.2.2.2.2.2.2.2.2.2.1)
    have k_xSP : xSP W := by
      rw [hW]
      exact (uxSP (by decide +kernel) hI.2.2.2.2.2.2.2.2.2.2.2.2.2.2.2.2.2.2.2.2.2.2.2.2.2.2.2.2.2.2.2.2.2.2.2.2.2.2.2.1)
    have k_xSL : xSL W := by
      rw [hW]
      exact (uxSL (by decide +kernel) hI.2.2.2.2.2.2.2.2.2.2.2.2.2.2.2.2.2.2.2.2.2.2.2.2.2.2.2.2.2.2.2.2.2.2.2.2.2.2.2.2.1)
    have k_xSM : xSM W := by
      rw [hW]
      exact (uxSM (by decide +kernel) hI.2.2.2.2.2.2.2.2.2.2.2.2.2.2.2.2.2.2.2.2.2.2.2.2.2.2.2.2.2.2.2.2.2.2.2.2.2.2.2.2.2.1)
    have k_xSI : xSI W := by
      rw [hW]
      exact (uxSI (by decide +kernel) hI.2.2.2.2.2.2.2.2.2.2.2.2.2.2.2.2.2.2.2.2.2.2.2.2.2.2.2.2.2.2.2.2.2.2.2.2.2.2.2.2.2.2)
    have k_XC : XC W := ⟨k_xS1, k_xS2, k_xS3, k_xS4, k_xS5, k_xS6, k_xS7, k_xS8, k_xS9, k_xSA, k_xSG, k_xSF, k_xSB, k_xSC, k_xSD, k_xSE, k_xSW, k_xST, k_xSP, k_xSL, k_xSM, k_xSI⟩
    have kXB : XB W := ⟨k_xN1, k_xN2, k_xN3, k_xN4, k_xN5, k_xN6, k_xH1, k_xK1, k_xC1, k_xRW, k_xWT, k_xCU, k_xG2, k_xG3, k_xG4, k_xG5, k_xG6, k_XC⟩
    exact ⟨base, k2, k3, kXA, kXB⟩
-- nmTieR100_3
def xr_579 : qRu := (4, [[(-4, 0), (1, 3)]], [(4, 100, [(2, 0)]), (4, 105, [(1, 3)]), (100, 9, [(1, 1)]), (3, 73, [(1, 2)])], [], [], [[(1, 1), (-1, 2)], [(-1, 1), (1, 2)]])
theorem xo_579 : qRok xr_579 := by
  intro ρ M h0 hf hm hI
  have f0 := hf [(-4, 0), (1, 3)] (by decide)
  simp only [qD, h0] at f0
  have m0 : M 4 100 = 2 * ρ 0 + 0 := hm (4, 100, [(2, 0)]) (by decide)
  have m1 : M 4 105 = 1 * ρ 3 + 0 := hm (4, 105, [(1, 3)]) (by decide)
  have m2 : M 100 9 = 1 * ρ 1 + 0 := hm (100, 9, [(1, 1)]) (by decide)
  have m3 : M 3 73 = 1 * ρ 2 + 0 := hm (3, 73, [(1, 2)]) (by decide)
  simp only [h0] at m0
  obtain ⟨a0, a1, a2⟩ := gx_xS5 hI (by omega)
  have t := a1 3 (by omega) (by omega)
  have t : M 100 9 = M 3 73 := t
  refine ⟨ρ, fun _ _ => rfl, fun f h => ?_, ?_⟩
  · have h : f ∈ ([[(1, 1), (-1, 2)], [(-1, 1), (1, 2)]] : List qF) := h
    simp only [List.mem_cons, List.not_mem_nil, or_false] at h
    rcases h with rfl | rfl
    · show 0 ≤ 1 * ρ 1 + (-1 * ρ 2 + 0)
      (try rw [h0]); omega
    · show 0 ≤ -1 * ρ 1 + (1 * ρ 2 + 0)
      (try rw [h0]); omega
  · show sI M
    exact hI
-- nmUpR100_3
def xr_580 : qRu := (3, [[(1, 1), (-1, 2)], [(-1, 1), (1, 2)]], [(4, 100, [(2, 0)]), (4, 105, [(3, 0)]), (100, 9, [(1, 1)]), (3, 73, [(1, 2)])], [], [(4, 105, [(4, 0)])], [])
theorem xo_580 : qRok xr_580 := by
  intro ρ M h0 hf hm hI
  have f0 := hf [(1, 1), (-1, 2)] (by decide)
  have f1 := hf [(-1, 1), (1, 2)] (by decide)
  simp only [qD, h0] at f0 f1
  have m0 : M 4 100 = 2 * ρ 0 + 0 := hm (4, 100, [(2, 0)]) (by decide)
  have m1 : M 4 105 = 3 * ρ 0 + 0 := hm (4, 105, [(3, 0)]) (by decide)
  have m2 : M 100 9 = 1 * ρ 1 + 0 := hm (100, 9, [(1, 1)]) (by decide)
  have m3 : M 3 73 = 1 * ρ 2 + 0 := hm (3, 73, [(1, 2)]) (by decide)
  simp only [h0] at m0 m1
  have qxS5 := hI.2.2.2.2.2.2.2.2.2.2.2.2.2.2.2.2.2.2.2.2.2.2.2.2.2.1
  refine ⟨ρ, fun _ _ => rfl, fun f h => ?_, ?_⟩
  · exact nomatch h
  · show sI (sU M 4 105 (4 * ρ 0 + 0))
    obtain ⟨W, hW⟩ : ∃ W, W = (sU M 4 105 (4 * ρ 0 + 0)) := ⟨_, rfl⟩
    rw [← hW]
    have base : sI0 W := by
      rw [hW]
      exact (si_u0 hI.1 (fun r hr => by cases hr))
    have k2 : XI2 W := by
      rw [hW]
      exact (xi2_u (by decide +kernel) hI.2.1)
    have k3 : XI3 W := by
      rw [hW]
      exact (xi3_u (by decide +kernel) hI.2.2.1)
    have kXA : XA W := by
      rw [hW]
      exact (uXA (by decide +kernel) hI.2.2.2.1)
    have k_xN1 : xN1 W := by
      rw [hW]
      exact (uxN1 (by decide +kernel) hI.2.2.2.2.1)
    have k_xN2 : xN2 W := by
      rw [hW]
      exact (uxN2 (by decide +kernel) hI.2.2.2.2.2.1)
    have k_xN3 : xN3 W := by
      rw [hW]
      exact (uxN3 (by decide +kernel) hI.2.2.2.2.2.2.1)
    have k_xN4 : xN4 W := by
      rw [hW]
      exact (uxN4 (by decide +kernel) hI.2.2.2.2.2.2.2.1)
    have k_xN5 : xN5 W := by
      rw [hW]
      exact (uxN5 (by decide +kernel) hI.2.2.2.2.2.2.2.2.1)
    have k_xN6 : xN6 W := by
      rw [hW]
      exact (uxN6 (by decide +kernel) hI.2.2.2.2.2.2.2.2.2.1)
    have k_xH1 : xH1 W := by
      rw [hW]
      exact (uxH1 (by decide +kernel) hI.2.2.2.2.2.2.2.2.2.2.1)
    have k_xK1 : xK1 W := by
      rw [hW]
      exact (uxK1 (by decide +kernel) hI.2.2.2.2.2.2.2.2.2.2.2.1)
    have k_xC1 : xC1 W := by
      rw [hW]
      exact (uxC1 (by decide +kernel) hI.2.2.2.2.2.2.2.2.2.2.2.2.1)
    have k_xRW : xRW W := by
      rw [hW]
      exact (uxRW (by decide +kernel) hI.2.2.2.2.2.2.2.2.2.2.2.2.2.1)
    have k_xWT : xWT W := by
      rw [hW]
      exact (uxWT (by decide +kernel) hI.2.2.2.2.2.2.2.2.2.2.2.2.2.2.1)
    have k_xCU : xCU W := by
      rw [hW]
      exact (uxCU (by decide +kernel) hI.2.2.2.2.2.2.2.2.2.2.2.2.2.2.2.1)
    have k_xG2 : xG2 W := by
      rw [hW]
      exact (uxG2 (by decide +kernel) hI.2.2.2.2.2.2.2.2.2.2.2.2.2.2.2.2.1)
    have k_xG3 : xG3 W := by
      rw [hW]
      exact (uxG3 (by decide +kernel) hI.2.2.2.2.2.2.2.2.2.2.2.2.2.2.2.2.2.1)
    have k_xG4 : xG4 W := by
      rw [hW]
      exact (uxG4 (by decide +kernel) hI.2.2.2.2.2.2.2.2.2.2.2.2.2.2.2.2.2.2.1)
    have k_xG5 : xG5 W := by
      rw [hW]
      exact (uxG5 (by decide +kernel) hI.2.2.2.2.2.2.2.2.2.2.2.2.2.2.2.2.2.2.2.1)
    have k_xG6 : xG6 W := by
      rw [hW]
      exact (uxG6 (by decide +kernel) hI.2.2.2.2.2.2.2.2.2.2.2.2.2.2.2.2.2.2.2.2.1)
    have k_xS1 : xS1 W := by
      rw [hW]
      exact (uxS1 (by decide +kernel) hI.2.2.2.2.2.2.2.2.2.2.2.2.2.2.2.2.2.2.2.2.2.1)
    have k_xS2 : xS2 W := by
      rw [hW]
      exact (uxS2 (by decide +kernel) hI.2.2.2.2.2.2.2.2.2.2.2.2.2.2.2.2.2.2.2.2.2.2.1)
    have k_xS3 : xS3 W := by
      rw [hW]
      exact (uxS3 (by decide +kernel) hI.2.2.2.2.2.2.2.2.2.2.2.2.2.2.2.2.2.2.2.2.2.2.2.1)
    have k_xS4 : xS4 W := by
      have r : W 4 100 = 2 := by
        have e := m0
        rw [hW, sU_ne (fun z => by omega)]
        omega
      intro h
      rw [r] at h
      omega
    have k_xS5 : xS5 W := by
      have r4_100 : W 4 100 = M 4 100 := by rw [hW, sU_ne (fun z => by omega)]
      have r4_104 : W 4 104 = M 4 104 := by rw [hW, sU_ne (fun z => by omega)]
      have r4_105 : W 4 105 = 4 * ρ 0 + 0 := by rw [hW, sU_at]
      have r4_106 : W 4 106 = M 4 106 := by rw [hW, sU_ne (fun z => by omega)]
      have c3 : ∀ k, W 3 k = M 3 k := fun k => by rw [hW, sU_ne (fun z => by omega)]
      have e3 : W 3 = M 3 := funext c3
      have c94 : ∀ k, W 94 k = M 94 k := fun k => by rw [hW, sU_ne (fun z => by omega)]
      have e94 : W 94 = M 94 := funext c94
      have c100 : ∀ k, W 100 k = M 100 k := fun k => by rw [hW, sU_ne (fun z => by omega)]
      have e100 : W 100 = M 100 := funext c100
      have c104 : ∀ k, W 104 k = M 104 k := fun k => by rw [hW, sU_ne (fun z => by omega)]
      have e104 : W 104 = M 104 := funext c104
      intro h
      obtain ⟨a0, a1, a2⟩ := gx_xS5 hI (by omega)
      rw [r4_104, r4_105, r4_106, e3, e94, e100, e104]
      refine ⟨fun j hj ht => ?_, fun j hj ht => ?_, fun j hj ht => ?_⟩
      · exact a0 j hj (by omega)
      · by_cases hJ : j = 3
        · subst hJ
          show M 100 9 = M 3 73
          omega
        · exact a1 j hj (by (try rw [h0] at ht); omega)
      · exact a2 j hj (by omega)
    have k_xS6 : xS6 W := by
      rw [hW]
      exact (uxS6 (by decide +kernel) hI.2.2.2.2.2.2.2.2.2.2.2.2.2.2.2.2.2.2.2.2.2.2.2.2.2.2.1)
    have k_xS7 : xS7 W := by
      rw [hW]
      exact (uxS7 (by decide +kernel) hI.2.2.2.2.2.2.2.2.2.2.2.2.2.2.2.2.2.2.2.2.2.2.2.2.2.2.2.1)
    have k_xS8 : xS8 W := by
      rw [hW]
      exact (uxS8 (by decide +kernel) hI.2.2.2.2.2.2.2.2.2.2.2.2.2.2.2.2.2.2.2.2.2.2.2.2.2.2.2.2.1)
    have k_xS9 : xS9 W := by
      rw [hW]
      exact (uxS9 (by decide +kernel) hI.2.2.2.2.2.2.2.2.2.2.2.2.2.2.2.2.2.2.2.2.2.2.2.2.2.2.2.2.2.1)
    have k_xSA : xSA W := by
      rw [hW]
      exact (uxSA (by decide +kernel) hI.2.2.2.2.2.2.2.2.2.2.2.2.2.2.2.2.2.2.2.2.2.2.2.2.2.2.2.2.2.2.1)
    have k_xSG : xSG W := by
      rw [hW]
      exact (uxSG (by decide +kernel) hI.2.2.2.2.2.2.2.2.2.2.2.2.2.2.2.2.2.2.2.2.2.2.2.2.2.2.2.2.2.2.2.1)
    have k_xSF : xSF W := by
      rw [hW]
      exact (uxSF (by decide +kernel) hI.2.2.2.2.2.2.2.2.2.2.2.2.2.2.2.2.2.2.2.2.2.2.2.2.2.2.2.2.2.2.2.2.1)
    have k_xSB : xSB W := by
      rw [hW]
      exact (uxSB (by decide +kernel) hI.2.2.2.2.2.2.2.2.2.2.2.2.2.2.2.2.2.2.2.2.2.2.2.2.2.2.2.2.2.2.2.2.2.1)
    have k_xSC : xSC W := by
      rw [hW]
      exact (uxSC (by decide +kernel) hI.2.2.2.2.2.2.2.2.2.2.2.2.2.2.2.2.2.2.2.2.2.2.2.2.2.2.2.2.2.2.2.2.2.2.1)
    have k_xSD : xSD W := by
      rw [hW]
      exact (uxSD (by decide +kernel) hI.2.2.2.2.2.2.2.2.2.2.2.2.2.2.2.2.2.2.2.2.2.2.2.2.2.2.2.2.2.2.2.2.2.2.2.1)
    have k_xSE : xSE W := by
      rw [hW]
      exact (uxSE (by decide +kernel) hI.2.2.2.2.2.2.2.2.2.2.2.2.2.2.2.2.2.2.2.2.2.2.2.2.2.2.2.2.2.2.2.2.2.2.2.2.1)
    have k_xSW : xSW W := by
      rw [hW]
      exact (uxSW (by decide +kernel) hI.2.2.2.2.2.2.2.2.2.2.2.2.2.2.2.2.2.2.2.2.2.2.2.2.2.2.2.2.2.2.2.2.2.2.2.2.2.1)
    have k_xST : xST W := by
      rw [hW]
      exact (uxST (by decide +kernel) hI.2.2.2.2.2.2.2.2.2.2.2.2.2.2.2.2.2.2.2.2.2.2.2.2.2.2.2.2.2.2.2.2.2.2.2.2.2.2.1)
    have k_xSP : xSP W := by
      rw [hW]
      exact (uxSP (by decide +kernel) hI.2.2.2.2.2.2.2.2.2.2.2.2.2.2.2.2.2.2.2.2.2.2.2.2.2.2.2.2.2.2.2.2.2.2.2.2.2.2.2.1)
    have k_xSL : xSL W := by
      rw [hW]
      exact (uxSL (by decide +kernel) hI.2.2.2.2.2.2.2.2.2.2.2.2.2.2.2.2.2.2.2.2.2.2.2.2.2.2.2.2.2.2.2.2.2.2.2.2.2.2.2.2.1)
    have k_xSM : xSM W := by
      rw [hW]
      exact (uxSM (by decide +kernel) hI.2.2.2.2.2.2.2.2.2.2.2.2.2.2.2.2.2.2.2.2.2.2.2.2.2.2.2.2.2.2.2.2.2.2.2.2.2.2.2.2.2.1)
    have k_xSI : xSI W := by
      rw [hW]
      exact (uxSI (by decide +kernel) hI.2.2.2.2.2.2.2.2.2.2.2.2.2.2.2.2.2.2.2.2.2.2.2.2.2.2.2.2.2.2.2.2.2.2.2.2.2.2.2.2.2.2)
    have k_XC : XC W := ⟨k_xS1, k_xS2, k_xS3, k_xS4, k_xS5, k_xS6, k_xS7, k_xS8, k_xS9, k_xSA, k_xSG, k_xSF, k_xSB, k_xSC, k_xSD, k_xSE, k_xSW, k_xST, k_xSP, k_xSL, k_xSM, k_xSI⟩
    have kXB : XB W := ⟨k_xN1, k_xN2, k_xN3, k_xN4, k_xN5, k_xN6, k_xH1, k_xK1, k_xC1, k_xRW, k_xWT, k_xCU, k_xG2, k_xG3, k_xG4, k_xG5, k_xG6, k_XC⟩
    exact ⟨base, k2, k3, kXA, kXB⟩
-- nmTieR100_4
def xr_581 : qRu := (4, [[(-5, 0), (1, 3)]], [(4, 100, [(2, 0)]), (4, 105, [(1, 3)]), (100, 10, [(1, 1)]), (3, 74, [(1, 2)])], [], [], [[(1, 1), (-1, 2)], [(-1, 1), (1, 2)]])
theorem xo_581 : qRok xr_581 := by
  intro ρ M h0 hf hm hI
  have f0 := hf [(-5, 0), (1, 3)] (by decide)
  simp only [qD, h0] at f0
  have m0 : M 4 100 = 2 * ρ 0 + 0 := hm (4, 100, [(2, 0)]) (by decide)
  have m1 : M 4 105 = 1 * ρ 3 + 0 := hm (4, 105, [(1, 3)]) (by decide)
  have m2 : M 100 10 = 1 * ρ 1 + 0 := hm (100, 10, [(1, 1)]) (by decide)
  have m3 : M 3 74 = 1 * ρ 2 + 0 := hm (3, 74, [(1, 2)]) (by decide)
  simp only [h0] at m0
  obtain ⟨a0, a1, a2⟩ := gx_xS5 hI (by omega)
  have t := a1 4 (by omega) (by omega)
  have t : M 100 10 = M 3 74 := t
  refine ⟨ρ, fun _ _ => rfl, fun f h => ?_, ?_⟩
  · have h : f ∈ ([[(1, 1), (-1, 2)], [(-1, 1), (1, 2)]] : List qF) := h
    simp only [List.mem_cons, List.not_mem_nil, or_false] at h
    rcases h with rfl | rfl
    · show 0 ≤ 1 * ρ 1 + (-1 * ρ 2 + 0)
      (try rw [h0]); omega
    · show 0 ≤ -1 * ρ 1 + (1 * ρ 2 + 0)
      (try rw [h0]); omega
  · show sI M
    exact hI
-- nmUpR100_4
def xr_582 : qRu := (3, [[(1, 1), (-1, 2)], [(-1, 1), (1, 2)]], [(4, 100, [(2, 0)]), (4, 105, [(4, 0)]), (100, 10, [(1, 1)]), (3, 74, [(1, 2)])], [], [(4, 105, [(5, 0)])], [])
theorem xo_582 : qRok xr_582 := by
  intro ρ M h0 hf hm hI
  have f0 := hf [(1, 1), (-1, 2)] (by decide)
  have f1 := hf [(-1, 1), (1, 2)] (by decide)
  simp only [qD, h0] at f0 f1
  have m0 : M 4 100 = 2 * ρ 0 + 0 := hm (4, 100, [(2, 0)]) (by decide)
  have m1 : M 4 105 = 4 * ρ 0 + 0 := hm (4, 105, [(4, 0)]) (by decide)
  have m2 : M 100 10 = 1 * ρ 1 + 0 := hm (100, 10, [(1, 1)]) (by decide)
  have m3 : M 3 74 = 1 * ρ 2 + 0 := hm (3, 74, [(1, 2)]) (by decide)
  simp only [h0] at m0 m1
  have qxS5 := hI.2.2.2.2.2.2.2.2.2.2.2.2.2.2.2.2.2.2.2.2.2.2.2.2.2.1
  refine ⟨ρ, fun _ _ => rfl, fun f h => ?_, ?_⟩
  · exact nomatch h
  · show sI (sU M 4 105 (5 * ρ 0 + 0))
    obtain ⟨W, hW⟩ : ∃ W, W = (sU M 4 105 (5 * ρ 0 + 0)) := ⟨_, rfl⟩
    rw [← hW]
    have base : sI0 W := by
      rw [hW]
      exact (si_u0 hI.1 (fun r hr => by cases hr))
    have k2 : XI2 W := by
      rw [hW]
      exact (xi2_u (by decide +kernel) hI.2.1)
    have k3 : XI3 W := by
      rw [hW]
      exact (xi3_u (by decide +kernel) hI.2.2.1)
    have kXA : XA W := by
      rw [hW]
      exact (uXA (by decide +kernel) hI.2.2.2.1)
    have k_xN1 : xN1 W := by
      rw [hW]
      exact (uxN1 (by decide +kernel) hI.2.2.2.2.1)
    have k_xN2 : xN2 W := by
      rw [hW]
      exact (uxN2 (by decide +kernel) hI.2.2.2.2.2.1)
    have k_xN3 : xN3 W := by
      rw [hW]
      exact (uxN3 (by decide +kernel) hI.2.2.2.2.2.2.1)
    have k_xN4 : xN4 W := by
      rw [hW]
      exact (uxN4 (by decide +kernel) hI.2.2.2.2.2.2.2.1)
    have k_xN5 : xN5 W := by
      rw [hW]
      exact (uxN5 (by decide +kernel) hI.2.2.2.2.2.2.2.2.1)
    have k_xN6 : xN6 W := by
      rw [hW]
      exact (uxN6 (by decide +kernel) hI.2.2.2.2.2.2.2.2.2.1)
    have k_xH1 : xH1 W := by
      rw [hW]
      exact (uxH1 (by decide +kernel) hI.2.2.2.2.2.2.2.2.2.2.1)
    have k_xK1 : xK1 W := by
      rw [hW]
      exact (uxK1 (by decide +kernel) hI.2.2.2.2.2.2.2.2.2.2.2.1)
    have k_xC1 : xC1 W := by
      rw [hW]
      exact (uxC1 (by decide +kernel) hI.2.2.2.2.2.2.2.2.2.2.2.2.1)
    have k_xRW : xRW W := by
      rw [hW]
      exact (uxRW (by decide +kernel) hI.2.2.2.2.2.2.2.2.2.2.2.2.2.1)
    have k_xWT : xWT W := by
      rw [hW]
      exact (uxWT (by decide +kernel) hI.2.2.2.2.2.2.2.2.2.2.2.2.2.2.1)
    have k_xCU : xCU W := by
      rw [hW]
      exact (uxCU (by decide +kernel) hI.2.2.2.2.2.2.2.2.2.2.2.2.2.2.2.1)
    have k_xG2 : xG2 W := by
      rw [hW]
      exact (uxG2 (by decide +kernel) hI.2.2.2.2.2.2.2.2.2.2.2.2.2.2.2.2.1)
    have k_xG3 : xG3 W := by
      rw [hW]
      exact (uxG3 (by decide +kernel) hI.2.2.2.2.2.2.2.2.2.2.2.2.2.2.2.2.2.1)
    have k_xG4 : xG4 W := by
      rw [hW]
      exact (uxG4 (by decide +kernel) hI.2.2.2.2.2.2.2.2.2.2.2.2.2.2.2.2.2.2.1)
    have k_xG5 : xG5 W := by
      rw [hW]
      exact (uxG5 (by decide +kernel) hI.2.2.2.2.2.2.2.2.2.2.2.2.2.2.2.2.2.2.2.1)
    have k_xG6 : xG6 W := by
      rw [hW]
      exact (uxG6 (by decide +kernel) hI.2.2.2.2.2.2.2.2.2.2.2.2.2.2.2.2.2.2.2.2.1)
    have k_xS1 : xS1 W := by
      rw [hW]
      exact (uxS1 (by decide +kernel) hI.2.2.2.2.2.2.2.2.2.2.2.2.2.2.2.2.2.2.2.2.2.1)
    have k_xS2 : xS2 W := by
      rw [hW]
      exact (uxS2 (by decide +kernel) hI.2.2.2.2.2.2.2.2.2.2.2.2.2.2.2.2.2.2.2.2.2.2.1)
    have k_xS3 : xS3 W := by
      rw [hW]
      exact (uxS3 (by decide +kernel) hI.2.2.2.2.2.2.2.2.2.2.2.2.2.2.2.2.2.2.2.2.2.2.2.1)
    have k_xS4 : xS4 W := by
      have r : W 4 100 = 2 := by
        have e := m0
        rw [hW, sU_ne (fun z => by omega)]
        omega
      intro h
      rw [r] at h
      omega
    have k_xS5 : xS5 W := by
      have r4_100 : W 4 100 = M 4 100 := by rw [hW, sU_ne (fun z => by omega)]
      have r4_104 : W 4 104 = M 4 104 := by rw [hW, sU_ne (fun z => by omega)]
      have r4_105 : W 4 105 = 5 * ρ 0 + 0 := by rw [hW, sU_at]
      have r4_106 : W 4 106 = M 4 106 := by rw [hW, sU_ne (fun z => by omega)]
      have c3 : ∀ k, W 3 k = M 3 k := fun k => by rw [hW, sU_ne (fun z => by omega)]
      have e3 : W 3 = M 3 := funext c3
      have c94 : ∀ k, W 94 k = M 94 k := fun k => by rw [hW, sU_ne (fun z => by omega)]
      have e94 : W 94 = M 94 := funext c94
      have c100 : ∀ k, W 100 k = M 100 k := fun k => by rw [hW, sU_ne (fun z => by omega)]
      have e100 : W 100 = M 100 := funext c100
      have c104 : ∀ k, W 104 k = M 104 k := fun k => by rw [hW, sU_ne (fun z => by omega)]
      have e104 : W 104 = M 104 := funext c104
      intro h
      obtain ⟨a0, a1, a2⟩ := gx_xS5 hI (by omega)
      rw [r4_104, r4_105, r4_106, e3, e94, e100, e104]
      refine ⟨fun j hj ht => ?_, fun j hj ht => ?_, fun j hj ht => ?_⟩
      · exact a0 j hj (by omega)
      · by_cases hJ : j = 4
        · subst hJ
          show M 100 10 = M 3 74
          omega
        · exact a1 j hj (by (try rw [h0] at ht); omega)
      · exact a2 j hj (by omega)
    have k_xS6 : xS6 W := by
      rw [hW]
      exact (uxS6 (by decide +kernel) hI.2.2.2.2.2.2.2.2.2.2.2.2.2.2.2.2.2.2.2.2.2.2.2.2.2.2.1)
    have k_xS7 : xS7 W := by
      rw [hW]
      exact (uxS7 (by decide +kernel) hI.2.2.2.2.2.2.2.2.2.2.2.2.2.2.2.2.2.2.2.2.2.2.2.2.2.2.2.1)
    have k_xS8 : xS8 W := by
      rw [hW]
      exact (uxS8 (by decide +kernel) hI.2.2.2.2.2.2.2.2.2.2.2.2.2.2.2.2.2.2.2.2.2.2.2.2.2.2.2.2.1)
    have k_xS9 : xS9 W := by
      rw [hW]
      exact (uxS9 (by decide +kernel) hI.2.2.2.2.2.2.2.2.2.2.2.2.2.2.2.2.2.2.2.2.2.2.2.2.2.2.2.2.2.1)
    have k_xSA : xSA W := by
      rw [hW]
      exact (uxSA (by decide +kernel) hI.2.2.2.2.2.2.2.2.2.2.2.2.2.2.2.2.2.2.2.2.2.2.2.2.2.2.2.2.2.2.1)
    have k_xSG : xSG W := by
      rw [hW]
      exact (uxSG (by decide +kernel) hI.2.2.2.2.2.2.2.2.2.2.2.2.2.2.2.2.2.2.2.2.2.2.2.2.2.2.2.2.2.2.2.1)
    have k_xSF : xSF W := by
      rw [hW]
      exact (uxSF (by decide +kernel) hI.2.2.2.2.2.2.2.2.2.2.2.2.2.2.2.2.2.2.2.2.2.2.2.2.2.2.2.2.2.2.2.2.1)
    have k_xSB : xSB W := by
      rw [hW]
      exact (uxSB (by decide +kernel) hI.2.2.2.2.2.2.2.2.2.2.2.2.2.2.2.2.2.2.2.2.2.2.2.2.2.2.2.2.2.2.2.2.2.1)
    have k_xSC : xSC W := by
      rw [hW]
      exact (uxSC (by decide +kernel) hI.2.2.2.2.2.2.2.2.2.2.2.2.2.2.2.2.2.2.2.2.2.2.2.2.2.2.2.2.2.2.2.2.2.2.1)
    have k_xSD : xSD W := by
      rw [hW]
      exact (uxSD (by decide +kernel) hI.2.2.2.2.2.2.2.2.2.2.2.2.2.2.2.2.2.2.2.2.2.2.2.2.2.2.2.2.2.2.2.2.2.2.2.1)
    have k_xSE : xSE W := by
      rw [hW]
      exact (uxSE (by decide +kernel) hI.2.2.2.2.2.2.2.2.2.2.2.2.2.2.2.2.2.2.2.2.2.2.2.2.2.2.2.2.2.2.2.2.2.2.2.2.1)
    have k_xSW : xSW W := by
      rw [hW]
      exact (uxSW (by decide +kernel) hI.2.2.2.2.2.2.2.2.2.2.2.2.2.2.2.2.2.2.2.2.2.2.2.2.2.2.2.2.2.2.2.2.2.2.2.2.2.1)
    have k_xST : xST W := by
      rw [hW]
      exact (uxST (by decide +kernel) hI.2.2.2.2.2.2.2.2.2.2.2.2.2.2.2.2.2.2.2.2.2.2.2.2.2.2.2.2.2.2.2.2.2.2.2.2.2.2.1)
    have k_xSP : xSP W := by
      rw [hW]
      exact (uxSP (by decide +kernel) hI.2.2.2.2.2.2.2.2.2.2.2.2.2.2.2.2.2.2.2.2.2.2.2.2.2.2.2.2.2.2.2.2.2.2.2.2.2.2.2.1)
    have k_xSL : xSL W := by
      rw [hW]
      exact (uxSL (by decide +kernel) hI.2.2.2.2.2.2.2.2.2.2.2.2.2.2.2.2.2.2.2.2.2.2.2.2.2.2.2.2.2.2.2.2.2.2.2.2.2.2.2.2.1)
    have k_xSM : xSM W := by
      rw [hW]
      exact (uxSM (by decide +kernel) hI.2.2.2.2.2.2.2.2.2.2.2.2.2.2.2.2.2.2.2.2.2.2.2.2.2.2.2.2.2.2.2.2.2.2.2.2.2.2.2.2.2.1)
    have k_xSI : xSI W := by
      rw [hW]
      exact (uxSI (by decide +kernel) hI.2.2.2.2.2.2.2.2.2.2.2.2.2.2.2.2.2.2.2.2.2.2.2.2.2.2.2.2.2.2.2.2.2.2.2.2.2.2.2.2.2.2)
    have k_XC : XC W := ⟨k_xS1, k_xS2, k_xS3, k_xS4, k_xS5, k_xS6, k_xS7, k_xS8, k_xS9, k_xSA, k_xSG, k_xSF, k_xSB, k_xSC, k_xSD, k_xSE, k_xSW, k_xST, k_xSP, k_xSL, k_xSM, k_xSI⟩
    have kXB : XB W := ⟨k_xN1, k_xN2, k_xN3, k_xN4, k_xN5, k_xN6, k_xH1, k_xK1, k_xC1, k_xRW, k_xWT, k_xCU, k_xG2, k_xG3, k_xG4, k_xG5, k_xG6, k_XC⟩
    exact ⟨base, k2, k3, kXA, kXB⟩
-- nmTieR100_5
def xr_583 : qRu := (4, [[(-6, 0), (1, 3)]], [(4, 100, [(2, 0)]), (4, 105, [(1, 3)]), (100, 11, [(1, 1)]), (3, 75, [(1, 2)])], [], [], [[(1, 1), (-1, 2)], [(-1, 1), (1, 2)]])
theorem xo_583 : qRok xr_583 := by
  intro ρ M h0 hf hm hI
  have f0 := hf [(-6, 0), (1, 3)] (by decide)
  simp only [qD, h0] at f0
  have m0 : M 4 100 = 2 * ρ 0 + 0 := hm (4, 100, [(2, 0)]) (by decide)
  have m1 : M 4 105 = 1 * ρ 3 + 0 := hm (4, 105, [(1, 3)]) (by decide)
  have m2 : M 100 11 = 1 * ρ 1 + 0 := hm (100, 11, [(1, 1)]) (by decide)
  have m3 : M 3 75 = 1 * ρ 2 + 0 := hm (3, 75, [(1, 2)]) (by decide)
  simp only [h0] at m0
  obtain ⟨a0, a1, a2⟩ := gx_xS5 hI (by omega)
  have t := a1 5 (by omega) (by omega)
  have t : M 100 11 = M 3 75 := t
  refine ⟨ρ, fun _ _ => rfl, fun f h => ?_, ?_⟩
  · have h : f ∈ ([[(1, 1), (-1, 2)], [(-1, 1), (1, 2)]] : List qF) := h
    simp only [List.mem_cons, List.not_mem_nil, or_false] at h
    rcases h with rfl | rfl
    · show 0 ≤ 1 * ρ 1 + (-1 * ρ 2 + 0)
      (try rw [h0]); omega
    · show 0 ≤ -1 * ρ 1 + (1 * ρ 2 + 0)
      (try rw [h0]); omega
  · show sI M
    exact hI
-- nmUpR100_5
def xr_584 : qRu := (3, [[(1, 1), (-1, 2)], [(-1, 1), (1, 2)]], [(4, 100, [(2, 0)]), (4, 105, [(5, 0)]), (100, 11, [(1, 1)]), (3, 75, [(1, 2)])], [], [(4, 105, [(6, 0)])], [])
theorem xo_584 : qRok xr_584 := by
  intro ρ M h0 hf hm hI
  have f0 := hf [(1, 1), (-1, 2)] (by decide)
  have f1 := hf [(-1, 1), (1, 2)] (by decide)
  simp only [qD, h0] at f0 f1
  have m0 : M 4 100 = 2 * ρ 0 + 0 := hm (4, 100, [(2, 0)]) (by decide)
  have m1 : M 4 105 = 5 * ρ 0 + 0 := hm (4, 105, [(5, 0)]) (by decide)
  have m2 : M 100 11 = 1 * ρ 1 + 0 := hm (100, 11, [(1, 1)]) (by decide)
  have m3 : M 3 75 = 1 * ρ 2 + 0 := hm (3, 75, [(1, 2)]) (by decide)
  simp only [h0] at m0 m1
  have qxS5 := hI.2.2.2.2.2.2.2.2.2.2.2.2.2.2.2.2.2.2.2.2.2.2.2.2.2.1
  refine ⟨ρ, fun _ _ => rfl, fun f h => ?_, ?_⟩
  · exact nomatch h
  · show sI (sU M 4 105 (6 * ρ 0 + 0))
    obtain ⟨W, hW⟩ : ∃ W, W = (sU M 4 105 (6 * ρ 0 + 0)) := ⟨_, rfl⟩
    rw [← hW]
    have base : sI0 W := by
      rw [hW]
      exact (si_u0 hI.1 (fun r hr => by cases hr))
    have k2 : XI2 W := by
      rw [hW]
      exact (xi2_u (by decide +kernel) hI.2.1)
    have k3 : XI3 W := by
      rw [hW]
      exact (xi3_u (by decide +kernel) hI.2.2.1)
    have kXA : XA W := by
      rw [hW]
      exact (uXA (by decide +kernel) hI.2.2.2.1)
    have k_xN1 : xN1 W := by
      rw [hW]
      exact (uxN1 (by decide +kernel) hI.2.2.2.2.1)
    have k_xN2 : xN2 W := by
      rw [hW]
      exact (uxN2 (by decide +kernel) hI.2.2.2.2.2.1)
    have k_xN3 : xN3 W := by
      rw [hW]
      exact (uxN3 (by decide +kernel) hI.2.2.2.2.2.2.1)
    have k_xN4 : xN4 W := by
      rw [hW]
      exact (uxN4 (by decide +kernel) hI.2.2.2.2.2.2.2.1)
    have k_xN5 : xN5 W := by
      rw [hW]
      exact (uxN5 (by decide +kernel) hI.2.2.2.2.2.2.2.2.1)
    have k_xN6 : xN6 W := by
      rw [hW]
      exact (uxN6 (by decide +kernel) hI.2.2.2.2.2.2.2.2.2.1)
    have k_xH1 : xH1 W := by
      rw [hW]
      exact (uxH1 (by decide +kernel) hI.2.2.2.2.2.2.2.2.2.2.1)
    have k_xK1 : xK1 W := by
      rw [hW]
      exact (uxK1 (by decide +kernel) hI.2.2.2.2.2.2.2.2.2.2.2.1)
    have k_xC1 : xC1 W := by
      rw [hW]
      exact (uxC1 (by decide +kernel) hI.2.2.2.2.2.2.2.2.2.2.2.2.1)
    have k_xRW : xRW W := by
      rw [hW]
      exact (uxRW (by decide +kernel) hI.2.2.2.2.2.2.2.2.2.2.2.2.2.1)
    have k_xWT : xWT W := by
      rw [hW]
      exact (uxWT (by decide +kernel) hI.2.2.2.2.2.2.2.2.2.2.2.2.2.2.1)
    have k_xCU : xCU W := by
      rw [hW]
      exact (uxCU (by decide +kernel) hI.2.2.2.2.2.2.2.2.2.2.2.2.2.2.2.1)
    have k_xG2 : xG2 W := by
      rw [hW]
      exact (uxG2 (by decide +kernel) hI.2.2.2.2.2.2.2.2.2.2.2.2.2.2.2.2.1)
    have k_xG3 : xG3 W := by
      rw [hW]
      exact (uxG3 (by decide +kernel) hI.2.2.2.2.2.2.2.2.2.2.2.2.2.2.2.2.2.1)
    have k_xG4 : xG4 W := by
      rw [hW]
      exact (uxG4 (by decide +kernel) hI.2.2.2.2.2.2.2.2.2.2.2.2.2.2.2.2.2.2.1)
    have k_xG5 : xG5 W := by
      rw [hW]
      exact (uxG5 (by decide +kernel) hI.2.2.2.2.2.2.2.2.2.2.2.2.2.2.2.2.2.2.2.1)
    have k_xG6 : xG6 W := by
      rw [hW]
      exact (uxG6 (by decide +kernel) hI.2.2.2.2.2.2.2.2.2.2.2.2.2.2.2.2.2.2.2.2.1)
    have k_xS1 : xS1 W := by
      rw [hW]
      exact (uxS1 (by decide +kernel) hI.2.2.2.2.2.2.2.2.2.2.2.2.2.2.2.2.2.2.2.2.2.1)
    have k_xS2 : xS2 W := by
      rw [hW]
      exact (uxS2 (by decide +kernel) hI.2.2.2.2.2.2.2.2.2.2.2.2.2.2.2.2.2.2.2.2.2.2.1)
    have k_xS3 : xS3 W := by
      rw [hW]
      exact (uxS3 (by decide +kernel) hI.2.2.2.2.2.2.2.2.2.2.2.2.2.2.2.2.2.2.2.2.2.2.2.1)
    have k_xS4 : xS4 W := by
      have r : W 4 100 = 2 := by
        have e := m0
        rw [hW, sU_ne (fun z => by omega)]
        omega
      intro h
      rw [r] at h
      omega
    have k_xS5 : xS5 W := by
      have r4_100 : W 4 100 = M 4 100 := by rw [hW, sU_ne (fun z => by omega)]
      have r4_104 : W 4 104 = M 4 104 := by rw [hW, sU_ne (fun z => by omega)]
      have r4_105 : W 4 105 = 6 * ρ 0 + 0 := by rw [hW, sU_at]
      have r4_106 : W 4 106 = M 4 106 := by rw [hW, sU_ne (fun z => by omega)]
      have c3 : ∀ k, W 3 k = M 3 k := fun k => by rw [hW, sU_ne (fun z => by omega)]
      have e3 : W 3 = M 3 := funext c3
      have c94 : ∀ k, W 94 k = M 94 k := fun k => by rw [hW, sU_ne (fun z => by omega)]
      have e94 : W 94 = M 94 := funext c94
      have c100 : ∀ k, W 100 k = M 100 k := fun k => by rw [hW, sU_ne (fun z => by omega)]
      have e100 : W 100 = M 100 := funext c100
      have c104 : ∀ k, W 104 k = M 104 k := fun k => by rw [hW, sU_ne (fun z => by omega)]
      have e104 : W 104 = M 104 := funext c104
      intro h
      obtain ⟨a0, a1, a2⟩ := gx_xS5 hI (by omega)
      rw [r4_104, r4_105, r4_106, e3, e94, e100, e104]
      refine ⟨fun j hj ht => ?_, fun j hj ht => ?_, fun j hj ht => ?_⟩
      · exact a0 j hj (by omega)
      · by_cases hJ : j = 5
        · subst hJ
          show M 100 11 = M 3 75
          omega
        · exact a1 j hj (by (try rw [h0] at ht); omega)
      · exact a2 j hj (by omega)
    have k_xS6 : xS6 W := by
      rw [hW]
      exact (uxS6 (by decide +kernel) hI.2.2.2.2.2.2.2.2.2.2.2.2.2.2.2.2.2.2.2.2.2.2.2.2.2.2.1)
    have k_xS7 : xS7 W := by
      rw [hW]
      exact (uxS7 (by decide +kernel) hI.2.2.2.2.2.2.2.2.2.2.2.2.2.2.2.2.2.2.2.2.2.2.2.2.2.2.2.1)
    have k_xS8 : xS8 W := by
      rw [hW]
      exact (uxS8 (by decide +kernel) hI.2.2.2.2.2.2.2.2.2.2.2.2.2.2.2.2.2.2.2.2.2.2.2.2.2.2.2.2.1)
    have k_xS9 : xS9 W := by
      rw [hW]
      exact (uxS9 (by decide +kernel) hI.2.2.2.2.2.2.2.2.2.2.2.2.2.2.2.2.2.2.2.2.2.2.2.2.2.2.2.2.2.1)
    have k_xSA : xSA W := by
      rw [hW]
      exact (uxSA (by decide +kernel) hI.2.2.2.2.2.2.2.2.2.2.2.2.2.2.2.2.2.2.2.2.2.2.2.2.2.2.2.2.2.2.1)
    have k_xSG : xSG W := by
      rw [hW]
      exact (uxSG (by decide +kernel) hI.2.2.2.2.2.2.2.2.2.2.2.2.2.2.2.2.2.2.2.2.2.2.2.2.2.2.2.2.2.2.2.1)
    have k_xSF : xSF W := by
      rw [hW]
      exact (uxSF (by decide +kernel) hI.2.2.2.2.2.2.2.2.2.2.2.2.2.2.2.2.2.2.2.2.2.2.2.2.2.2.2.2.2.2.2.2.1)
    have k_xSB : xSB W := by
      rw [hW]
      exact (uxSB (by decide +kernel) hI.2.2.2.2.2.2.2.2.2.2.2.2.2.2.2.2.2.2.2.2.2.2.2.2.2.2.2.2.2.2.2.2.2.1)
    have k_xSC : xSC W := by
      rw [hW]
      exact (uxSC (by decide +kernel) hI.2.2.2.2.2.2.2.2.2.2.2.2.2.2.2.2.2.2.2.2.2.2.2.2.2.2.2.2.2.2.2.2.2.2.1)
    have k_xSD : xSD W := by
      rw [hW]
      exact (uxSD (by decide +kernel) hI.2.2.2.2.2.2.2.2.2.2.2.2.2.2.2.2.2.2.2.2.2.2.2.2.2.2.2.2.2.2.2.2.2.2.2.1)
    have k_xSE : xSE W := by
      rw [hW]
      exact (uxSE (by decide +kernel) hI.2.2.2.2.2.2.2.2.2.2.2.2.2.2.2.2.2.2.2.2.2.2.2.2.2.2.2.2.2.2.2.2.2.2.2.2.1)
    have k_xSW : xSW W := by
      rw [hW]
      exact (uxSW (by decide +kernel) hI.2.2.2.2.2.2.2.2.2.2.2.2.2.2.2.2.2.2.2.2.2.2.2.2.2.2.2.2.2.2.2.2.2.2.2.2.2.1)
    have k_xST : xST W := by
      rw [hW]
      exact (uxST (by decide +kernel) hI.2.2.2.2.2.2.2.2.2.2.2.2.2.2.2.2.2.2.2.2.2.2.2.2.2.2.2.2.2.2.2.2.2.2.2.2.2.2.1)
    have k_xSP : xSP W := by
      rw [hW]
      exact (uxSP (by decide +kernel) hI.2.2.2.2.2.2.2.2.2.2.2.2.2.2.2.2.2.2.2.2.2.2.2.2.2.2.2.2.2.2.2.2.2.2.2.2.2.2.2.1)
    have k_xSL : xSL W := by
      rw [hW]
      exact (uxSL (by decide +kernel) hI.2.2.2.2.2.2.2.2.2.2.2.2.2.2.2.2.2.2.2.2.2.2.2.2.2.2.2.2.2.2.2.2.2.2.2.2.2.2.2.2.1)
    have k_xSM : xSM W := by
      rw [hW]
      exact (uxSM (by decide +kernel) hI.2.2.2.2.2.2.2.2.2.2.2.2.2.2.2.2.2.2.2.2.2.2.2.2.2.2.2.2.2.2.2.2.2.2.2.2.2.2.2.2.2.1)
    have k_xSI : xSI W := by
      rw [hW]
      exact (uxSI (by decide +kernel) hI.2.2.2.2.2.2.2.2.2.2.2.2.2.2.2.2.2.2.2.2.2.2.2.2.2.2.2.2.2.2.2.2.2.2.2.2.2.2.2.2.2.2)
    have k_XC : XC W := ⟨k_xS1, k_xS2, k_xS3, k_xS4, k_xS5, k_xS6, k_xS7, k_xS8, k_xS9, k_xSA, k_xSG, k_xSF, k_xSB, k_xSC, k_xSD, k_xSE, k_xSW, k_xST, k_xSP, k_xSL, k_xSM, k_xSI⟩
    have kXB : XB W := ⟨k_xN1, k_xN2, k_xN3, k_xN4, k_xN5, k_xN6, k_xH1, k_xK1, k_xC1, k_xRW, k_xWT, k_xCU, k_xG2, k_xG3, k_xG4, k_xG5, k_xG6, k_XC⟩
    exact ⟨base, k2, k3, kXA, kXB⟩
-- nmWR100
def xr_585 : qRu := (4, [[(-6, 0), (1, 1), (-1, 3)], [(11, 0), (-1, 1)], [(1, 3)], [(2147483648, 0), (1, 2)], [(2147483647, 0), (-1, 2)]], [(4, 105, [(1, 3)])], [(100, [(1, 1)], [(1, 2)])], [], [])
theorem xo_585 : qRok xr_585 := by
  intro ρ M h0 hf hm hI
  have f0 := hf [(-6, 0), (1, 1), (-1, 3)] (by decide)
  have f1 := hf [(11, 0), (-1, 1)] (by decide)
  have f2 := hf [(1, 3)] (by decide)
  have f3 := hf [(2147483648, 0), (1, 2)] (by decide)
  have f4 := hf [(2147483647, 0), (-1, 2)] (by decide)
  simp only [qD, h0] at f0 f1 f2 f3 f4
  have m0 : M 4 105 = 1 * ρ 3 + 0 := hm (4, 105, [(1, 3)]) (by decide)
  have qxS5 := hI.2.2.2.2.2.2.2.2.2.2.2.2.2.2.2.2.2.2.2.2.2.2.2.2.2.1
  refine ⟨ρ, fun _ _ => rfl, fun f h => ?_, ?_⟩
  · exact nomatch h
  · show sI (sU M 100 (1 * ρ 1 + 0 : Int).toNat (1 * ρ 2 + 0))
    obtain ⟨W, hW⟩ : ∃ W, W = (sU M 100 (1 * ρ 1 + 0).toNat (1 * ρ 2 + 0)) := ⟨_, rfl⟩
    rw [← hW]
    have base : sI0 W := by
      rw [hW]
      exact (si_u0 hI.1 (fun r hr => by rw [xt_100 hr]; exact ⟨by show (-2147483648 : Int) ≤ _; omega, by show _ ≤ (2147483647 : Int); omega⟩))
    have k2 : XI2 W := by
      rw [hW]
      exact (xi2_u (sinc_ok (by decide +kernel) _) hI.2.1)
    have k3 : XI3 W := by
      rw [hW]
      exact (xi3_u (sinc_ok (by decide +kernel) _) hI.2.2.1)
    have kXA : XA W := by
      rw [hW]
      exact (uXA (sinc_ok (by decide +kernel) _) hI.2.2.2.1)
    have k_xN1 : xN1 W := by
      rw [hW]
      exact (uxN1 (sinc_ok (by decide +kernel) _) hI.2.2.2.2.1)
    have k_xN2 : xN2 W := by
      rw [hW]
      exact (uxN2 (sinc_ok (by decide +kernel) _) hI.2.2.2.2.2.1)
    have k_xN3 : xN3 W := by
      rw [hW]
      exact (uxN3 (sinc_ok (by decide +kernel) _) hI.2.2.2.2.2.2.1)
    have k_xN4 : xN4 W := by
      rw [hW]
      exact (uxN4 (sinc_ok (by decide +kernel) _) hI.2.2.2.2.2.2.2.1)
    have k_xN5 : xN5 W := by
      rw [hW]
      exact (uxN5 (sinc_ok (by decide +kernel) _) hI.2.2.2.2.2.2.2.2.1)
    have k_xN6 : xN6 W := by
      rw [hW]
      exact (uxN6 (sinc_ok (by decide +kernel) _) hI.2.2.2.2.2.2.2.2.2.1)
    have k_xH1 : xH1 W := by
      rw [hW]
      exact (uxH1 (sinc_ok (by decide +kernel) _) hI.2.2.2.2.2.2.2.2.2.2.1)
    have k_xK1 : xK1 W := by
      rw [hW]
      exact (uxK1 (sinc_ok (by decide +kernel) _) hI.2.2.2.2.2.2.2.2.2.2.2.1)
    have k_xC1 : xC1 W := by
      rw [hW]
      exact (uxC1 (sinc_ok (by decide +kernel) _) hI.2.2.2.2.2.2.2.2.2.2.2.2.1)
    have k_xRW : xRW W := by
      rw [hW]
      exact (uxRW (sinc_ok (by decide +kernel) _) hI.2.2.2.2.2.2.2.2.2.2.2.2.2.1)
    have k_xWT : xWT W := by
      rw [hW]
      exact (uxWT (sinc_ok (by decide +kernel) _) hI.2.2.2.2.2.2.2.2.2.2.2.2.2.2.1)
    have k_xCU : xCU W := by
      rw [hW]
      exact (uxCU (sinc_ok (by decide +kernel) _) hI.2.2.2.2.2.2.2.2.2.2.2.2.2.2.2.1)
    have k_xG2 : xG2 W := by
      rw [hW]
      exact (uxG2 (sinc_ok (by decide +kernel) _) hI.2.2.2.2.2.2.2.2.2.2.2.2.2.2.2.2.1)
    have k_xG3 : xG3 W := by
      rw [hW]
      exact (uxG3 (sinc_ok (by decide +kernel) _) hI.2.2.2.2.2.2.2.2.2.2.2.2.2.2.2.2.2.1)
    have k_xG4 : xG4 W := by
      rw [hW]
      exact (uxG4 (sinc_ok (by decide +kernel) _) hI.2.2.2.2.2.2.2.2.2.2.2.2.2.2.2.2.2.2.1)
    have k_xG5 : xG5 W := by
      rw [hW]
      exact (uxG5 (sinc_ok (by decide +kernel) _) hI.2.2.2.2.2.2.2.2.2.2.2.2.2.2.2.2.2.2.2.1)
    have k_xG6 : xG6 W := by
      rw [hW]
      exact (uxG6 (sinc_ok (by decide +kernel) _) hI.2.2.2.2.2.2.2.2.2.2.2.2.2.2.2.2.2.2.2.2.1)
    have k_xS1 : xS1 W := by
      rw [hW]
      exact (uxS1 (sinc_ok (by decide +kernel) _) hI.2.2.2.2.2.2.2.2.2.2.2.2.2.2.2.2.2.2.2.2.2.1)
    have k_xS2 : xS2 W := by
      rw [hW]
      exact (uxS2 (sinc_ok (by decide +kernel) _) hI.2.2.2.2.2.2.2.2.2.2.2.2.2.2.2.2.2.2.2.2.2.2.1)
    have k_xS3 : xS3 W := by
      rw [hW]
      exact (uxS3 (sinc_ok (by decide +kernel) _) hI.2.2.2.2.2.2.2.2.2.2.2.2.2.2.2.2.2.2.2.2.2.2.2.1)
    have k_xS4 : xS4 W := by
      rw [hW]
      exact (uxS4 (sinc_ok (by decide +kernel) _) hI.2.2.2.2.2.2.2.2.2.2.2.2.2.2.2.2.2.2.2.2.2.2.2.2.1)
    have k_xS5 : xS5 W := by
      have r4_100 : W 4 100 = M 4 100 := by rw [hW, sU_ne (fun z => by omega)]
      have r4_104 : W 4 104 = M 4 104 := by rw [hW, sU_ne (fun z => by omega)]
      have r4_105 : W 4 105 = M 4 105 := by rw [hW, sU_ne (fun z => by omega)]
      have r4_106 : W 4 106 = M 4 106 := by rw [hW, sU_ne (fun z => by omega)]
      have c3 : ∀ k, W 3 k = M 3 k := fun k => by rw [hW, sU_ne (fun z => by omega)]
      have e3 : W 3 = M 3 := funext c3
      have c94 : ∀ k, W 94 k = M 94 k := fun k => by rw [hW, sU_ne (fun z => by omega)]
      have e94 : W 94 = M 94 := funext c94
      have c100 : ∀ k : Nat, k ≠ (1 * ρ 1 + 0).toNat → W 100 k = M 100 k := fun k hk => by rw [hW, sU_ne (fun z => by omega)]
      have a100 : W 100 (1 * ρ 1 + 0).toNat = 1 * ρ 2 + 0 := by rw [hW, sU_at]
      have c104 : ∀ k, W 104 k = M 104 k := fun k => by rw [hW, sU_ne (fun z => by omega)]
      have e104 : W 104 = M 104 := funext c104
      intro h
      rw [r4_100] at h
      obtain ⟨a0, a1, a2⟩ := gx_xS5 hI h
      rw [r4_104, r4_105, r4_106, e3]
      refine ⟨fun j hj ht => ?_, fun j hj ht => ?_, fun j hj ht => ?_⟩
      · rw [e94]
        exact a0 j hj (by omega)
      · rw [c100 _ (by omega)]
        exact a1 j hj (by omega)
      · rw [e104]
        exact a2 j hj (by omega)
    have k_xS6 : xS6 W := by
      rw [hW]
      exact (uxS6 (sinc_ok (by decide +kernel) _) hI.2.2.2.2.2.2.2.2.2.2.2.2.2.2.2.2.2.2.2.2.2.2.2.2.2.2.1)
    have k_xS7 : xS7 W := by
      rw [hW]
      exact (uxS7 (sinc_ok (by decide +kernel) _) hI.2.2.2.2.2.2.2.2.2.2.2.2.2.2.2.2.2.2.2.2.2.2.2.2.2.2.2.1)
    have k_xS8 : xS8 W := by
      rw [hW]
      exact (uxS8 (sinc_ok (by decide +kernel) _) hI.2.2.2.2.2.2.2.2.2.2.2.2.2.2.2.2.2.2.2.2.2.2.2.2.2.2.2.2.1)
    have k_xS9 : xS9 W := by
      rw [hW]
      exact (uxS9 (sinc_ok (by decide +kernel) _) hI.2.2.2.2.2.2.2.2.2.2.2.2.2.2.2.2.2.2.2.2.2.2.2.2.2.2.2.2.2.1)
    have k_xSA : xSA W := by
      rw [hW]
      exact (uxSA (sinc_ok (by decide +kernel) _) hI.2.2.2.2.2.2.2.2.2.2.2.2.2.2.2.2.2.2.2.2.2.2.2.2.2.2.2.2.2.2.1)
    have k_xSG : xSG W := by
      rw [hW]
      exact (uxSG (sinc_ok (by decide +kernel) _) hI.2.2.2.2.2.2.2.2.2.2.2.2.2.2.2.2.2.2.2.2.2.2.2.2.2.2.2.2.2.2.2.1)
    have k_xSF : xSF W := by
      rw [hW]
      exact (uxSF (sinc_ok (by decide +kernel) _) hI.2.2.2.2.2.2.2.2.2.2.2.2.2.2.2.2.2.2.2.2.2.2.2.2.2.2.2.2.2.2.2.2.1)
    have k_xSB : xSB W := by
      rw [hW]
      exact (uxSB (sinc_ok (by decide +kernel) _) hI.2.2.2.2.2.2.2.2.2.2.2.2.2.2.2.2.2.2.2.2.2.2.2.2.2.2.2.2.2.2.2.2.2.1)
    have k_xSC : xSC W := by
      rw [hW]
      exact (uxSC (sinc_ok (by decide +kernel) _) hI.2.2.2.2.2.2.2.2.2.2.2.2.2.2.2.2.2.2.2.2.2.2.2.2.2.2.2.2.2.2.2.2.2.2.1)
    have k_xSD : xSD W := by
      rw [hW]
      exact (uxSD (sinc_ok (by decide +kernel) _) hI.2.2.2.2.2.2.2.2.2.2.2.2.2.2.2.2.2.2.2.2.2.2.2.2.2.2.2.2.2.2.2.2.2.2.2.1)
    have k_xSE : xSE W := by
      rw [hW]
      exact (uxSE (sinc_ok (by decide +kernel) _) hI.2.2.2.2.2.2.2.2.2.2.2.2.2.2.2.2.2.2.2.2.2.2.2.2.2.2.2.2.2.2.2.2.2.2.2.2.1)
    have k_xSW : xSW W := by
      rw [hW]
      exact (uxSW (sinc_ok (by decide +kernel) _) hI.2.2.2.2.2.2.2.2.2.2.2.2.2.2.2.2.2.2.2.2.2.2.2.2.2.2.2.2.2.2.2.2.2.2.2.2.2.1)
    have k_xST : xST W := by
      rw [hW]
      exact (uxST (sinc_ok (by decide +kernel) _) hI.2.2.2.2.2.2.2.2.2.2.2.2.2.2.2.2.2.2.2.2.2.2.2.2.2.2.2.2.2.2.2.2.2.2.2.2.2.2.1)
    have k_xSP : xSP W := by
      rw [hW]
      exact (uxSP (sinc_ok (by decide +kernel) _) hI.2.2.2.2.2.2.2.2.2.2.2.2.2.2.2.2.2.2.2.2.2.2.2.2.2.2.2.2.2.2.2.2.2.2.2.2.2.2.2.1)
    have k_xSL : xSL W := by
      rw [hW]
      exact (uxSL (sinc_ok (by decide +kernel) _) hI.2.2.2.2.2.2.2.2.2.2.2.2.2.2.2.2.2.2.2.2.2.2.2.2.2.2.2.2.2.2.2.2.2.2.2.2.2.2.2.2.1)
    have k_xSM : xSM W := by
      rw [hW]
      exact (uxSM (sinc_ok (by decide +kernel) _) hI.2.2.2.2.2.2.2.2.2.2.2.2.2.2.2.2.2.2.2.2.2.2.2.2.2.2.2.2.2.2.2.2.2.2.2.2.2.2.2.2.2.1)
    have k_xSI : xSI W := by
      rw [hW]
      exact (uxSI (sinc_ok (by decide +kernel) _) hI.2.2.2.2.2.2.2.2.2.2.2.2.2.2.2.2.2.2.2.2.2.2.2.2.2.2.2.2.2.2.2.2.2.2.2.2.2.2.2.2.2.2)
    have k_XC : XC W := ⟨k_xS1, k_xS2, k_xS3, k_xS4, k_xS5, k_xS6, k_xS7, k_xS8, k_xS9, k_xSA, k_xSG, k_xSF, k_xSB, k_xSC, k_xSD, k_xSE, k_xSW, k_xST, k_xSP, k_xSL, k_xSM, k_xSI⟩
    have kXB : XB W := ⟨k_xN1, k_xN2, k_xN3, k_xN4, k_xN5, k_xN6, k_xH1, k_xK1, k_xC1, k_xRW, k_xWT, k_xCU, k_xG2, k_xG3, k_xG4, k_xG5, k_xG6, k_XC⟩
    exact ⟨base, k2, k3, kXA, kXB⟩
-- nmLR100
def xr_586 : qRu := (3, [[(1, 1)], [(5, 0), (-1, 1)], [(2147483648, 0), (1, 2)], [(2147483647, 0), (-1, 2)]], [], [(100, [(1, 1)], [(1, 2)])], [], [])
theorem xo_586 : qRok xr_586 := by
  intro ρ M h0 hf hm hI
  have f0 := hf [(1, 1)] (by decide)
  have f1 := hf [(5, 0), (-1, 1)] (by decide)
  have f2 := hf [(2147483648, 0), (1, 2)] (by decide)
  have f3 := hf [(2147483647, 0), (-1, 2)] (by decide)
  simp only [qD, h0] at f0 f1 f2 f3
  have qxS5 := hI.2.2.2.2.2.2.2.2.2.2.2.2.2.2.2.2.2.2.2.2.2.2.2.2.2.1
  refine ⟨ρ, fun _ _ => rfl, fun f h => ?_, ?_⟩
  · exact nomatch h
  · show sI (sU M 100 (1 * ρ 1 + 0 : Int).toNat (1 * ρ 2 + 0))
    obtain ⟨W, hW⟩ : ∃ W, W = (sU M 100 (1 * ρ 1 + 0).toNat (1 * ρ 2 + 0)) := ⟨_, rfl⟩
    rw [← hW]
    have base : sI0 W := by
      rw [hW]
      exact (si_u0 hI.1 (fun r hr => by rw [xt_100 hr]; exact ⟨by show (-2147483648 : Int) ≤ _; omega, by show _ ≤ (2147483647 : Int); omega⟩))
    have k2 : XI2 W := by
      rw [hW]
      exact (xi2_u (sinc_ok (by decide +kernel) _) hI.2.1)
    have k3 : XI3 W := by
      rw [hW]
      exact (xi3_u (sinc_ok (by decide +kernel) _) hI.2.2.1)
    have kXA : XA W := by
      rw [hW]
      exact (uXA (sinc_ok (by decide +kernel) _) hI.2.2.2.1)
    have k_xN1 : xN1 W := by
      rw [hW]
      exact (uxN1 (sinc_ok (by decide +kernel) _) hI.2.2.2.2.1)
    have k_xN2 : xN2 W := by
      rw [hW]
      exact (uxN2 (sinc_ok (by decide +kernel) _) hI.2.2.2.2.2.1)
    have k_xN3 : xN3 W := by
      rw [hW]
      exact (uxN3 (sinc_ok (by decide +kernel) _) hI.2.2.2.2.2.2.1)
    have k_xN4 : xN4 W := by
      rw [hW]
      exact (uxN4 (sinc_ok (by decide +kernel) _) hI.2.2.2.2.2.2.2.1)
    have k_xN5 : xN5 W := by
      rw [hW]
      exact (uxN5 (sinc_ok (by decide +kernel) _) hI.2.2.2.2.2.2.2.2.1)
    have k_xN6 : xN6 W := by
      rw [hW]
      exact (uxN6 (sinc_ok (by decide +kernel) _) hI.2.2.2.2.2.2.2.2.2.1)
    have k_xH1 : xH1 W := by
      rw [hW]
      exact (uxH1 (sinc_ok (by decide +kernel) _) hI.2.2.2.2.2.2.2.2.2.2.1)
    have k_xK1 : xK1 W := by
      rw [hW]
      exact (uxK1 (sinc_ok (by decide +kernel) _) hI.2.2.2.2.2.2.2.2.2.2.2.1)
    have k_xC1 : xC1 W := by
      rw [hW]
      exact (uxC1 (sinc_ok (by decide +kernel) _) hI.2.2.2.2.2.2.2.2.2.2.2.2.1)
    have k_xRW : xRW W := by
      rw [hW]
      exact (uxRW (sinc_ok (by decide +kernel) _) hI.2.2.2.2.2.2.2.2.2.2.2.2.2.1)
    have k_xWT : xWT W := by
      rw [hW]
      exact (uxWT (sinc_ok (by decide +kernel) _) hI.2.2.2.2.2.2.2.2.2.2.2.2.2.2.1)
    have k_xCU : xCU W := by
      rw [hW]
      exact (uxCU (sinc_ok (by decide +kernel) _) hI.2.2.2.2.2.2.2.2.2.2.2.2.2.2.2.1)
    have k_xG2 : xG2 W := by
      rw [hW]
      exact (uxG2 (sinc_ok (by decide +kernel) _) hI.2.2.2.2.2.2.2.2.2.2.2.2.2.2.2.2.1)
    have k_xG3 : xG3 W := by
      rw [hW]
      exact (uxG3 (sinc_ok (by decide +kernel) _) hI.2.2.2.2.2.2.2.2.2.2.2.2.2.2.2.2.2.1)
    have k_xG4 : xG4 W := by
      rw [hW]
      exact (uxG4 (sinc_ok (by decide +kernel) _) hI.2.2.2.2.2.2.2.2.2.2.2.2.2.2.2.2.2.2.1)
    have k_xG5 : xG5 W := by
      rw [hW]
      exact (uxG5 (sinc_ok (by decide +kernel) _) hI.2.2.2.2.2.2.2.2.2.2.2.2.2.2.2.2.2.2.2.1)
    have k_xG6 : xG6 W := by
      rw [hW]
      exact (uxG6 (sinc_ok (by decide +kernel) _) hI.2.2.2.2.2.2.2.2.2.2.2.2.2.2.2.2.2.2.2.2.1)
    have k_xS1 : xS1 W := by
      rw [hW]
      exact (uxS1 (sinc_ok (by decide +kernel) _) hI.2.2.2.2.2.2.2.2.2.2.2.2.2.2.2.2.2.2.2.2.2.1)
    have k_xS2 : xS2 W := by
      rw [hW]
      exact (uxS2 (sinc_ok (by decide +kernel) _) hI.2.2.2.2.2.2.2.2.2.2.2.2.2.2.2.2.2.2.2.2.2.2.1)
    have k_xS3 : xS3 W := by
      rw [hW]
      exact (uxS3 (sinc_ok (by decide +kernel) _) hI.2.2.2.2.2.2.2.2.2.2.2.2.2.2.2.2.2.2.2.2.2.2.2.1)
    have k_xS4 : xS4 W := by
      rw [hW]
      exact (uxS4 (sinc_ok (by decide +kernel) _) hI.2.2.2.2.2.2.2.2.2.2.2.2.2.2.2.2.2.2.2.2.2.2.2.2.1)
    have k_xS5 : xS5 W := by
      have r4_100 : W 4 100 = M 4 100 := by rw [hW, sU_ne (fun z => by omega)]
      have r4_104 : W 4 104 = M 4 104 := by rw [hW, sU_ne (fun z => by omega)]
      have r4_105 : W 4 105 = M 4 105 := by rw [hW, sU_ne (fun z => by omega)]
      have r4_106 : W 4 106 = M 4 106 := by rw [hW, sU_ne (fun z => by omega)]
      have c3 : ∀ k, W 3 k = M 3 k := fun k => by rw [hW, sU_ne (fun z => by omega)]
      have e3 : W 3 = M 3 := funext c3
      have c94 : ∀ k, W 94 k = M 94 k := fun k => by rw [hW, sU_ne (fun z => by omega)]
      have e94 : W 94 = M 94 := funext c94
      have c100 : ∀ k : Nat, k ≠ (1 * ρ 1 + 0).toNat → W 100 k = M 100 k := fun k hk => by rw [hW, sU_ne (fun z => by omega)]
      have a100 : W 100 (1 * ρ 1 + 0).toNat = 1 * ρ 2 + 0 := by rw [hW, sU_at]
      have c104 : ∀ k, W 104 k = M 104 k := fun k => by rw [hW, sU_ne (fun z => by omega)]
      have e104 : W 104 = M 104 := funext c104
      intro h
      rw [r4_100] at h
      obtain ⟨a0, a1, a2⟩ := gx_xS5 hI h
      rw [r4_104, r4_105, r4_106, e3]
      refine ⟨fun j hj ht => ?_, fun j hj ht => ?_, fun j hj ht => ?_⟩
      · rw [e94]
        exact a0 j hj (by omega)
      · rw [c100 _ (by omega)]
        exact a1 j hj (by omega)
      · rw [e104]
        exact a2 j hj (by omega)
    have k_xS6 : xS6 W := by
      rw [hW]
      exact (uxS6 (sinc_ok (by decide +kernel) _) hI.2.2.2.2.2.2.2.2.2.2.2.2.2.2.2.2.2.2.2.2.2.2.2.2.2.2.1)
    have k_xS7 : xS7 W := by
      rw [hW]
      exact (uxS7 (sinc_ok (by decide +kernel) _) hI.2.2.2.2.2.2.2.2.2.2.2.2.2.2.2.2.2.2.2.2.2.2.2.2.2.2.2.1)
    have k_xS8 : xS8 W := by
      rw [hW]
      exact (uxS8 (sinc_ok (by decide +kernel) _) hI.2.2.2.2.2.2.2.2.2.2.2.2.2.2.2.2.2.2.2.2.2.2.2.2.2.2.2.2.1)
    have k_xS9 : xS9 W := by
      rw [hW]
      exact (uxS9 (sinc_ok (by decide +kernel) _) hI.2.2.2.2.2.2.2.2.2.2.2.2.2.2.2.2.2.2.2.2.2.2.2.2.2.2.2.2.2.1)
    have k_xSA : xSA W := by
      rw [hW]
      exact (uxSA (sinc_ok (by decide +kernel) _) hI.2.2.2.2.2.2.2.2.2.2.2.2.2.2.2.2.2.2.2.2.2.2.2.2.2.2.2.2.2.2.1)
    have k_xSG : xSG W := by
      rw [hW]
      exact (uxSG (sinc_ok (by decide +kernel) _) hI.2.2.2.2.2.2.2.2.2.2.2.2.2.2.2.2.2.2.2.2.2.2.2.2.2.2.2.2.2.2.2.1)
    have k_xSF : xSF W := by
      rw [hW]
      exact (uxSF (sinc_ok (by decide +kernel) _) hI.2.2.2.2.2.2.2.2.2.2.2.2.2.2.2.2.2.2.2.2.2.2.2.2.2.2.2.2.2.2.2.2.1)
    have k_xSB : xSB W := by
      rw [hW]
      exact (uxSB (sinc_ok (by decide +kernel) _) hI.2.2.2.2.2.2.2.2.2.2.2.2.2.2.2.2.2.2.2.2.2.2.2.2.2.2.2.2.2.2.2.2.2.1)
    have k_xSC : xSC W := by
      rw [hW]
      exact (uxSC (sinc_ok (by decide +kernel) _) hI.2.2.2.2.2.2.2.2.2.2.2.2.2.2.2.2.2.2.2.2.2.2.2.2.2.2.2.2.2.2.2.2.2.2.1)
    have k_xSD : xSD W := by
      rw [hW]
      exact (uxSD (sinc_ok (by decide +kernel) _) hI.2.2.2.2.2.2.2.2.2.2.2.2.2.2.2.2.2.2.2.2.2.2.2.2.2.2.2.2.2.2.2.2.2.2.2.1)
    have k_xSE : xSE W := by
      rw [hW]
      exact (uxSE (sinc_ok (by decide +kernel) _) hI.2.2.2.2.2.2.2.2.2.2.2.2.2.2.2.2.2.2.2.2.2.2.2.2.2.2.2.2.2.2.2.2.2.2.2.2.1)
    have k_xSW : xSW W := by
      rw [hW]
      exact (uxSW (sinc_ok (by decide +kernel) _) hI.2.2.2.2.2.2.2.2.2.2.2.2.2.2.2.2.2.2.2.2.2.2.2.2.2.2.2.2.2.2.2.2.2.2.2.2.2.1)
    have k_xST : xST W := by
      rw [hW]
      exact (uxST (sinc_ok (by decide +kernel) _) hI.2.2.2.2.2.2.2.2.2.2.2.2.2.2.2.2.2.2.2.2.2.2.2.2.2.2.2.2.2.2.2.2.2.2.2.2.2.2.1)
    have k_xSP : xSP W := by
      rw [hW]
      exact (uxSP (sinc_ok (by decide +kernel) _) hI.2.2.2.2.2.2.2.2.2.2.2.2.2.2.2.2.2.2.2.2.2.2.2.2.2.2.2.2.2.2.2.2.2.2.2.2.2.2.2.1)
    have k_xSL : xSL W := by
      rw [hW]
      exact (uxSL (sinc_ok (by decide +kernel) _) hI.2.2.2.2.2.2.2.2.2.2.2.2.2.2.2.2.2.2.2.2.2.2.2.2.2.2.2.2.2.2.2.2.2.2.2.2.2.2.2.2.1)
    have k_xSM : xSM W := by
      rw [hW]
      exact (uxSM (sinc_ok (by decide +kernel) _) hI.2.2.2.2.2.2.2.2.2.2.2.2.2.2.2.2.2.2.2.2.2.2.2.2.2.2.2.2.2.2.2.2.2.2.2.2.2.2.2.2.2.1)
    have k_xSI : xSI W := by
      rw [hW]
      exact (uxSI (sinc_ok (by decide +kernel) _) hI.2.2.2.2.2.2.2.2.2.2.2.2.2.2.2.2.2.2.2.2.2.2.2.2.2.2.2.2.2.2.2.2.2.2.2.2.2.2.2.2.2.2)
    have k_XC : XC W := ⟨k_xS1, k_xS2, k_xS3, k_xS4, k_xS5, k_xS6, k_xS7, k_xS8, k_xS9, k_xSA, k_xSG, k_xSF, k_xSB, k_xSC, k_xSD, k_xSE, k_xSW, k_xST, k_xSP, k_xSL, k_xSM, k_xSI⟩
    have kXB : XB W := ⟨k_xN1, k_xN2, k_xN3, k_xN4, k_xN5, k_xN6, k_xH1, k_xK1, k_xC1, k_xRW, k_xWT, k_xCU, k_xG2, k_xG3, k_xG4, k_xG5, k_xG6, k_XC⟩
    exact ⟨base, k2, k3, kXA, kXB⟩
-- nm0R100
def xr_587 : qRu := (3, [[(1, 1)], [(11, 0), (-1, 1)], [(2147483648, 0), (1, 2)], [(2147483647, 0), (-1, 2)]], [(4, 100, [])], [(100, [(1, 1)], [(1, 2)])], [], [])
theorem xo_587 : qRok xr_587 := by
  intro ρ M h0 hf hm hI
  have f0 := hf [(1, 1)] (by decide)
  have f1 := hf [(11, 0), (-1, 1)] (by decide)
  have f2 := hf [(2147483648, 0), (1, 2)] (by decide)
  have f3 := hf [(2147483647, 0), (-1, 2)] (by decide)
  simp only [qD, h0] at f0 f1 f2 f3
  have m0 : M 4 100 = 0 := hm (4, 100, []) (by decide)
  refine ⟨ρ, fun _ _ => rfl, fun f h => ?_, ?_⟩
  · exact nomatch h
  · show sI (sU M 100 (1 * ρ 1 + 0 : Int).toNat (1 * ρ 2 + 0))
    obtain ⟨W, hW⟩ : ∃ W, W = (sU M 100 (1 * ρ 1 + 0).toNat (1 * ρ 2 + 0)) := ⟨_, rfl⟩
    rw [← hW]
    have base : sI0 W := by
      rw [hW]
      exact (si_u0 hI.1 (fun r hr => by rw [xt_100 hr]; exact ⟨by show (-2147483648 : Int) ≤ _; omega, by show _ ≤ (2147483647 : Int); omega⟩))
    have k2 : XI2 W := by
      rw [hW]
      exact (xi2_u (sinc_ok (by decide +kernel) _) hI.2.1)
    have k3 : XI3 W := by
      rw [hW]
      exact (xi3_u (sinc_ok (by decide +kernel) _) hI.2.2.1)
    have kXA : XA W := by
      rw [hW]
      exact (uXA (sinc_ok (by decide +kernel) _) hI.2.2.2.1)
    have k_xN1 : xN1 W := by
      rw [hW]
      exact (uxN1 (sinc_ok (by decide +kernel) _) hI.2.2.2.2.1)
    have k_xN2 : xN2 W := by
      rw [hW]
      exact (uxN2 (sinc_ok (by decide +kernel) _) hI.2.2.2.2.2.1)
    have k_xN3 : xN3 W := by
      rw [hW]
      exact (uxN3 (sinc_ok (by decide +kernel) _) hI.2.2.2.2.2.2.1)
    have k_xN4 : xN4 W := by
      rw [hW]
      exact (uxN4 (sinc_ok (by decide +kernel) _) hI.2.2.2.2.2.2.2.1)
    have k_xN5 : xN5 W := by
      rw [hW]
      exact (uxN5 (sinc_ok (by decide +kernel) _) hI.2.2.2.2.2.2.2.2.1)
    have k_xN6 : xN6 W := by
      rw [hW]
      exact (uxN6 (sinc_ok (by decide +kernel) _) hI.2.2.2.2.2.2.2.2.2.1)
    have k_xH1 : xH1 W := by
      rw [hW]
      exact (uxH1 (sinc_ok (by decide +kernel) _) hI.2.2.2.2.2.2.2.2.2.2.1)
    have k_xK1 : xK1 W := by
      rw [hW]
      exact (uxK1 (sinc_ok (by decide +kernel) _) hI.2.2.2.2.2.2.2.2.2.2.2.1)
    have k_xC1 : xC1 W := by
      rw [hW]
      exact (uxC1 (sinc_ok (by decide +kernel) _) hI.2.2.2.2.2.2.2.2.2.2.2.2.1)
    have k_xRW : xRW W := by
      rw [hW]
      exact (uxRW (sinc_ok (by decide +kernel) _) hI.2.2.2.2.2.2.2.2.2.2.2.2.2.1)
    have k_xWT : xWT W := by
      rw [hW]
      exact (uxWT (sinc_ok (by decide +kernel) _) hI.2.2.2.2.2.2.2.2.2.2.2.2.2.2.1)
    have k_xCU : xCU W := by
      rw [hW]
      exact (uxCU (sinc_ok (by decide +kernel) _) hI.2.2.2.2.2.2.2.2.2.2.2.2.2.2.2.1)
    have k_xG2 : xG2 W := by
      rw [hW]
      exact (uxG2 (sinc_ok (by decide +kernel) _) hI.2.2.2.2.2.2.2.2.2.2.2.2.2.2.2.2.1)
    have k_xG3 : xG3 W := by
      rw [hW]
      exact (uxG3 (sinc_ok (by decide +kernel) _) hI.2.2.2.2.2.2.2.2.2.2.2.2.2.2.2.2.2.1)
    have k_xG4 : xG4 W := by
      rw [hW]
      exact (uxG4 (sinc_ok (by decide +kernel) _) hI.2.2.2.2.2.2.2.2.2.2.2.2.2.2.2.2.2.2.1)
    have k_xG5 : xG5 W := by
      rw [hW]
      exact (uxG5 (sinc_ok (by decide +kernel) _) hI.2.2.2.2.2.2.2.2.2.2.2.2.2.2.2.2.2.2.2.1)
    have k_xG6 : xG6 W := by
      rw [hW]
      exact (uxG6 (sinc_ok (by decide +kernel) _) hI.2.2.2.2.2.2.2.2.2.2.2.2.2.2.2.2.2.2.2.2.1)
    have k_xS1 : xS1 W := by
      rw [hW]
      exact (uxS1 (sinc_ok (by decide +kernel) _) hI.2.2.2.2.2.2.2.2.2.2.2.2.2.2.2.2.2.2.2.2.2.1)
    have k_xS2 : xS2 W := by
      rw [hW]
      exact (uxS2 (sinc_ok (by decide +kernel) _) hI.2.2.2.2.2.2.2.2.2.2.2.2.2.2.2.2.2.2.2.2.2.2.1)
    have k_xS3 : xS3 W := by
      rw [hW]
      exact (uxS3 (sinc_ok (by decide +kernel) _) hI.2.2.2.2.2.2.2.2.2.2.2.2.2.2.2.2.2.2.2.2.2.2.2.1)
    have k_xS4 : xS4 W := by
      rw [hW]
      exact (uxS4 (sinc_ok (by decide +kernel) _) hI.2.2.2.2.2.2.2.2.2.2.2.2.2.2.2.2.2.2.2.2.2.2.2.2.1)
    have k_xS5 : xS5 W := by
      have r : W 4 100 = 0 := by
        have e := m0
        rw [hW, sU_ne (fun z => by omega)]
        omega
      intro h
      rw [r] at h
      omega
    have k_xS6 : xS6 W := by
      rw [hW]
      exact (uxS6 (sinc_ok (by decide +kernel) _) hI.2.2.2.2.2.2.2.2.2.2.2.2.2.2.2.2.2.2.2.2.2.2.2.2.2.2.1)
    have k_xS7 : xS7 W := by
      rw [hW]
      exact (uxS7 (sinc_ok (by decide +kernel) _) hI.2.2.2.2.2.2.2.2.2.2.2.2.2.2.2.2.2.2.2.2.2.2.2.2.2.2.2.1)
    have k_xS8 : xS8 W := by
      rw [hW]
      exact (uxS8 (sinc_ok (by decide +kernel) _) hI.2.2.2.2.2.2.2.2.2.2.2.2.2.2.2.2.2.2.2.2.2.2.2.2.2.2.2.2.1)
    have k_xS9 : xS9 W := by
      rw [hW]
      exact (uxS9 (sinc_ok (by decide +kernel) _) hI.2.2.2.2.2.2.2.2.2.2.2.2.2.2.2.2.2.2.2.2.2.2.2.2.2.2.2.2.2.1)
    have k_xSA : xSA W := by
      rw [hW]
      exact (uxSA (sinc_ok (by decide +kernel) _) hI.2.2.2.2.2.2.2.2.2.2.2.2.2.2.2.2.2.2.2.2.2.2.2.2.2.2.2.2.2.2.1)
    have k_xSG : xSG W := by
      rw [hW]
      exact (uxSG (sinc_ok (by decide +kernel) _) hI.2.2.2.2.2.2.2.2.2.2.2.2.2.2.2.2.2.2.2.2.2.2.2.2.2.2.2.2.2.2.2.1)
    have k_xSF : xSF W := by
      rw [hW]
      exact (uxSF (sinc_ok (by decide +kernel) _) hI.2.2.2.2.2.2.2.2.2.2.2.2.2.2.2.2.2.2.2.2.2.2.2.2.2.2.2.2.2.2.2.2.1)
    have k_xSB : xSB W := by
      rw [hW]
      exact (uxSB (sinc_ok (by decide +kernel) _) hI.2.2.2.2.2.2.2.2.2.2.2.2.2.2.2.2.2.2.2.2.2.2.2.2.2.2.2.2.2.2.2.2.2.1)
    have k_xSC : xSC W := by
      rw [hW]
      exact (uxSC (sinc_ok (by decide +kernel) _) hI.2.2.2.2.2.2.2.2.2.2.2.2.2.2.2.2.2.2.2.2.2.2.2.2.2.2.2.2.2.2.2.2.2.2.1)
    have k_xSD : xSD W := by
      rw [hW]
      exact (uxSD (sinc_ok (by decide +kernel) _) hI.2.2.2.2.2.2.2.2.2.2.2.2.2.2.2.2.2.2.2.2.2.2.2.2.2.2.2.2.2.2.2.2.2.2.2.1)
    have k_xSE : xSE W := by
      rw [hW]
      exact (uxSE (sinc_ok (by decide +kernel) _) hI.2.2.2.2.2.2.2.2.2.2.2.2.2.2.2.2.2.2.2.2.2.2.2.2.2.2.2.2.2.2.2.2.2.2.2.2.1)
    have k_xSW : xSW W := by
      rw [hW]
      exact (uxSW (sinc_ok (by decide +kernel) _) hI.2.2.2.2.2.2.2.2.2.2.2.2.2.2.2.2.2.2.2.2.2.2.2.2.2.2.2.2.2.2.2.2.2.2.2.2.2.1)
    have k_xST : xST W := by
      rw [hW]
      exact (uxST (sinc_ok (by decide +kernel) _) hI.2.2.2.2.2.2.2.2.2.2.2.2.2.2.2.2.2.2.2.2.2.2.2.2.2.2.2.2.2.2.2.2.2.2.2.2.2.2.1)
    have k_xSP : xSP W := by
      rw [hW]
      exact (uxSP (sinc_ok (by decide +kernel) _) hI.2.2.2.2.2.2.2.2.2.2.2.2.2.2.2.2.2.2.2.2.2.2.2.2.2.2.2.2.2.2.2.2.2.2.2.2.2.2.2.1)
    have k_xSL : xSL W := by
      rw [hW]
      exact (uxSL (sinc_ok (by decide +kernel) _) hI.2.2.2.2.2.2.2.2.2.2.2.2.2.2.2.2.2.2.2.2.2.2.2.2.2.2.2.2.2.2.2.2.2.2.2.2.2.2.2.2.1)
    have k_xSM : xSM W := by
      rw [hW]
      exact (uxSM (sinc_ok (by decide +kernel) _) hI.2.2.2.2.2.2.2.2.2.2.2.2.2.2.2.2.2.2.2.2.2.2.2.2.2.2.2.2.2.2.2.2.2.2.2.2.2.2.2.2.2.1)
    have k_xSI : xSI W := by
      rw [hW]
      exact (uxSI (sinc_ok (by decide +kernel) _) hI.2.2.2.2.2.2.2.2.2.2.2.2.2.2.2.2.2.2.2.2.2.2.2.2.2.2.2.2.2.2.2.2.2.2.2.2.2.2.2.2.2.2)
    have k_XC : XC W := ⟨k_xS1, k_xS2, k_xS3, k_xS4, k_xS5, k_xS6, k_xS7, k_xS8, k_xS9, k_xSA, k_xSG, k_xSF, k_xSB, k_xSC, k_xSD, k_xSE, k_xSW, k_xST, k_xSP, k_xSL, k_xSM, k_xSI⟩
    have kXB : XB W := ⟨k_xN1, k_xN2, k_xN3, k_xN4, k_xN5, k_xN6, k_xH1, k_xK1, k_xC1, k_xRW, k_xWT, k_xCU, k_xG2, k_xG3, k_xG4, k_xG5, k_xG6, k_XC⟩
    exact ⟨base, k2, k3, kXA, kXB⟩
-- nmTieR104_0
def xr_588 : qRu := (4, [[(-1, 0), (1, 3)]], [(4, 100, [(2, 0)]), (4, 106, [(1, 3)]), (104, 3, [(1, 1)]), (3, 80, [(1, 2)])], [], [], [[(1, 1), (-1, 2)], [(-1, 1), (1, 2)]])
theorem xo_588 : qRok xr_588 := by
  intro ρ M h0 hf hm hI
  have f0 := hf [(-1, 0), (1, 3)] (by decide)
  simp only [qD, h0] at f0
  have m0 : M 4 100 = 2 * ρ 0 + 0 := hm (4, 100, [(2, 0)]) (by decide)
  have m1 : M 4 106 = 1 * ρ 3 + 0 := hm (4, 106, [(1, 3)]) (by decide)
  have m2 : M 104 3 = 1 * ρ 1 + 0 := hm (104, 3, [(1, 1)]) (by decide)
  have m3 : M 3 80 = 1 * ρ 2 + 0 := hm (3, 80, [(1, 2)]) (by decide)
  simp only [h0] at m0
  obtain ⟨a0, a1, a2⟩ := gx_xS5 hI (by omega)
  have t := a2 0 (by omega) (by omega)
  have t : M 104 3 = M 3 80 := t
  refine ⟨ρ, fun _ _ => rfl, fun f h => ?_, ?_⟩
  · have h : f ∈ ([[(1, 1), (-1, 2)], [(-1, 1), (1, 2)]] : List qF) := h
    simp only [List.mem_cons, List.not_mem_nil, or_false] at h
    rcases h with rfl | rfl
    · show 0 ≤ 1 * ρ 1 + (-1 * ρ 2 + 0)
      (try rw [h0]); omega
    · show 0 ≤ -1 * ρ 1 + (1 * ρ 2 + 0)
      (try rw [h0]); omega
  · show sI M
    exact hI
-- nmUpR104_0
def xr_589 : qRu := (3, [[(1, 1), (-1, 2)], [(-1, 1), (1, 2)]], [(4, 100, [(2, 0)]), (4, 106, []), (104, 3, [(1, 1)]), (3, 80, [(1, 2)])], [], [(4, 106, [(1, 0)])], [])
theorem xo_589 : qRok xr_589 := by
  intro ρ M h0 hf hm hI
  have f0 := hf [(1, 1), (-1, 2)] (by decide)
  have f1 := hf [(-1, 1), (1, 2)] (by decide)
  simp only [qD, h0] at f0 f1
  have m0 : M 4 100 = 2 * ρ 0 + 0 := hm (4, 100, [(2, 0)]) (by decide)
  have m1 : M 4 106 = 0 := hm (4, 106, []) (by decide)
  have m2 : M 104 3 = 1 * ρ 1 + 0 := hm (104, 3, [(1, 1)]) (by decide)
  have m3 : M 3 80 = 1 * ρ 2 + 0 := hm (3, 80, [(1, 2)]) (by decide)
  simp only [h0] at m0
  have qxS5 := hI.2.2.2.2.2.2.2.2.2.2.2.2.2.2.2.2.2.2.2.2.2.2.2.2.2.1
  refine ⟨ρ, fun _ _ => rfl, fun f h => ?_, ?_⟩
  · exact nomatch h
  · show sI (sU M 4 106 (1 * ρ 0 + 0))
    obtain ⟨W, hW⟩ : ∃ W, W = (sU M 4 106 (1 * ρ 0 + 0)) := ⟨_, rfl⟩
    rw [← hW]
    have base : sI0 W := by
      rw [hW]
      exact (si_u0 hI.1 (fun r hr => by cases hr))
    have k2 : XI2 W := by
      rw [hW]
      exact (xi2_u (by decide +kernel) hI.2.1)
    have k3 : XI3 W := by
      rw [hW]
      exact (xi3_u (by decide +kernel) hI.2.2.1)
    have kXA : XA W := by
      rw [hW]
      exact (uXA (by decide +kernel) hI.2.2.2.1)
    have k_xN1 : xN1 W := by
      rw [hW]
      exact (uxN1 (by decide +kernel) hI.2.2.2.2.1)
    have k_xN2 : xN2 W := by
      rw [hW]
      exact (uxN2 (by decide +kernel) hI.2.2.2.2.2.1)
    have k_xN3 : xN3 W := by
      rw [hW]
      exact (uxN3 (by decide +kernel) hI.2.2.2.2.2.2.1)
    have k_xN4 : xN4 W := by
      rw [hW]
      exact (uxN4 (by decide +kernel) hI.2.2.2.2.2.2.2.1)
    have k_xN5 : xN5 W := by
      rw [hW]
      exact (uxN5 (by decide +kernel) hI.2.2.2.2.2.2.2.2.1)
    have k_xN6 : xN6 W := by
      rw [hW]
      exact (uxN6 (by decide +kernel) hI.2.2.2.2.2.2.2.2.2.1)
    have k_xH1 : xH1 W := by
      rw [hW]
      exact (uxH1 (by decide +kernel) hI.2.2.2.2.2.2.2.2.2.2.1)
    have k_xK1 : xK1 W := by
      rw [hW]
      exact (uxK1 (by decide +kernel) hI.2.2.2.2.2.2.2.2.2.2.2.1)
    have k_xC1 : xC1 W := by
      rw [hW]
      exact (uxC1 (by decide +kernel) hI.2.2.2.2.2.2.2.2.2.2.2.2.1)
    have k_xRW : xRW W := by
      rw [hW]
      exact (uxRW (by decide +kernel) hI.2.2.2.2.2.2.2.2.2.2.2.2.2.1)
    have k_xWT : xWT W := by
      rw [hW]
      exact (uxWT (by decide +kernel) hI.2.2.2.2.2.2.2.2.2.2.2.2.2.2.1)
    have k_xCU : xCU W := by
      rw [hW]
      exact (uxCU (by decide +kernel) hI.2.2.2.2.2.2.2.2.2.2.2.2.2.2.2.1)
    have k_xG2 : xG2 W := by
      rw [hW]
      exact (uxG2 (by decide +kernel) hI.2.2.2.2.2.2.2.2.2.2.2.2.2.2.2.2.1)
    have k_xG3 : xG3 W := by
      rw [hW]
      exact (uxG3 (by decide +kernel) hI.2.2.2.2.2.2.2.2.2.2.2.2.2.2.2.2.2.1)
    have k_xG4 : xG4 W := by
      rw [hW]
      exact (uxG4 (by decide +kernel) hI.2.2.2.2.2.2.2.2.2.2.2.2.2.2.2.2.2.2.1)
    have k_xG5 : xG5 W := by
      rw [hW]
      exact (uxG5 (by decide +kernel) hI.2.2.2.2.2.2.2.2.2.2.2.2.2.2.2.2.2.2.2.1)
    have k_xG6 : xG6 W := by
      rw [hW]
      exact (uxG6 (by decide +kernel) hI.2.2.2.2.2.2.2.2.2.2.2.2.2.2.2.2.2.2.2.2.1)
    have k_xS1 : xS1 W := by
      rw [hW]
      exact (uxS1 (by decide +kernel) hI.2.2.2.2.2.2.2.2.2.2.2.2.2.2.2.2.2.2.2.2.2.1)
    have k_xS2 : xS2 W := by
      rw [hW]
      exact (uxS2 (by decide +kernel) hI.2.2.2.2.2.2.2.2.2.2.2.2.2.2.2.2.2.2.2.2.2.2.1)
    have k_xS3 : xS3 W := by
      rw [hW]
      exact (uxS3 (by decide +kernel) hI.2.2.2.2.2.2.2.2.2.2.2.2.2.2.2.2.2.2.2.2.2.2.2.1)
    have k_xS4 : xS4 W := by
      have r : W 4 100 = 2 := by
        have e := m0
        rw [hW, sU_ne (fun z => by omega)]
        omega
      intro h
      rw [r] at h
      omega
    have k_xS5 : xS5 W := by
      have r4_100 : W 4 100 = M 4 100 := by rw [hW, sU_ne (fun z => by omega)]
      have r4_104 : W 4 104 = M 4 104 := by rw [hW, sU_ne (fun z => by omega)]
      have r4_105 : W 4 105 = M 4 105 := by rw [hW, sU_ne (fun z => by omega)]
      have r4_106 : W 4 106 = 1 * ρ 0 + 0 := by rw [hW, sU_at]
      have c3 : ∀ k, W 3 k = M 3 k := fun k => by rw [hW, sU_ne (fun z => by omega)]
      have e3 : W 3 = M 3 := funext c3
      have c94 : ∀ k, W 94 k = M 94 k := fun k => by rw [hW, sU_ne (fun z => by omega)]
      have e94 : W 94 = M 94 := funext c94
      have c100 : ∀ k, W 100 k = M 100 k := fun k => by rw [hW, sU_ne (fun z => by omega)]
      have e100 : W 100 = M 100 := funext c100
      have c104 : ∀ k, W 104 k = M 104 k := fun k => by rw [hW, sU_ne (fun z => by omega)]
      have e104 : W 104 = M 104 := funext c104
      intro h
      obtain ⟨a0, a1, a2⟩ := gx_xS5 hI (by omega)
      rw [r4_104, r4_105, r4_106, e3, e94, e100, e104]
      refine ⟨fun j hj ht => ?_, fun j hj ht => ?_, fun j hj ht => ?_⟩
      · exact a0 j hj (by omega)
      · exact a1 j hj (by omega)
      · by_cases hJ : j = 0
        · subst hJ
          show M 104 3 = M 3 80
          omega
        · exact a2 j hj (by (try rw [h0] at ht); omega)
    have k_xS6 : xS6 W := by
      rw [hW]
      exact (uxS6 (by decide +kernel) hI.2.2.2.2.2.2.2.2.2.2.2.2.2.2.2.2.2.2.2.2.2.2.2.2.2.2.1)
    have k_xS7 : xS7 W := by
      rw [hW]
      exact (uxS7 (by decide +kernel) hI.2.2.2.2.2.2.2.2.2.2.2.2.2.2.2.2.2.2.2.2.2.2.2.2.2.2.2.1)
    have k_xS8 : xS8 W := by
      rw [hW]
      exact (uxS8 (by decide +kernel) hI.2.2.2.2.2.2.2.2.2.2.2.2.2.2.2.2.2.2.2.2.2.2.2.2.2.2.2.2.1)
    have k_xS9 : xS9 W := by
      rw [hW]
      exact (uxS9 (by decide +kernel) hI.2.2.2.2.2.2.2.2.2.2.2.2.2.2.2.2.2.2.2.2.2.2.2.2.2.2.2.2.2.1)
    have k_xSA : xSA W := by
      rw [hW]
      exact (uxSA (by decide +kernel) hI.2.2.2.2.2.2.2.2.2.2.2.2.2.2.2.2.2.2.2.2.2.2.2.2.2.2.2.2.2.2.1)
    have k_xSG : xSG W := by
      rw [hW]
      exact (uxSG (by decide +kernel) hI.2.2.2.2.2.2.2.2.2.2.2.2.2.2.2.2.2.2.2.2.2.2.2.2.2.2.2.2.2.2.2.1)
    have k_xSF : xSF W := by
      rw [hW]
      exact (uxSF (by decide +kernel) hI.2.2.2.2.2.2.2.2.2.2.2.2.2.2.2.2.2.2.2.2.2.2.2.2.2.2.2.2.2.2.2.2.1)
    have k_xSB : xSB W := by
      rw [hW]
      exact (uxSB (by decide +kernel) hI.2.2.2.2.2.2.2.2.2.2.2.2.2.2.2.2.2.2.2.2.2.2.2.2.2.2.2.2.2.2.2.2.2.1)
    have k_xSC : xSC W := by
      rw [hW]
      exact (uxSC (by decide +kernel) hI.2.2.2.2.2.2.2.2.2.2.2.2.2.2.2.2.2.2.2.2.2.2.2.2.2.2.2.2.2.2.2.2.2.2.1)
    have k_xSD : xSD W := by
      rw [hW]
      exact (uxSD (by decide +kernel) hI.2.2.2.2.2.2.2.2.2.2.2.2.2.2.2.2.2.2.2.2.2.2.2.2.2.2.2.2.2.2.2.2.2.2.2.1)
    have k_xSE : xSE W := by
      rw [hW]
      exact (uxSE (by decide +kernel) hI.2.2.2.2.2.2.2.2.2.2.2.2.2.2.2.2.2.2.2.2.2.2.2.2.2.2.2.2.2.2.2.2.2.2.2.2.1)
    have k_xSW : xSW W := by
      rw [hW]
      exact (uxSW (by decide +kernel) hI.2.2.2.2.2.2.2.2.2.2.2.2.2.2.2.2.2.2.2.2.2.2.2.2.2.2.2.2.2.2.2.2.2.2.2.2.2.1)
    have k_xST : xST W := by
      rw [hW]
      exact (uxST (by decide +kernel) hI.2.2.2.2.2.2.2.2.2.2.2.2.2.2.2.2.2.2.2.2.2.2.2.2.2.2.2.2.2.2.2.2.2.2.2.2.2.2.1)
    have k_xSP : xSP W := by
      rw [hW]
      exact (uxSP (by decide +kernel) hI.2.2.2.2.2.2.2.2.2.2.2.2.2.2.2.2.2.2.2.2.2.2.2.2.2.2.2.2.2.2.2.2.2.2.2.2.2.2.2.1)
    have k_xSL : xSL W := by
      rw [hW]
      exact (uxSL (by decide +kernel) hI.2.2.2.2.2.2.2.2.2.2.2.2.2.2.2.2.2.2.2.2.2.2.2.2.2.2.2.2.2.2.2.2.2.2.2.2.2.2.2.2.1)
    have k_xSM : xSM W := by
      rw [hW]
      exact (uxSM (by decide +kernel) hI.2.2.2.2.2.2.2.2.2.2.2.2.2.2.2.2.2.2.2.2.2.2.2.2.2.2.2.2.2.2.2.2.2.2.2.2.2.2.2.2.2.1)
    have k_xSI : xSI W := by
      rw [hW]
      exact (uxSI (by decide +kernel) hI.2.2.2.2.2.2.2.2.2.2.2.2.2.2.2.2.2.2.2.2.2.2.2.2.2.2.2.2.2.2.2.2.2.2.2.2.2.2.2.2.2.2)
    have k_XC : XC W := ⟨k_xS1, k_xS2, k_xS3, k_xS4, k_xS5, k_xS6, k_xS7, k_xS8, k_xS9, k_xSA, k_xSG, k_xSF, k_xSB, k_xSC, k_xSD, k_xSE, k_xSW, k_xST, k_xSP, k_xSL, k_xSM, k_xSI⟩
    have kXB : XB W := ⟨k_xN1, k_xN2, k_xN3, k_xN4, k_xN5, k_xN6, k_xH1, k_xK1, k_xC1, k_xRW, k_xWT, k_xCU, k_xG2, k_xG3, k_xG4, k_xG5, k_xG6, k_XC⟩
    exact ⟨base, k2, k3, kXA, kXB⟩
-- nmTieR104_1
def xr_590 : qRu := (4, [[(-2, 0), (1, 3)]], [(4, 100, [(2, 0)]), (4, 106, [(1, 3)]), (104, 4, [(1, 1)]), (3, 81, [(1, 2)])], [], [], [[(1, 1), (-1, 2)], [(-1, 1), (1, 2)]])
theorem xo_590 : qRok xr_590 := by
  intro ρ M h0 hf hm hI
  have f0 := hf [(-2, 0), (1, 3)] (by decide)
  simp only [qD, h0] at f0
  have m0 : M 4 100 = 2 * ρ 0 + 0 := hm (4, 100, [(2, 0)]) (by decide)
  have m1 : M 4 106 = 1 * ρ 3 + 0 := hm (4, 106, [(1, 3)]) (by decide)
  have m2 : M 104 4 = 1 * ρ 1 + 0 := hm (104, 4, [(1, 1)]) (by decide)
  have m3 : M 3 81 = 1 * ρ 2 + 0 := hm (3, 81, [(1, 2)]) (by decide)
  simp only [h0] at m0
  obtain ⟨a0, a1, a2⟩ := gx_xS5 hI (by omega)
  have t := a2 1 (by omega) (by omega)
  have t : M 104 4 = M 3 81 := t
  refine ⟨ρ, fun _ _ => rfl, fun f h => ?_, ?_⟩
  · have h : f ∈ ([[(1, 1), (-1, 2)], [(-1, 1), (1, 2)]] : List qF) := h
    simp only [List.mem_cons, List.not_mem_nil, or_false] at h
    rcases h with rfl | rfl
    · show 0 ≤ 1 * ρ 1 + (-1 * ρ 2 + 0)
      (try rw [h0]); omega
    · show 0 ≤ -1 * ρ 1 + (1 * ρ 2 + 0)
      (try rw [h0]); omega
  · show sI M
    exact hI
-- nmUpR104_1
def xr_591 : qRu := (3, [[(1, 1), (-1, 2)], [(-1, 1), (1, 2)]], [(4, 100, [(2, 0)]), (4, 106, [(1, 0)]), (104, 4, [(1, 1)]), (3, 81, [(1, 2)])], [], [(4, 106, [(2, 0)])], [])
theorem xo_591 : qRok xr_591 := by
  intro ρ M h0 hf hm hI
  have f0 := hf [(1, 1), (-1, 2)] (by decide)
  have f1 := hf [(-1, 1), (1, 2)] (by decide)
  simp only [qD, h0] at f0 f1
  have m0 : M 4 100 = 2 * ρ 0 + 0 := hm (4, 100, [(2, 0)]) (by decide)
  have m1 : M 4 106 = 1 * ρ 0 + 0 := hm (4, 106, [(1, 0)]) (by decide)
  have m2 : M 104 4 = 1 * ρ 1 + 0 := hm (104, 4, [(1, 1)]) (by decide)
  have m3 : M 3 81 = 1 * ρ 2 + 0 := hm (3, 81, [(1, 2)]) (by decide)
  simp only [h0] at m0 m1
  have qxS5 := hI.2.2.2.2.2.2.2.2.2.2.2.2.2.2.2.2.2.2.2.2.2.2.2.2.2.1
  refine ⟨ρ, fun _ _ => rfl, fun f h => ?_, ?_⟩
  · exact nomatch h
  · show sI (sU M 4 106 (2 * ρ 0 + 0))
    obtain ⟨W, hW⟩ : ∃ W, W = (sU M 4 106 (2 * ρ 0 + 0)) := ⟨_, rfl⟩
    rw [← hW]
    have base : sI0 W := by
      rw [hW]
      exact (si_u0 hI.1 (fun r hr => by cases hr))
    have k2 : XI2 W := by
      rw [hW]
      exact (xi2_u (by decide +kernel) hI.2.1)
    have k3 : XI3 W := by
      rw [hW]
      exact (xi3_u (by decide +kernel) hI.2.2.1)
    have kXA : XA W := by
      rw [hW]
      exact (uXA (by decide +kernel) hI.2.2.2.1)
    have k_xN1 : xN1 W := by
      rw [hW]
      exact (uxN1 (by decide +kernel) hI.2.2.2.2.1)
    have k_xN2 : xN2 W := by
      rw [hW]
      exact (uxN2 (by decide +kernel) hI.2.2.2.2.2.1)
    have k_xN3 : xN3 W := by
      rw [hW]
      exact (uxN3 (by decide +kernel) hI.2.2.2.2.2.2.1)
    have k_xN4 : xN4 W := by
      rw [hW]
      exact (uxN4 (by decide +kernel) hI.2.2.2.2.2.2.2.1)
    have k_xN5 : xN5 W := by
      rw [hW]
      exact (uxN5 (by decide +kernel) hI.2.2.2.2.2.2.2.2.1)
    have k_xN6 : xN6 W := by
      rw [hW]
      exact (uxN6 (by decide +kernel) hI.2.2.2.2.2.2.2.2.2.1)
    have k_xH1 : xH1 W := by
      rw [hW]
      exact (uxH1 (by decide +kernel) hI.2.2.2.2.2.2.2.2.2.2.1)
    have k_xK1 : xK1 W := by
      rw [hW]
      exact (uxK1 (by decide +kernel) hI.2.2.2.2.2.2.2.2.2.2.2.1)
    have k_xC1 : xC1 W := by
      rw [hW]
      exact (uxC1 (by decide +kernel) hI.2.2.2.2.2.2.2.2.2.2.2.2.1)
    have k_xRW : xRW W := by
      rw [hW]
      exact (uxRW (by decide +kernel) hI.2.2.2.2.2.2.2.2.2.2.2.2.2.1)
    have k_xWT : xWT W := by
      rw [hW]
      exact (uxWT (by decide +kernel) hI.2.2.2.2.2.2.2.2.2.2.2.2.2.2.1)
    have k_xCU : xCU W := by
      rw [hW]
      exact (uxCU (by decide +kernel) hI.2.2.2.2.2.2.2.2.2.2.2.2.2.2.2.1)
    have k_xG2 : xG2 W := by
      rw [hW]
      exact (uxG2 (by decide +kernel) hI.2.2.2.2.2.2.2.2.2.2.2.2.2.2.2.2.1)
    have k_xG3 : xG3 W := by
      rw [hW]
      exact (uxG3 (by decide +kernel) hI.2.2.2.2.2.2.2.2.2.2.2.2.2.2.2.2.2.1)
    have k_xG4 : xG4 W := by
      rw [hW]
      exact (uxG4 (by decide +kernel) hI.2.2.2.2.2.2.2.2.2.2.2.2.2.2.2.2.2.2.1)
    have k_xG5 : xG5 W := by
      rw [hW]
      exact (uxG5 (by decide +kernel) hI.2.2.2.2.2.2.2.2.2.2.2.2.2.2.2.2.2.2.2.1)
    have k_xG6 : xG6 W := by
      rw [hW]
      exact (uxG6 (by decide +kernel) hI.2.2.2.2.2.2.2.2.2.2.2.2.2.2.2.2.2.2.2.2.1)
    have k_xS1 : xS1 W := by
      rw [hW]
      exact (uxS1 (by decide +kernel) hI.2.2.2.2.2.2.2.2.2.2.2.2.2.2.2.2.2.2.2.2.2.1)
    have k_xS2 : xS2 W := by
      rw [hW]
      exact (uxS2 (by decide +kernel) hI.2.2.2.2.2.2.2.2.2.2.2.2.2.2.2.2.2.2.2.2.2.2.1)
    have k_xS3 : xS3 W := by
      rw [hW]
      exact (uxS3 (by decide +kernel) hI.2.2.2.2.2.2.2.2.2.2.2.2.2.2.2.2.2.2.2.2.2.2.2.1)
    have k_xS4 : xS4 W := by
      have r : W 4 100 = 2 := by
        have e := m0
        rw [hW, sU_ne (fun z => by omega)]
        omega
      intro h
      rw [r] at h
      omega
    have k_xS5 : xS5 W := by
      have r4_100 : W 4 100 = M 4 100 := by rw [hW, sU_ne (fun z => by omega)]
      have r4_104 : W 4 104 = M 4 104 := by rw [hW, sU_ne (fun z => by omega)]
      have r4_105 : W 4 105 = M 4 105 := by rw [hW, sU_ne (fun z => by omega)]
      have r4_106 : W 4 106 = 2 * ρ 0 + 0 := by rw [hW, sU_at]
      have c3 : ∀ k, W 3 k = M 3 k := fun k => by rw [hW, sU_ne (fun z => by omega)]
      have e3 : W 3 = M 3 := funext c3
      have c94 : ∀ k, W 94 k = M 94 k := fun k => by rw [hW, sU_ne (fun z => by omega)]
      have e94 : W 94 = M 94 := funext c94
      have c100 : ∀ k, W 100 k = M 100 k := fun k => by rw [hW, sU_ne (fun z => by omega)]
      have e100 : W 100 = M 100 := funext c100
      have c104 : ∀ k, W 104 k = M 104 k := fun k => by rw [hW, sU_ne (fun z => by omega)]
      have e104 : W 104 = M 104 := funext c104
      intro h
      obtain ⟨a0, a1, a2⟩ := gx_xS5 hI (by omega)
      rw [r4_104, r4_105, r4_106, e3, e94, e100, e104]
      refine ⟨fun j hj ht => ?_, fun j hj ht => ?_, fun j hj ht => ?_⟩
      · exact a0 j hj (by omega)
      · exact a1 j hj (by omega)
      · by_cases hJ : j = 1
        · subst hJ
          show M 104 4 = M 3 81
          omega
        · exact a2 j hj (by (try rw [h0] at ht); omega)
    have k_xS6 : xS6 W := by
      rw [hW]
      exact (uxS6 (by decide +kernel) hI.2.2.2.2.2.2.2.2.2.2.2.2.2.2.2.2.2.2.2.2.2.2.2.2.2.2.1)
    have k_xS7 : xS7 W := by
      rw [hW]
      exact (uxS7 (by decide +kernel) hI.2.2.2.2.2.2.2.2.2.2.2.2.2.2.2.2.2.2.2.2.2.2.2.2.2.2.2.1)
    have k_xS8 : xS8 W := by
      rw [hW]
      exact (uxS8 (by decide +kernel) hI.2.2.2.2.2.2.2.2.2.2.2.2.2.2.2.2.2.2.2.2.2.2.2.2.2.2.2.2.1)
    have k_xS9 : xS9 W := by
      rw [hW]
      exact (uxS9 (by decide +kernel) hI.2.2.2.2.2.2.2.2.2.2.2.2.2.2.2.2.2.2.2.2.2.2.2.2.2.2.2.2.2.1)
    have k_xSA : xSA W := by
      rw [hW]
      exact (uxSA (by decide +kernel) hI.2.2.2.2.2.2.2.2.2.2.2.2.2.2.2.2.2.2.2.2.2.2.2.2.2.2.2.2.2.2.1)
    have k_xSG : xSG W := by
      rw [hW]
      exact (uxSG (by decide +kernel) hI.2.2.2.2.2.2.2.2.2.2.2.2.2.2.2.2.2.2.2.2.2.2.2.2.2.2.2.2.2.2.2.1)
    have k_xSF : xSF W := by
      rw [hW]
      exact (uxSF (by decide +kernel) hI.2.2.2.2.2.2.2.2.2.2.2.2.2.2.2.2.2.2.2.2.2.2.2.2.2.2.2.2.2.2.2.2.1)
    have k_xSB : xSB W := by
      rw [hW]
      exact (uxSB (by decide +kernel) hI.2.2.2.2.2.2.2.2.2.2.2.2.2.2.2.2.2.2.2.2.2.2.2.2.2.2.2.2.2.2.2.2.2.1)
    have k_xSC : xSC W := by
      rw [hW]
      exact (uxSC (by decide +kernel) hI.2.2.2.2.2.2.2.2.2.2.2.2.2.2.2.2.2.2.2.2.2.2.2.2.2.2.2.2.2.2.2.2.2.2.1)
    have k_xSD : xSD W := by
      rw [hW]
      exact (uxSD (by decide +kernel) hI.2.2.2.2.2.2.2.2.2.2.2.2.2.2.2.2.2.2.2.2.2.2.2.2.2.2.2.2.2.2.2.2.2.2.2.1)
    have k_xSE : xSE W := by
      rw [hW]
      exact (uxSE (by decide +kernel) hI.2.2.2.2.2.2.2.2.2.2.2.2.2.2.2.2.2.2.2.2.2.2.2.2.2.2.2.2.2.2.2.2.2.2.2.2.1)
    have k_xSW : xSW W := by
      rw [hW]
      exact (uxSW (by decide +kernel) hI.2.2.2.2.2.2.2.2.2.2.2.2.2.2.2.2.2.2.2.2.2.2.2.2.2.2.2.2.2.2.2.2.2.2.2.2.2.1)
    have k_xST : xST W := by
      rw [hW]
      exact (uxST (by decide +kernel) hI.2.2.2.2.2.2.2.2.2.2.2.2.2.2.2.2.2.2.2.2.2.2.2.2.2.2.2.2.2.2.2.2.2.2.2.2.2.2.1)
    have k_xSP : xSP W := by
      rw [hW]
      exact (uxSP (by decide +kernel) hI.2.2.2.2.2.2.2.2.2.2.2.2.2.2.2.2.2.2.2.2.2.2.2.2.2.2.2.2.2.2.2.2.2.2.2.2.2.2.2.1)
    have k_xSL : xSL W := by
      rw [hW]
      exact (uxSL (by decide +kernel) hI.2.2.2.2.2.2.2.2.2.2.2.2.2.2.2.2.2.2.2.2.2.2.2.2.2.2.2.2.2.2.2.2.2.2.2.2.2.2.2.2.1)
    have k_xSM : xSM W := by
      rw [hW]
      exact (uxSM (by decide +kernel) hI.2.2.2.2.2.2.2.2.2.2.2.2.2.2.2.2.2.2.2.2.2.2.2.2.2.2.2.2.2.2.2.2.2.2.2.2.2.2.2.2.2.1)
    have k_xSI : xSI W := by
      rw [hW]
      exact (uxSI (by decide +kernel) hI.2.2.2.2.2.2.2.2.2.2.2.2.2.2.2.2.2.2.2.2.2.2.2.2.2.2.2.2.2.2.2.2.2.2.2.2.2.2.2.2.2.2)
    have k_XC : XC W := ⟨k_xS1, k_xS2, k_xS3, k_xS4, k_xS5, k_xS6, k_xS7, k_xS8, k_xS9, k_xSA, k_xSG, k_xSF, k_xSB, k_xSC, k_xSD, k_xSE, k_xSW, k_xST, k_xSP, k_xSL, k_xSM, k_xSI⟩
    have kXB : XB W := ⟨k_xN1, k_xN2, k_xN3, k_xN4, k_xN5, k_xN6, k_xH1, k_xK1, k_xC1, k_xRW, k_xWT, k_xCU, k_xG2, k_xG3, k_xG4, k_xG5, k_xG6, k_XC⟩
    exact ⟨base, k2, k3, kXA, kXB⟩
-- nmTieR104_2
def xr_592 : qRu := (4, [[(-3, 0), (1, 3)]], [(4, 100, [(2, 0)]), (4, 106, [(1, 3)]), (104, 5, [(1, 1)]), (3, 82, [(1, 2)])], [], [], [[(1, 1), (-1, 2)], [(-1, 1), (1, 2)]])
theorem xo_592 : qRok xr_592 := by
  intro ρ M h0 hf hm hI
  have f0 := hf [(-3, 0), (1, 3)] (by decide)
  simp only [qD, h0] at f0
  have m0 : M 4 100 = 2 * ρ 0 + 0 := hm (4, 100, [(2, 0)]) (by decide)
  have m1 : M 4 106 = 1 * ρ 3 + 0 := hm (4, 106, [(1, 3)]) (by decide)
  have m2 : M 104 5 = 1 * ρ 1 + 0 := hm (104, 5, [(1, 1)]) (by decide)
  have m3 : M 3 82 = 1 * ρ 2 + 0 := hm (3, 82, [(1, 2)]) (by decide)
  simp only [h0] at m0
  obtain ⟨a0, a1, a2⟩ := gx_xS5 hI (by omega)
  have t := a2 2 (by omega) (by omega)
  have t : M 104 5 = M 3 82 := t
  refine ⟨ρ, fun _ _ => rfl, fun f h => ?_, ?_⟩
  · have h : f ∈ ([[(1, 1), (-1, 2)], [(-1, 1), (1, 2)]] : List qF) := h
    simp only [List.mem_cons, List.not_mem_nil, or_false] at h
    rcases h with rfl | rfl
    · show 0 ≤ 1 * ρ 1 + (-1 * ρ 2 + 0)
      (try rw [h0]); omega
    · show 0 ≤ -1 * ρ 1 + (1 * ρ 2 + 0)
      (try rw [h0]); omega
  · show sI M
    exact hI
-- nmUpR104_2
def xr_593 : qRu := (3, [[(1, 1), (-1, 2)], [(-1, 1), (1, 2)]], [(4, 100, [(2, 0)]), (4, 106, [(2, 0)]), (104, 5, [(1, 1)]), (3, 82, [(1, 2)])], [], [(4, 106, [(3, 0)])], [])
theorem xo_593 : qRok xr_593 := by
  intro ρ M h0 hf hm hI
  have f0 := hf [(1, 1), (-1, 2)] (by decide)
  have f1 := hf [(-1, 1), (1, 2)] (by decide)
  simp only [qD, h0] at f0 f1
  have m0 : M 4 100 = 2 * ρ 0 + 0 := hm (4, 100, [(2, 0)]) (by decide)
  have m1 : M 4 106 = 2 * ρ 0 + 0 := hm (4, 106, [(2, 0)]) (by decide)
  have m2 : M 104 5 = 1 * ρ 1 + 0 := hm (104, 5, [(1, 1)]) (by decide)
  have m3 : M 3 82 = 1 * ρ 2 + 0 := hm (3, 82, [(1, 2)]) (by decide)
  simp only [h0] at m0 m1
  have qxS5 := hI.2.2.2.2.2.2.2.2.2.2.2.2.2.2.2.2.2.2.2.2.2.2.2.2.2.1
  refine ⟨ρ, fun _ _ => rfl, fun f h => ?_, ?_⟩
  · exact nomatch h
  · show sI (sU M 4 106 (3 * ρ 0 + 0))
    obtain ⟨W, hW⟩ : ∃ W, W = (sU M 4 106 (3 * ρ 0 + 0)) := ⟨_, rfl⟩
    rw [← hW]
    have base : sI0 W := by
      rw [hW]
      exact (si_u0 hI.1 (fun r hr => by cases hr))
    have k2 : XI2 W := by
      rw [hW]
      exact (xi2_u (by decide +kernel) hI.2.1)
    have k3 : XI3 W := by
      rw [hW]
      exact (xi3_u (by decide +kernel) hI.2.2.1)
    have kXA : XA W := by
      rw [hW]
      exact (uXA (by decide +kernel) hI.2.2.2.1)
    have k_xN1 : xN1 W := by
      rw [hW]
      exact (uxN1 (by decide +kernel) hI.2.2.2.2.1)
    have k_xN2 : xN2 W := by
      rw [hW]
      exact (uxN2 (by decide +kernel) hI.2.2.2.2.2.1)
    have k_xN3 : xN3 W := by
      rw [hW]
      exact (uxN3 (by decide +kernel) hI.2.2.2.2.2.2.1)
    have k_xN4 : xN4 W := by
      rw [hW]
      exact (uxN4 (by decide +kernel) hI.2.2.2.2.2.2.2.1)
    have k_xN5 : xN5 W := by
      rw [hW]
      exact (uxN5 (by decide +kernel) hI.2.2.2.2.2.2.2.2.1)
    have k_xN6 : xN6 W := by
      rw [hW]
      exact (uxN6 (by decide +kernel) hI.2.2.2.2.2.2.2.2.2.1)
    have k_xH1 : xH1 W := by
      rw [hW]
      exact (uxH1 (by decide +kernel) hI.2.2.2.2.2.2.2.2.2.2.1)
    have k_xK1 : xK1 W := by
      rw [hW]
      exact (uxK1 (by decide +kernel) hI.2.2.2.2.2.2.2.2.2.2.2.1)
    have k_xC1 : xC1 W := by
      rw [hW]
      exact (uxC1 (by decide +kernel) hI.2.2.2.2.2.2.2.2.2.2.2.2.1)
    have k_xRW : xRW W := by
      rw [hW]
      exact (uxRW (by decide +kernel) hI.2.2.2.2.2.2.2.2.2.2.2.2.2.1)
    have k_xWT : xWT W := by
      rw [hW]
      exact (uxWT (by decide +kernel) hI.2.2.2.2.2.2.2.2.2.2.2.2.2.2.1)
    have k_xCU : xCU W := by
      rw [hW]
      exact (uxCU (by decide +kernel) hI.2.2.2.2.2.2.2.2.2.2.2.2.2.2.2.1)
    have k_xG2 : xG2 W := by
      rw [hW]
      exact (uxG2 (by decide +kernel) hI.2.2.2.2.2.2.2.2.2.2.2.2.2.2.2.2.1)
    have k_xG3 : xG3 W := by
      rw [hW]
      exact (uxG3 (by decide +kernel) hI.2.2.2.2.2.2.2.2.2.2.2.2.2.2.2.2.2.1)
    have k_xG4 : xG4 W := by
      rw [hW]
      exact (uxG4 (by decide +kernel) hI.2.2.2.2.2.2.2.2.2.2.2.2.2.2.2.2.2.2.1)
    have k_xG5 : xG5 W := by
      rw [hW]
      exact (uxG5 (by decide +kernel) hI.2.2.2.2.2.2.2.2.2.2.2.2.2.2.2.2.2.2.2.1)
    have k_xG6 : xG6 W := by
      rw [hW]
      exact (uxG6 (by decide +kernel) hI.2.2.2.2.2.2.2.2.2.2.2.2.2.2.2.2.2.2.2.2.1)
    have k_xS1 : xS1 W := by
      rw [hW]
      exact (uxS1 (by decide +kernel) hI.2.2.2.2.2.2.2.2.2.2.2.2.2.2.2.2.2.2.2.2.2.1)
    have k_xS2 : xS2 W := by
      rw [hW]
      exact (uxS2 (by decide +kernel) hI.2.2.2.2.2.2.2.2.2.2.2.2.2.2.2.2.2.2.2.2.2.2.1)
    have k_xS3 : xS3 W := by
      rw [hW]
      exact (uxS3 (by decide +kernel) hI.2.2.2.2.2.2.2.2.2.2.2.2.2.2.2.2.2.2.2.2.2.2.2.1)
    have k_xS4 : xS4 W := by
      have r : W 4 100 = 2 := by
        have e := m0
        rw [hW, sU_ne (fun z => by omega)]
        omega
      intro h
      rw [r] at h
      omega
    have k_xS5 : xS5 W := by
      have r4_100 : W 4 100 = M 4 100 := by rw [hW, sU_ne (fun z => by omega)]
      have r4_104 : W 4 104 = M 4 104 := by rw [hW, sU_ne (fun z => by omega)]
      have r4_105 : W 4 105 = M 4 105 := by rw [hW, sU_ne (fun z => by omega)]
      have r4_106 : W 4 106 = 3 * ρ 0 + 0 := by rw [hW, sU_at]
      have c3 : ∀ k, W 3 k = M 3 k := fun k => by rw [hW, sU_ne (fun z => by omega)]
      have e3 : W 3 = M 3 := funext c3
      have c94 : ∀ k, W 94 k = M 94 k := fun k => by rw [hW, sU_ne (fun z => by omega)]
      have e94 : W 94 = M 94 := funext c94
      have c100 : ∀ k, W 100 k = M 100 k := fun k => by rw [hW, sU_ne (fun z => by omega)]
      have e100 : W 100 = M 100 := funext c100
      have c104 : ∀ k, W 104 k = M 104 k := fun k => by rw [hW, sU_ne (fun z => by omega)]
      have e104 : W 104 = M 104 := funext c104
      intro h
      obtain ⟨a0, a1, a2⟩ := gx_xS5 hI (by omega)
      rw [r4_104, r4_105, r4_106, e3, e94, e100, e104]
      refine ⟨fun j hj ht => ?_, fun j hj ht => ?_, fun j hj ht => ?_⟩
      · exact a0 j hj (by omega)
      · exact a1 j hj (by omega)
      · by_cases hJ : j = 2
        · subst hJ
          show M 104 5 = M 3 82
          omega
        · exact a2 j hj (by (try rw [h0] at ht); omega)
    have k_xS6 : xS6 W := by
      rw [hW]
      exact (uxS6 (by decide +kernel) hI.2.2.2.2.2.2.2.2.2.2.2.2.2.2.2.2.2.2.2.2.2.2.2.2.2.2.1)
    have k_xS7 : xS7 W := by
      rw [hW]
      exact (uxS7 (by decide +kernel) hI.2.2.2.2.2.2.2.2.2.2.2.2.2.2.2.2.2.2.2.2.2.2.2.2.2.2.2.1)
    have k_xS8 : xS8 W := by
      rw [hW]
      exact (uxS8 (by decide +kernel) hI.2.2.2.2.2.2.2.2.2.2.2.2.2.2.2.2.2.2.2.2.2.2.2.2.2.2.2.2.1)
    have k_xS9 : xS9 W := by
      rw [hW]
      exact (uxS9 (by decide +kernel) hI.2.2.2.2.2.2.2.2.2.2.2.2.2.2.2.2.2.2.2.2.2.2.2.2.2.2.2.2.2.1)
    have k_xSA : xSA W := by
      rw [hW]
      exact (uxSA (by decide +kernel) hI.2.2.2.2.2.2.2.2.2.2.2.2.2.2.2.2.2.2.2.2.2.2.2.2.2.2.2.2.2.2.1)
    have k_xSG : xSG W := by
      rw [hW]
      exact (uxSG (by decide +kernel) hI.2.2.2.2.2.2.2.2.2.2.2.2.2.2.2.2.2.2.2.2.2.2.2.2.2.2.2.2.2.2.2.1)
    have k_xSF : xSF W := by
      rw [hW]
      exact (uxSF (by decide +kernel) hI.2.2.2.2.2.2.2.2.2.2.2.2.2.2.2.2.2.2.2.2.2.2.2.2.2.2.2.2.2.2.2.2.1)
    have k_xSB : xSB W := by
      rw [hW]
      exact (uxSB (by decide +kernel) hI.2.2.2.2.2.2.2.2.2.2.2.2.2.2.2.2.2.2.2.2.2.2.2.2.2.2.2.2.2.2.2.2.2.1)
    have k_xSC : xSC W := by
      rw [hW]
      exact (uxSC (by decide +kernel) hI.2.2.2.2.2.2.2.2.2.2.2.2.2.2.2.2.2.2.2.2.2.2.2.2.2.2.2.2.2.2.2.2.2.2.1)
    have k_xSD : xSD W := by
      rw [hW]
      exact (uxSD (by decide +kernel) hI.2.2.2.2.2.2.2.2.2.2.2.2.2.2.2.2.2.2.2.2.2.2.2.2.2.2.2.2.2.2.2.2.2.2.2.1)
    have k_xSE : xSE W := by
      rw [hW]
      exact (uxSE (by decide +kernel) hI.2.2.2.2.2.2.2.2.2.2.2.2.2.2.2.2.2.2.2.2.2.2.2.2.2.2.2.2.2.2.2.2.2.2.2.2.1)
    have k_xSW : xSW W := by
      rw [hW]
      exact (uxSW (by decide +kernel) hI.2.2.2.2.2.2.2.2.2.2.2.2.2.2.2.2.2.2.2.2.2.2.2.2.2.2.2.2.2.2.2.2.2.2.2.2.2.1)
    have k_xST : xST W := by
      rw [hW]
      exact (uxST (by decide +kernel) hI.2.2.2.2.2.2.2.2.2.2.2.2.2.2.2.2.2.2.2.2.2.2.2.2.2.2.2.2.2.2.2.2.2.2.2.2.2.2.1)
    have k_xSP : xSP W := by
      rw [hW]
      exact (uxSP (by decide +kernel) hI.2.2.2.2.2.2.2.2.2.2.2.2.2.2.2.2.2.2.2.2.2.2.2.2.2.2.2.2.2.2.2.2.2.2.2.2.2.2.2.1)
    have k_xSL : xSL W := by
      rw [hW]
      exact (uxSL (by decide +kernel) hI.2.2.2.2.2.2.2.2.2.2.2.2.2.2.2.2.2.2.2.2.2.2.2.2.2.2.2.2.2.2.2.2.2.2.2.2.2.2.2.2.1)
    have k_xSM : xSM W := by
      rw [hW]
      exact (uxSM (by decide +kernel) hI.2.2.2.2.2.2.2.2.2.2.2.2.2.2.2.2.2.2.2.2.2.2.2.2.2.2.2.2.2.2.2.2.2.2.2.2.2.2.2.2.2.1)
    have k_xSI : xSI W := by
      rw [hW]
      exact (uxSI (by decide +kernel) hI.2.2.2.2.2.2.2.2.2.2.2.2.2.2.2.2.2.2.2.2.2.2.2.2.2.2.2.2.2.2.2.2.2.2.2.2.2.2.2.2.2.2)
    have k_XC : XC W := ⟨k_xS1, k_xS2, k_xS3, k_xS4, k_xS5, k_xS6, k_xS7, k_xS8, k_xS9, k_xSA, k_xSG, k_xSF, k_xSB, k_xSC, k_xSD, k_xSE, k_xSW, k_xST, k_xSP, k_xSL, k_xSM, k_xSI⟩
    have kXB : XB W := ⟨k_xN1, k_xN2, k_xN3, k_xN4, k_xN5, k_xN6, k_xH1, k_xK1, k_xC1, k_xRW, k_xWT, k_xCU, k_xG2, k_xG3, k_xG4, k_xG5, k_xG6, k_XC⟩
    exact ⟨base, k2, k3, kXA, kXB⟩
-- nmWR104
def xr_594 : qRu := (4, [[(-3, 0), (1, 1), (-1, 3)], [(5, 0), (-1, 1)], [(1, 3)], [(2147483648, 0), (1, 2)], [(2147483647, 0), (-1, 2)]], [(4, 106, [(1, 3)])], [(104, [(1, 1)], [(1, 2)])], [], [])
theorem xo_594 : qRok xr_594 := by
  intro ρ M h0 hf hm hI
  have f0 := hf [(-3, 0), (1, 1), (-1, 3)] (by decide)
  have f1 := hf [(5, 0), (-1, 1)] (by decide)
  have f2 := hf [(1, 3)] (by decide)
  have f3 := hf [(2147483648, 0), (1, 2)] (by decide)
  have f4 := hf [(2147483647, 0), (-1, 2)] (by decide)
  simp only [qD, h0] at f0 f1 f2 f3 f4
  have m0 : M 4 106 = 1 * ρ 3 + 0 := hm (4, 106, [(1, 3)]) (by decide)
  have qxS5 := hI.2.2.2.2.2.2.2.2.2.2.2.2.2.2.2.2.2.2.2.2.2.2.2.2.2.1
  refine ⟨ρ, fun _ _ => rfl, fun f h => ?_, ?_⟩
  · exact nomatch h
  · show sI (sU M 104 (1 * ρ 1 + 0 : Int).toNat (1 * ρ 2 + 0))
    obtain ⟨W, hW⟩ : ∃ W, W = (sU M 104 (1 * ρ 1 + 0).toNat (1 * ρ 2 + 0)) := ⟨_, rfl⟩
    rw [← hW]
    have base : sI0 W := by
      rw [hW]
      exact (si_u0 hI.1 (fun r hr => by rw [xt_104 hr]; exact ⟨by show (-2147483648 : Int) ≤ _; omega, by show _ ≤ (2147483647 : Int); omega⟩))
    have k2 : XI2 W := by
      rw [hW]
      exact (xi2_u (sinc_ok (by decide +kernel) _) hI.2.1)
    have k3 : XI3 W := by
      rw [hW]
      exact (xi3_u (sinc_ok (by decide +kernel) _) hI.2.2.1)
    have kXA : XA W := by
      rw [hW]
      exact (uXA (sinc_ok (by decide +kernel) _) hI.2.2.2.1)
    have k_xN1 : xN1 W := by
      rw [hW]
      exact (uxN1 (sinc_ok (by decide +kernel) _) hI.2.2.2.2.1)
    have k_xN2 : xN2 W := by
      rw [hW]
      exact (uxN2 (sinc_ok (by decide +kernel) _) hI.2.2.2.2.2.1)
    have k_xN3 : xN3 W := by
      rw [hW]
      exact (uxN3 (sinc_ok (by decide +kernel) _) hI.2.2.2.2.2.2.1)
    have k_xN4 : xN4 W := by
      rw [hW]
      exact (uxN4 (sinc_ok (by decide +kernel) _) hI.2.2.2.2.2.2.2.1)
    have k_xN5 : xN5 W := by
      rw [hW]
      exact (uxN5 (sinc_ok (by decide +kernel) _) hI.2.2.2.2.2.2.2.2.1)
    have k_xN6 : xN6 W := by
      rw [hW]
      exact (uxN6 (sinc_ok (by decide +kernel) _) hI.2.2.2.2.2.2.2.2.2.1)
    have k_xH1 : xH1 W := by
      rw [hW]
      exact (uxH1 (sinc_ok (by decide +kernel) _) hI.2.2.2.2.2.2.2.2.2.2.1)
    have k_xK1 : xK1 W := by
      rw [hW]
      exact (uxK1 (sinc_ok (by decide +kernel) _) hI.2.2.2.2.2.2.2.2.2.2.2.1)
    have k_xC1 : xC1 W := by
      rw [hW]
      exact (uxC1 (sinc_ok (by decide +kernel) _) hI.2.2.2.2.2.2.2.2.2.2.2.2.1)
    have k_xRW : xRW W := by
      rw [hW]
      exact (uxRW (sinc_ok (by decide +kernel) _) hI.2.2.2.2.2.2.2.2.2.2.2.2.2.1)
    have k_xWT : xWT W := by
      rw [hW]
      exact (uxWT (sinc_ok (by decide +kernel) _) hI.2.2.2.2.2.2.2.2.2.2.2.2.2.2.1)
    have k_xCU : xCU W := by
      rw [hW]
      exact (uxCU (sinc_ok (by decide +kernel) _) hI.2.2.2.2.2.2.2.2.2.2.2.2.2.2.2.1)
    have k_xG2 : xG2 W := by
      rw [hW]
      exact (uxG2 (sinc_ok (by decide +kernel) _) hI.2.2.2.2.2.2.2.2.2.2.2.2.2.2.2.2.1)
    have k_xG3 : xG3 W := by
      rw [hW]
      exact (uxG3 (sinc_ok (by decide +kernel) _) hI.2.2.2.2.2.2.2.2.2.2.2.2.2.2.2.2.2.1)
    have k_xG4 : xG4 W := by
      rw [hW]
      exact (uxG4 (sinc_ok (by decide +kernel) _) hI.2.2.2.2.2.2.2.2.2.2.2.2.2.2.2.2.2.2.1)
    have k_xG5 : xG5 W := by
      rw [hW]
      exact (uxG5 (sinc_ok (by decide +kernel) _) hI.2.2.2.2.2.2.2.2.2.2.2.2.2.2.2.2.2.2.2.1)
    have k_xG6 : xG6 W := by
      rw [hW]
      exact (uxG6 (sinc_ok (by decide +kernel) _) hI.2.2.2.2.2.2.2.2.2.2.2.2.2.2.2.2.2.2.2.2.1)
    have k_xS1 : xS1 W := by
      rw [hW]
      exact (uxS1 (sinc_ok (by decide +kernel) _) hI.2.2.2.2.2.2.2.2.2.2.2.2.2.2.2.2.2.2.2.2.2.1)
    have k_xS2 : xS2 W := by
      rw [hW]
      exact (uxS2 (sinc_ok (by decide +kernel) _) hI.2.2.2.2.2.2.2.2.2.2.2.2.2.2.2.2.2.2.2.2.2.2.1)
    have k_xS3 : xS3 W := by
      rw [hW]
      exact (uxS3 (sinc_ok (by decide +kernel) _) hI.2.2.2.2.2.2.2.2.2.2.2.2.2.2.2.2.2.2.2.2.2.2.2.1)
    have k_xS4 : xS4 W := by
      rw [hW]
      exact (uxS4 (sinc_ok (by decide +kernel) _) hI.2.2.2.2.2.2.2.2.2.2.2.2.2.2.2.2.2.2.2.2.2.2.2.2.1)
    have k_xS5 : xS5 W := by
      have r4_100 : W 4 100 = M 4 100 := by rw [hW, sU_ne (fun z => by omega)]
      have r4_104 : W 4 104 = M 4 104 := by rw [hW, sU_ne (fun z => by omega)]
      have r4_105 : W 4 105 = M 4 105 := by rw [hW, sU_ne (fun z => by omega)]
      have r4_106 : W 4 106 = M 4 106 := by rw [hW, sU_ne (fun z => by omega)]
      have c3 : ∀ k, W 3 k = M 3 k := fun k => by rw [hW, sU_ne (fun z => by omega)]
      have e3 : W 3 = M 3 := funext c3
      have c94 : ∀ k, W 94 k = M 94 k := fun k => by rw [hW, sU_ne (fun z => by omega)]
      have e94 : W 94 = M 94 := funext c94
      have c100 : ∀ k, W 100 k = M 100 k := fun k => by rw [hW, sU_ne (fun z => by omega)]
      have e100 : W 100 = M 100 := funext c100
      have c104 : ∀ k : Nat, k ≠ (1 * ρ 1 + 0).toNat → W 104 k = M 104 k := fun k hk => by rw [hW, sU_ne (fun z => by omega)]
      have a104 : W 104 (1 * ρ 1 + 0).toNat = 1 * ρ 2 + 0 := by rw [hW, sU_at]
      intro h
      rw [r4_100] at h
      obtain ⟨a0, a1, a2⟩ := gx_xS5 hI h
      rw [r4_104, r4_105, r4_106, e3]
      refine ⟨fun j hj ht => ?_, fun j hj ht => ?_, fun j hj ht => ?_⟩
      · rw [e94]
        exact a0 j hj (by omega)
      · rw [e100]
        exact a1 j hj (by omega)
      · rw [c104 _ (by omega)]
        exact a2 j hj (by omega)
    have k_xS6 : xS6 W := by
      rw [hW]
      exact (uxS6 (sinc_ok (by decide +kernel) _) hI.2.2.2.2.2.2.2.2.2.2.2.2.2.2.2.2.2.2.2.2.2.2.2.2.2.2.1)
    have k_xS7 : xS7 W := by
      rw [hW]
      exact (uxS7 (sinc_ok (by decide +kernel) _) hI.2.2.2.2.2.2.2.2.2.2.2.2.2.2.2.2.2.2.2.2.2.2.2.2.2.2.2.1)
    have k_xS8 : xS8 W := by
      rw [hW]
      exact (uxS8 (sinc_ok (by decide +kernel) _) hI.2.2.2.2.2.2.2.2.2.2.2.2.2.2.2.2.2.2.2.2.2.2.2.2.2.2.2.2.1)
    have k_xS9 : xS9 W := by
      rw [hW]
      exact (uxS9 (sinc_ok (by decide +kernel) _) hI.2.2.2.2.2.2.2.2.2.2.2.2.2.2.2.2.2.2.2.2.2.2.2.2.2.2.2.2.2.1)
    have k_xSA : xSA W := by
      rw [hW]
      exact (uxSA (sinc_ok (by decide +kernel) _) hI.2.2.2.2.2.2.2.2.2.2.2.2.2.2.2.2.2.2.2.2.2.2.2.2.2.2.2.2.2.2.1)
    have k_xSG : xSG W := by
      rw [hW]
      exact (uxSG (sinc_ok (by decide +kernel) _) hI.2.2.2.2.2.2.2.2.2.2.2.2.2.2.2.2.2.2.2.2.2.2.2.2.2.2.2.2.2.2.2.1)
    have k_xSF : xSF W := by
      rw [hW]
      exact (uxSF (sinc_ok (by decide +kernel) _) hI.2.2.2.2.2.2.2.2.2.2.2.2.2.2.2.2.2.2.2.2.2.2.2.2.2.2.2.2.2.2.2.2.1)
    have k_xSB : xSB W := by
      rw [hW]
      exact (uxSB (sinc_ok (by decide +kernel) _) hI.2.2.2.2.2.2.2.2.2.2.2.2.2.2.2.2.2.2.2.2.2.2.2.2.2.2.2.2.2.2.2.2.2.1)
    have k_xSC : xSC W := by
      rw [hW]
      exact (uxSC (sinc_ok (by decide +kernel) _) hI.2.2.2.2.2.2.2.2.2.2.2.2.2.2.2.2.2.2.2.2.2.2.2.2.2.2.2.2.2.2.2.2.2.2.1)
    have k_xSD : xSD W := by
      rw [hW]
      exact (uxSD (sinc_ok (by decide +kernel) _) hI.2.2.2.2.2.2.2.2.2.2.2.2.2.2.2.2.2.2.2.2.2.2.2.2.2.2.2.2.2.2.2.2.2.2.2.1)
    have k_xSE : xSE W := by
      rw [hW]
      exact (uxSE (sinc_ok (by decide +kernel) _) hI.2.2.2.2.2.2.2.2.2.2.2.2.2.2.2.2.2.2.2.2.2.2.2.2.2.2.2.2.2.2.2.2.2.2.2.2.1)
    have k_xSW : xSW W := by
      rw [hW]
      exact (uxSW (sinc_ok (by decide +kernel) _) hI.2.2.2.2.2.2.2.2.2.2.2.2.2.2.2.2.2.2.2.2.2.2.2.2.2.2.2.2.2.2.2.2.2.2.2.2.2.1)
    have k_xST : xST W := by
      rw [hW]
      exact (uxST (sinc_ok (by decide +kernel) _) hI.2.2.2.2.2.2.2.2.2.2.2.2.2.2.2.2.2.2.2.2.2.2.2.2.2.2.2.2.2.2.2.2.2.2.2.2.2.2.1)
    have k_xSP : xSP W := by
      rw [hW]
      exact (uxSP (sinc_ok (by decide +kernel) _) hI.2.2.2.2.2.2.2.2.2.2.2.2.2.2.2.2.2.2.2.2.2.2.2.2.2.2.2.2.2.2.2.2.2.2.2.2.2.2.2.1)
    have k_xSL : xSL W := by
      rw [hW]
      exact (uxSL (sinc_ok (by decide +kernel) _) hI.2.2.2.2.2.2.2.2.2.2.2.2.2.2.2.2.2.2.2.2.2.2.2.2.2.2.2.2.2.2.2.2.2.2.2.2.2.2.2.2.1)
    have k_xSM : xSM W := by
      rw [hW]
      exact (uxSM (sinc_ok (by decide +kernel) _) hI.2.2.2.2.2.2.2.2.2.2.2.2.2.2.2.2.2.2.2.2.2.2.2.2.2.2.2.2.2.2.2.2.2.2.2.2.2.2.2.2.2.1)
    have k_xSI : xSI W := by
      rw [hW]
      exact (uxSI (sinc_ok (by decide +kernel) _) hI.2.2.2.2.2.2.2.2.2.2.2.2.2.2.2.2.2.2.2.2.2.2.2.2.2.2.2.2.2.2.2.2.2.2.2.2.2.2.2.2.2.2)
    have k_XC : XC W := ⟨k_xS1, k_xS2, k_xS3, k_xS4, k_xS5, k_xS6, k_xS7, k_xS8, k_xS9, k_xSA, k_xSG, k_xSF, k_xSB, k_xSC, k_xSD, k_xSE, k_xSW, k_xST, k_xSP, k_xSL, k_xSM, k_xSI⟩
    have kXB : XB W := ⟨k_xN1, k_xN2, k_xN3, k_xN4, k_xN5, k_xN6, k_xH1, k_xK1, k_xC1, k_xRW, k_xWT, k_xCU, k_xG2, k_xG3, k_xG4, k_xG5, k_xG6, k_XC⟩
    exact ⟨base, k2, k3, kXA, kXB⟩
-- nmLR104
def xr_595 : qRu := (3, [[(1, 1)], [(2, 0), (-1, 1)], [(2147483648, 0), (1, 2)], [(2147483647, 0), (-1, 2)]], [], [(104, [(1, 1)], [(1, 2)])], [], [])
theorem xo_595 : qRok xr_595 := by
  intro ρ M h0 hf hm hI
  have f0 := hf [(1, 1)] (by decide)
  have f1 := hf [(2, 0), (-1, 1)] (by decide)
  have f2 := hf [(2147483648, 0), (1, 2)] (by decide)
  have f3 := hf [(2147483647, 0), (-1, 2)] (by decide)
  simp only [qD, h0] at f0 f1 f2 f3
  have qxS5 := hI.2.2.2.2.2.2.2.2.2.2.2.2.2.2.2.2.2.2.2.2.2.2.2.2.2.1
  refine ⟨ρ, fun _ _ => rfl, fun f h => ?_, ?_⟩
  · exact nomatch h
  · show sI (sU M 104 (1 * ρ 1 + 0 : Int).toNat (1 * ρ 2 + 0))
    obtain ⟨W, hW⟩ : ∃ W, W = (sU M 104 (1 * ρ 1 + 0).toNat (1 * ρ 2 + 0)) := ⟨_, rfl⟩
    rw [← hW]
    have base : sI0 W := by
      rw [hW]
      exact (si_u0 hI.1 (fun r hr => by rw [xt_104 hr]; exact ⟨by show (-2147483648 : Int) ≤ _; omega, by show _ ≤ (2147483647 : Int); omega⟩))
    have k2 : XI2 W := by
      rw [hW]
      exact (xi2_u (sinc_ok (by decide +kernel) _) hI.2.1)
    have k3 : XI3 W := by
      rw [hW]
      exact (xi3_u (sinc_ok (by decide +kernel) _) hI.2.2.1)
    have kXA : XA W := by
      rw [hW]
      exact (uXA (sinc_ok (by decide +kernel) _) hI.2.2.2.1)
    have k_xN1 : xN1 W := by
      rw [hW]
      exact (uxN1 (sinc_ok (by decide +kernel) _) hI.2.2.2.2.1)
    have k_xN2 : xN2 W := by
      rw [hW]
      exact (uxN2 (sinc_ok (by decide +kernel) _) hI.2.2.2.2.2.1)
    have k_xN3 : xN3 W := by
      rw [hW]
      exact (uxN3 (sinc_ok (by decide +kernel) _) hI.2.2.2.2.2.2.1)
    have k_xN4 : xN4 W := by
      rw [hW]
      exact (uxN4 (sinc_ok (by decide +kernel) _) hI.2.2.2.2.2.2.2.1)
    have k_xN5 : xN5 W := by
      rw [hW]
      exact (uxN5 (sinc_ok (by decide +kernel) _) hI.2.2.2.2.2.2.2.2.1)
    have k_xN6 : xN6 W := by
      rw [hW]
      exact (uxN6 (sinc_ok (by decide +kernel) _) hI.2.2.2.2.2.2.2.2.2.1)
    have k_xH1 : xH1 W := by
      rw [hW]
      exact (uxH1 (sinc_ok (by decide +kernel) _) hI.2.2.2.2.2.2.2.2.2.2.1)
    have k_xK1 : xK1 W := by
      rw [hW]
      exact (uxK1 (sinc_ok (by decide +kernel) _) hI.2.2.2.2.2.2.2.2.2.2.2.1)
    have k_xC1 : xC1 W := by
      rw [hW]
      exact (uxC1 (sinc_ok (by decide +kernel) _) hI.2.2.2.2.2.2.2.2.2.2.2.2.1)
    have k_xRW : xRW W := by
      rw [hW]
      exact (uxRW (sinc_ok (by decide +kernel) _) hI.2.2.2.2.2.2.2.2.2.2.2.2.2.1)
    have k_xWT : xWT W := by
      rw [hW]
      exact (uxWT (sinc_ok (by decide +kernel) _) hI.2.2.2.2.2.2.2.2.2.2.2.2.2.2.1)
    have k_xCU : xCU W := by
      rw [hW]
      exact (uxCU (sinc_ok (by decide +kernel) _) hI.2.2.2.2.2.2.2.2.2.2.2.2.2.2.2.1)
    have k_xG2 : xG2 W := by
      rw [hW]
      exact (uxG2 (sinc_ok (by decide +kernel) _) hI.2.2.2.2.2.2.2.2.2.2.2.2.2.2.2.2.1)
    have k_xG3 : xG3 W := by
      rw [hW]
      exact (uxG3 (sinc_ok (by decide +kernel) _) hI.2.2.2.2.2.2.2.2.2.2.2.2.2.2.2.2.2.1)
    have k_xG4 : xG4 W := by
      rw [hW]
      exact (uxG4 (sinc_ok (by decide +kernel) _) hI.2.2.2.2.2.2.2.2.2.2.2.2.2.2.2.2.2.2.1)
    have k_xG5 : xG5 W := by
      rw [hW]
      exact (uxG5 (sinc_ok (by decide +kernel) _) hI.2.2.2.2.2.2.2.2.2.2.2.2.2.2.2.2.2.2.2.1)
    have k_xG6 : xG6 W := by
      rw [hW]
      exact (uxG6 (sinc_ok (by decide +kernel) _) hI.2.2.2.2.2.2.2.2.2.2.2.2.2.2.2.2.2.2.2.2.1)
    have k_xS1 : xS1 W := by
      rw [hW]
      exact (uxS1 (sinc_ok (by decide +kernel) _) hI.2.2.2.2.2.2.2.2.2.2.2.2.2.2.2.2.2.2.2.2.2.1)
    have k_xS2 : xS2 W := by
      rw [hW]
      exact (uxS2 (sinc_ok (by decide +kernel) _) hI.2.2.2.2.2.2.2.2.2.2.2.2.2.2.2.2.2.2.2.2.2.2.1)
    have k_xS3 : xS3 W := by
      rw [hW]
      exact (uxS3 (sinc_ok (by decide +kernel) _) hI.2.2.2.2.2.2.2.2.2.2.2.2.2.2.2.2.2.2.2.2.2.2.2.1)
    have k_xS4 : xS4 W := by
      rw [hW]
      exact (uxS4 (sinc_ok (by decide +kernel) _) hI.2.2.2.2.2.2.2.2.2.2.2.2.2.2.2.2.2.2.2.2.2.2.2.2.1)
    have k_xS5 : xS5 W := by
      have r4_100 : W 4 100 = M 4 100 := by rw [hW, sU_ne (fun z => by omega)]
      have r4_104 : W 4 104 = M 4 104 := by rw [hW, sU_ne (fun z => by omega)]
      have r4_105 : W 4 105 = M 4 105 := by rw [hW, sU_ne (fun z => by omega)]
      have r4_106 : W 4 106 = M 4 106 := by rw [hW, sU_ne (fun z => by omega)]
      have c3 : ∀ k, W 3 k = M 3 k := fun k => by rw [hW, sU_ne (fun z => by omega)]
      have e3 : W 3 = M 3 := funext c3
      have c94 : ∀ k, W 94 k = M 94 k := fun k => by rw [hW, sU_ne (fun z => by omega)]
      have e94 : W 94 = M 94 := funext c94
      have c100 : ∀ k, W 100 k = M 100 k := fun k => by rw [hW, sU_ne (fun z => by omega)]
      have e100 : W 100 = M 100 := funext c100
      have c104 : ∀ k : Nat, k ≠ (1 * ρ 1 + 0).toNat → W 104 k = M 104 k := fun k hk => by rw [hW, sU_ne (fun z => by omega)]
      have a104 : W 104 (1 * ρ 1 + 0).toNat = 1 * ρ 2 + 0 := by rw [hW, sU_at]
      intro h
      rw [r4_100] at h
      obtain ⟨a0, a1, a2⟩ := gx_xS5 hI h
      rw [r4_104, r4_105, r4_106, e3]
      refine ⟨fun j hj ht => ?_, fun j hj ht => ?_, fun j hj ht => ?_⟩
      · rw [e94]
        exact a0 j hj (by omega)
      · rw [e100]
        exact a1 j hj (by omega)
      · rw [c104 _ (by omega)]
        exact a2 j hj (by omega)
    have k_xS6 : xS6 W := by
      rw [hW]
      exact (uxS6 (sinc_ok (by decide +kernel) _) hI.2.2.2.2.2.2.2.2.2.2.2.2.2.2.2.2.2.2.2.2.2.2.2.2.2.2.1)
    have k_xS7 : xS7 W := by
      rw [hW]
      exact (uxS7 (sinc_ok (by decide +kernel) _) hI.2.2.2.2.2.2.2.2.2.2.2.2.2.2.2.2.2.2.2.2.2.2.2.2.2.2.2.1)
    have k_xS8 : xS8 W := by
      rw [hW]
      exact (uxS8 (sinc_ok (by decide +kernel) _) hI.2.2.2.2.2.2.2.2.2.2.2.2.2.2.2.2.2.2.2.2.2.2.2.2.2.2.2.2.1)
    have k_xS9 : xS9 W := by
      rw [hW]
      exact (uxS9 (sinc_ok (by decide +kernel) _) hI.2.2.2.2.2.2.2.2.2.2.2.2.2.2.2.2.2.2.2.2.2.2.2.2.2.2.2.2.2.1)
    have k_xSA : xSA W := by
      rw [hW]
      exact (uxSA (sinc_ok (by decide +kernel) _) hI.2.2.2.2.2.2.2.2.2.2.2.2.2.2.2.2.2.2.2.2.2.2.2.2.2.2.2.2.2.2.1)
    have k_xSG : xSG W := by
      rw [hW]
      exact (uxSG (sinc_ok (by decide +kernel) _) hI.2.2.2.2.2.2.2.2.2.2.2.2.2.2.2.2.2.2.2.2.2.2.2.2.2.2.2.2.2.2.2.1)
    have k_xSF : xSF W := by
      rw [hW]
      exact (uxSF (sinc_ok (by decide +kernel) _) hI.2.2.2.2.2.2.2.2.2.2.2.2.2.2.2.2.2.2.2.2.2.2.2.2.2.2.2.2.2.2.2.2.1)
    have k_xSB : xSB W := by
      rw [hW]
      exact (uxSB (sinc_ok (by decide +kernel) _) hI.2.2.2.2.2.2.2.2.2.2.2.2.2.2.2.2.2.2.2.2.2.2.2.2.2.2.2.2.2.2.2.2.2.1)
    have k_xSC : xSC W := by
      rw [hW]
      exact (uxSC (sinc_ok (by decide +kernel) _) hI.2.2.2.2.2.2.2.2.2.2.2.2.2.2.2.2.2.2.2.2.2.2.2.2.2.2.2.2.2.2.2.2.2.2.1)
    have k_xSD : xSD W := by
      rw [hW]
      exact (uxSD (sinc_ok (by decide +kernel) _) hI.2.2.2.2.2.2.2.2.2.2.2.2.2.2.2.2.2.2.2.2.2.2.2.2.2.2.2.2.2.2.2.2.2.2.2.1)
    have k_xSE : xSE W := by
      rw [hW]
      exact (uxSE (sinc_ok (by decide +kernel) _) hI.2.2.2.2.2.2.2.2.2.2.2.2.2.2.2.2.2.2.2.2.2.2.2.2.2.2.2.2.2.2.2.2.2.2.2.2.1)
    have k_xSW : xSW W := by
      rw [hW]
      exact (uxSW (sinc_ok (by decide +kernel) _) hI.2.2.2.2.2.2.2.2.2.2.2.2.2.2.2.2.2.2.2.2.2.2.2.2.2.2.2.2.2.2.2.2.2.2.2.2.2.1)
    have k_xST : xST W := by
      rw [hW]
      exact (uxST (sinc_ok (by decide +kernel) _) hI.2.2.2.2.2.2.2.2.2.2.2.2.2.2.2.2.2.2.2.2.2.2.2.2.2.2.2.2.2.2.2.2.2.2.2.2.2.2.1)
    have k_xSP : xSP W := by
      rw [hW]
      exact (uxSP (sinc_ok (by decide +kernel) _) hI.2.2.2.2.2.2.2.2.2.2.2.2.2.2.2.2.2.2.2.2.2.2.2.2.2.2.2.2.2.2.2.2.2.2.2.2.2.2.2.1)
    have k_xSL : xSL W := by
      rw [hW]
      exact (uxSL (sinc_ok (by decide +kernel) _) hI.2.2.2.2.2.2.2.2.2.2.2.2.2.2.2.2.2.2.2.2.2.2.2.2.2.2.2.2.2.2.2.2.2.2.2.2.2.2.2.2.1)
    have k_xSM : xSM W := by
      rw [hW]
      exact (uxSM (sinc_ok (by decide +kernel) _) hI.2.2.2.2.2.2.2.2.2.2.2.2.2.2.2.2.2.2.2.2.2.2.2.2.2.2.2.2.2.2.2.2.2.2.2.2.2.2.2.2.2.1)
    have k_xSI : xSI W := by
      rw [hW]
      exact (uxSI (sinc_ok (by decide +kernel) _) hI.2.2.2.2.2.2.2.2.2.2.2.2.2.2.2.2.2.2.2.2.2.2.2.2.2.2.2.2.2.2.2.2.2.2.2.2.2.2.2.2.2.2)
    have k_XC : XC W := ⟨k_xS1, k_xS2, k_xS3, k_xS4, k_xS5, k_xS6, k_xS7, k_xS8, k_xS9, k_xSA, k_xSG, k_xSF, k_xSB, k_xSC, k_xSD, k_xSE, k_xSW, k_xST, k_xSP, k_xSL, k_xSM, k_xSI⟩
    have kXB : XB W := ⟨k_xN1, k_xN2, k_xN3, k_xN4, k_xN5, k_xN6, k_xH1, k_xK1, k_xC1, k_xRW, k_xWT, k_xCU, k_xG2, k_xG3, k_xG4, k_xG5, k_xG6, k_XC⟩
    exact ⟨base, k2, k3, kXA, kXB⟩
-- nm0R104
def xr_596 : qRu := (3, [[(1, 1)], [(5, 0), (-1, 1)], [(2147483648, 0), (1, 2)], [(2147483647, 0), (-1, 2)]], [(4, 100, [])], [(104, [(1, 1)], [(1, 2)])], [], [])
theorem xo_596 : qRok xr_596 := by
  intro ρ M h0 hf hm hI
  have f0 := hf [(1, 1)] (by decide)
  have f1 := hf [(5, 0), (-1, 1)] (by decide)
  have f2 := hf [(2147483648, 0), (1, 2)] (by decide)
  have f3 := hf [(2147483647, 0), (-1, 2)] (by decide)
  simp only [qD, h0] at f0 f1 f2 f3
  have m0 : M 4 100 = 0 := hm (4, 100, []) (by decide)
  refine ⟨ρ, fun _ _ => rfl, fun f h => ?_, ?_⟩
  · exact nomatch h
  · show sI (sU M 104 (1 * ρ 1 + 0 : Int).toNat (1 * ρ 2 + 0))
    obtain ⟨W, hW⟩ : ∃ W, W = (sU M 104 (1 * ρ 1 + 0).toNat (1 * ρ 2 + 0)) := ⟨_, rfl⟩
    rw [← hW]
    have base : sI0 W := by
      rw [hW]
      exact (si_u0 hI.1 (fun r hr => by rw [xt_104 hr]; exact ⟨by show (-2147483648 : Int) ≤ _; omega, by show _ ≤ (2147483647 : Int); omega⟩))
    have k2 : XI2 W := by
      rw [hW]
      exact (xi2_u (sinc_ok (by decide +kernel) _) hI.2.1)
    have k3 : XI3 W := by
      rw [hW]
      exact (xi3_u (sinc_ok (by decide +kernel) _) hI.2.2.1)
    have kXA : XA W := by
      rw [hW]
      exact (uXA (sinc_ok (by decide +kernel) _) hI.2.2.2.1)
    have k_xN1 : xN1 W := by
      rw [hW]
      exact (uxN1 (sinc_ok (by decide +kernel) _) hI.2.2.2.2.1)
    have k_xN2 : xN2 W := by
      rw [hW]
      exact (uxN2 (sinc_ok (by decide +kernel) _) hI.2.2.2.2.2.1)
    have k_xN3 : xN3 W := by
      rw [hW]
      exact (uxN3 (sinc_ok (by decide +kernel) _) hI.2.2.2.2.2.2.1)
    have k_xN4 : xN4 W := by
      rw [hW]
      exact (uxN4 (sinc_ok (by decide +kernel) _) hI.2.2.2.2.2.2.2.1)
    have k_xN5 : xN5 W := by
      rw [hW]
      exact (uxN5 (sinc_ok (by decide +kernel) _) hI.2.2.2.2.2.2.2.2.1)
    have k_xN6 : xN6 W := by
      rw [hW]
      exact (uxN6 (sinc_ok (by decide +kernel) _) hI.2.2.2.2.2.2.2.2.2.1)
    have k_xH1 : xH1 W := by
      rw [hW]
      exact (uxH1 (sinc_ok (by decide +kernel) _) hI.2.2.2.2.2.2.2.2.2.2.1)
    have k_xK1 : xK1 W := by
      rw [hW]
      exact (uxK1 (sinc_ok (by decide +kernel) _) hI.2.2.2.2.2.2.2.2.2.2.2.1)
    have k_xC1 : xC1 W := by
      rw [hW]
      exact (uxC1 (sinc_ok (by decide +kernel) _) hI.2.2.2.2.2.2.2.2.2.2.2.2.1)
    have k_xRW : xRW W := by
      rw [hW]
      exact (uxRW (sinc_ok (by decide +kernel) _) hI.2.2.2.2.2.2.2.2.2.2.2.2.2.1)
    have k_xWT : xWT W := by
      rw [hW]
      exact (uxWT (sinc_ok (by decide +kernel) _) hI.2.2.2.2.2.2.2.2.2.2.2.2.2.2.1)
    have k_xCU : xCU W := by
      rw [hW]
      exact (uxCU (sinc_ok (by decide +kernel) _) hI.2.2.2.2.2.2.2.2.2.2.2.2.2.2.2.1)
    have k_xG2 : xG2 W := by
      rw [hW]
      exact (uxG2 (sinc_ok (by decide +kernel) _) hI.2.2.2.2.2.2.2.2.2.2.2.2.2.2.2.2.1)
    have k_xG3 : xG3 W := by
      rw [hW]
      exact (uxG3 (sinc_ok (by decide +kernel) _) hI.2.2.2.2.2.2.2.2.2.2.2.2.2.2.2.2.2.1)
    have k_xG4 : xG4 W := by
      rw [hW]
      exact (uxG4 (sinc_ok (by decide +kernel) _) hI.2.2.2.2.2.2.2.2.2.2.2.2.2.2.2.2.2.2.1)
    have k_xG5 : xG5 W := by
      rw [hW]
      exact (uxG5 (sinc_ok (by decide +kernel) _) hI.2.2.2.2.2.2.2.2.2.2.2.2.2.2.2.2.2.2.2.1)
    have k_xG6 : xG6 W := by
      rw [hW]
      exact (uxG6 (sinc_ok (by decide +kernel) _) hI.2.2.2.2.2.2.2.2.2.2.2.2.2.2.2.2.2.2.2.2.1)
    have k_xS1 : xS1 W := by
      rw [hW]
      exact (uxS1 (sinc_ok (by decide +kernel) _) hI.2.2.2.2.2.2.2.2.2.2.2.2.2.2.2.2.2.2.2.2.2.1)
    have k_xS2 : xS2 W := by
      rw [hW]
      exact (uxS2 (sinc_ok (by decide +kernel) _) hI.2.2.2.2.2.2.2.2.2.2.2.2.2.2.2.2.2.2.2.2.2.2.1)
    have k_xS3 : xS3 W := by
      rw [hW]
      exact (uxS3 (sinc_ok (by decide +kernel) _) hI.2.2.2.2.2.2.2.2.2.2.2.2.2.2.2.2.2.2.2.2.2.2.2.1)
    have k_xS4 : xS4 W := by
      rw [hW]
      exact (uxS4 (sinc_ok (by decide +kernel) _) hI.2.2.2.2.2.2.2.2.2.2.2.2.2.2.2.2.2.2.2.2.2.2.2.2.1)
    have k_xS5 : xS5 W := by
      have r : W 4 100 = 0 := by
        have e := m0
        rw [hW, sU_ne (fun z => by omega)]
        omega
      intro h
      rw [r] at h
      omega
    have k_xS6 : xS6 W := by
      rw [hW]
      exact (uxS6 (sinc_ok (by decide +kernel) _) hI.2.2.2.2.2.2.2.2.2.2.2.2.2.2.2.2.2.2.2.2.2.2.2.2.2.2.1)
    have k_xS7 : xS7 W := by
      rw [hW]
      exact (uxS7 (sinc_ok (by decide +kernel) _) hI.2.2.2.2.2.2.2.2.2.2.2.2.2.2.2.2.2.2.2.2.2.2.2.2.2.2.2.1)
    have k_xS8 : xS8 W := by
      rw [hW]
      exact (uxS8 (sinc_ok (by decide +kernel) _) hI.2.2.2.2.2.2.2.2.2.2.2.2.2.2.2.2.2.2.2.2.2.2.2.2.2.2.2.2.1)
    have k_xS9 : xS9 W := by
      rw [hW]
      exact (uxS9 (sinc_ok (by decide +kernel) _) hI.2.2.2.2.2.2.2.2.2.2.2.2.2.2.2.2.2.2.2.2.2.2.2.2.2.2.2.2.2.1)
    have k_xSA : xSA W := by
      rw [hW]
      exact (uxSA (sinc_ok (by decide +kernel) _) hI.2.2.2.2.2.2.2.2.2.2.2.2.2.2.2.2.2.2.2.2.2.2.2.2.2.2.2.2.2.2.1)
    have k_xSG : xSG W := by
      rw [hW]
      exact (uxSG (sinc_ok (by decide +kernel) _) hI.2.2.2.2.2.2.2.2.2.2.2.2.2.2.2.2.2.2.2.2.2.2.2.2.2.2.2.2.2.2.2.1)
    have k_xSF : xSF W := by
      rw [hW]
      exact (uxSF (sinc_ok (by decide +kernel) _) hI.2.2.2.2.2.2.2.2.2.2.2.2.2.2.2.2.2.2.2.2.2.2.2.2.2.2.2.2.2.2.2.2.1)
    have k_xSB : xSB W := by
      rw [hW]
      exact (uxSB (sinc_ok (by decide +kernel) _) hI.2.2.2.2.2.2.2.2.2.2.2.2.2.2.2.2.2.2.2.2.2.2.2.2.2.2.2.2.2.2.2.2.2.1)
    have k_xSC : xSC W := by
      rw [hW]
      exact (uxSC (sinc_ok (by decide +kernel) _) hI.2.2.2.2.2.2.2.2.2.2.2.2.2.2.2.2.2.2.2.2.2.2.2.2.2.2.2.2.2.2.2.2.2.2.1)
    have k_xSD : xSD W := by
      rw [hW]
      exact (uxSD (sinc_ok (by decide +kernel) _) hI.2.2.2.2.2.2.2.2.2.2.2.2.2.2.2.2.2.2.2.2.2.2.2.2.2.2.2.2.2.2.2.2.2.2.2.1)
    have k_xSE : xSE W := by
      rw [hW]
      exact (uxSE (sinc_ok (by decide +kernel) _) hI.2.2.2.2.2.2.2.2.2.2.2.2.2.2.2.2.2.2.2.2.2.2.2.2.2.2.2.2.2.2.2.2.2.2.2.2.1)
    have k_xSW : xSW W := by
      rw [hW]
      exact (uxSW (sinc_ok (by decide +kernel) _) hI.2.2.2.2.2.2.2.2.2.2.2.2.2.2.2.2.2.2.2.2.2.2.2.2.2.2.2.2.2.2.2.2.2.2.2.2.2.1)
    have k_xST : xST W := by
      rw [hW]
      exact (uxST (sinc_ok (by decide +kernel) _) hI.2.2.2.2.2.2.2.2.2.2.2.2.2.2.2.2.2.2.2.2.2.2.2.2.2.2.2.2.2.2.2.2.2.2.2.2.2.2.1)
    have k_xSP : xSP W := by
      rw [hW]
      exact (uxSP (sinc_ok (by decide +kernel) _) hI.2.2.2.2.2.2.2.2.2.2.2.2.2.2.2.2.2.2.2.2.2.2.2.2.2.2.2.2.2.2.2.2.2.2.2.2.2.2.2.1)
    have k_xSL : xSL W := by
      rw [hW]
      exact (uxSL (sinc_ok (by decide +kernel) _) hI.2.2.2.2.2.2.2.2.2.2.2.2.2.2.2.2.2.2.2.2.2.2.2.2.2.2.2.2.2.2.2.2.2.2.2.2.2.2.2.2.1)
    have k_xSM : xSM W := by
      rw [hW]
      exact (uxSM (sinc_ok (by decide +kernel) _) hI.2.2.2.2.2.2.2.2.2.2.2.2.2.2.2.2.2.2.2.2.2.2.2.2.2.2.2.2.2.2.2.2.2.2.2.2.2.2.2.2.2.1)
    have k_xSI : xSI W := by
      rw [hW]
      exact (uxSI (sinc_ok (by decide +kernel) _) hI.2.2.2.2.2.2.2.2.2.2.2.2.2.2.2.2.2.2.2.2.2.2.2.2.2.2.2.2.2.2.2.2.2.2.2.2.2.2.2.2.2.2)
    have k_XC : XC W := ⟨k_xS1, k_xS2, k_xS3, k_xS4, k_xS5, k_xS6, k_xS7, k_xS8, k_xS9, k_xSA, k_xSG, k_xSF, k_xSB, k_xSC, k_xSD, k_xSE, k_xSW, k_xST, k_xSP, k_xSL, k_xSM, k_xSI⟩
    have kXB : XB W := ⟨k_xN1, k_xN2, k_xN3, k_xN4, k_xN5, k_xN6, k_xH1, k_xK1, k_xC1, k_xRW, k_xWT, k_xCU, k_xG2, k_xG3, k_xG4, k_xG5, k_xG6, k_XC⟩
    exact ⟨base, k2, k3, kXA, kXB⟩
-- g290_0
def xr_597 : qRu := (1, [], [], [], [(4, 290, [])], [])
theorem xo_597 : qRok xr_597 := by
  intro ρ M h0 hf hm hI
  refine ⟨ρ, fun _ _ => rfl, fun f h => ?_, ?_⟩
  · exact nomatch h
  · show sI (sU M 4 290 (0))
    obtain ⟨W, hW⟩ : ∃ W, W = (sU M 4 290 (0)) := ⟨_, rfl⟩
    rw [← hW]
    have base : sI0 W := by
      rw [hW]
      exact (si_u0 hI.1 (fun r hr => by cases hr))
    have k2 : XI2 W := by
      rw [hW]
      exact (xi2_u (by decide +kernel) hI.2.1)
    have k3 : XI3 W := by
      rw [hW]
      exact (xi3_u (by decide +kernel) hI.2.2.1)
    have kXA : XA W := by
      rw [hW]
      exact (uXA (by decide +kernel) hI.2.2.2.1)
    have k_xN1 : xN1 W := by
      rw [hW]
      exact (uxN1 (by decide +kernel) hI.2.2.2.2.1)
    have k_xN2 : xN2 W := by
      rw [hW]
      exact (uxN2 (by decide +kernel) hI.2.2.2.2.2.1)
    have k_xN3 : xN3 W := by
      rw [hW]
      exact (uxN3 (by decide +kernel) hI.2.2.2.2.2.2.1)
    have k_xN4 : xN4 W := by
      rw [hW]
      exact (uxN4 (by decide +kernel) hI.2.2.2.2.2.2.2.1)
    have k_xN5 : xN5 W := by
      rw [hW]
      exact (uxN5 (by decide +kernel) hI.2.2.2.2.2.2.2.2.1)
    have k_xN6 : xN6 W := by
      rw [hW]
      exact (uxN6 (by decide +kernel) hI.2.2.2.2.2.2.2.2.2.1)
    have k_xH1 : xH1 W := by
      rw [hW]
      exact (uxH1 (by decide +kernel) hI.2.2.2.2.2.2.2.2.2.2.1)
    have k_xK1 : xK1 W := by
      rw [hW]
      exact (uxK1 (by decide +kernel) hI.2.2.2.2.2.2.2.2.2.2.2.1)
    have k_xC1 : xC1 W := by
      rw [hW]
      exact (uxC1 (by decide +kernel) hI.2.2.2.2.2.2.2.2.2.2.2.2.1)
    have k_xRW : xRW W := by
      rw [hW]
      exact (uxRW (by decide +kernel) hI.2.2.2.2.2.2.2.2.2.2.2.2.2.1)
    have k_xWT : xWT W := by
      rw [hW]
      exact (uxWT (by decide +kernel) hI.2.2.2.2.2.2.2.2.2.2.2.2.2.2.1)
    have k_xCU : xCU W := by
      rw [hW]
      exact (uxCU (by decide +kernel) hI.2.2.2.2.2.2.2.2.2.2.2.2.2.2.2.1)
    have k_xG2 : xG2 W := by
      rw [hW]
      exact (uxG2 (by decide +kernel) hI.2.2.2.2.2.2.2.2.2.2.2.2.2.2.2.2.1)
    have k_xG3 : xG3 W := by
      rw [hW]
      exact (uxG3 (by decide +kernel) hI.2.2.2.2.2.2.2.2.2.2.2.2.2.2.2.2.2.1)
    have k_xG4 : xG4 W := by
      rw [hW]
      exact (uxG4 (by decide +kernel) hI.2.2.2.2.2.2.2.2.2.2.2.2.2.2.2.2.2.2.1)
    have k_xG5 : xG5 W := by
      rw [hW]
      exact (uxG5 (by decide +kernel) hI.2.2.2.2.2.2.2.2.2.2.2.2.2.2.2.2.2.2.2.1)
    have k_xG6 : xG6 W := by
      rw [hW]
      exact (uxG6 (by decide +kernel) hI.2.2.2.2.2.2.2.2.2.2.2.2.2.2.2.2.2.2.2.2.1)
    have k_xS1 : xS1 W := by
      rw [hW]
      exact (uxS1 (by decide +kernel) hI.2.2.2.2.2.2.2.2.2.2.2.2.2.2.2.2.2.2.2.2.2.1)
    have k_xS2 : xS2 W := by
      rw [hW]
      exact (uxS2 (by decide +kernel) hI.2.2.2.2.2.2.2.2.2.2.2.2.2.2.2.2.2.2.2.2.2.2.1)
    have k_xS3 : xS3 W := by
      rw [hW]
      exact (uxS3 (by decide +kernel) hI.2.2.2.2.2.2.2.2.2.2.2.2.2.2.2.2.2.2.2.2.2.2.2.1)
    have k_xS4 : xS4 W := by
      rw [hW]
      exact (uxS4 (by decide +kernel) hI.2.2.2.2.2.2.2.2.2.2.2.2.2.2.2.2.2.2.2.2.2.2.2.2.1)
    have k_xS5 : xS5 W := by
      rw [hW]
      exact (uxS5 (by decide +kernel) hI.2.2.2.2.2.2.2.2.2.2.2.2.2.2.2.2.2.2.2.2.2.2.2.2.2.1)
    have k_xS6 : xS6 W := by
      rw [hW]
      exact (uxS6 (by decide +kernel) hI.2.2.2.2.2.2.2.2.2.2.2.2.2.2.2.2.2.2.2.2.2.2.2.2.2.2.1)
    have k_xS7 : xS7 W := by
      rw [hW]
      exact (uxS7 (by decide +kernel) hI.2.2.2.2.2.2.2.2.2.2.2.2.2.2.2.2.2.2.2.2.2.2.2.2.2.2.2.1)
    have k_xS8 : xS8 W := by
      rw [hW]
      exact (uxS8 (by decide +kernel) hI.2.2.2.2.2.2.2.2.2.2.2.2.2.2.2.2.2.2.2.2.2.2.2.2.2.2.2.2.1)
    have k_xS9 : xS9 W := by
      rw [hW]
      exact (uxS9 (by decide +kernel) hI.2.2.2.2.2.2.2.2.2.2.2.2.2.2.2.2.2.2.2.2.2.2.2.2.2.2.2.2.2.1)
    have k_xSA : xSA W := by
      rw [hW]
      exact (uxSA (by decide +kernel) hI.2.2.2.2.2.2.2.2.2.2.2.2.2.2.2.2.2.2.2.2.2.2.2.2.2.2.2.2.2.2.1)
    have k_xSG : xSG W := by
      rw [hW]
      exact (uxSG (by decide +kernel) hI.2.2.2.2.2.2.2.2.2.2.2.2.2.2.2.2.2.2.2.2.2.2.2.2.2.2.2.2.2.2.2.1)
    have k_xSF : xSF W := by
      rw [hW]
      exact (uxSF (by decide +kernel) hI.2.2.2.2.2.2.2.2.2.2.2.2.2.2.2.2.2.2.2.2.2.2.2.2.2.2.2.2.2.2.2.2.1)
    have k_xSB : xSB W := by
      rw [hW]
      exact (uxSB (by decide +kernel) hI.2.2.2.2.2.2.2.2.2.2.2.2.2.2.2.2.2.2.2.2.2.2.2.2.2.2.2.2.2.2.2.2.2.1)
    have k_xSC : xSC W := by
      rw [hW]
      exact (uxSC (by decide +kernel) hI.2.2.2.2.2.2.2.2.2.2.2.2.2.2.2.2.2.2.2.2.2.2.2.2.2.2.2.2.2.2.2.2.2.2.1)
    have k_xSD : xSD W := by
      rw [hW]
      exact (uxSD (by decide +kernel) hI.2.2.2.2.2.2.2.2.2.2.2.2.2.2.2.2.2.2.2.2.2.2.2.2.2.2.2.2.2.2.2.2.2.2.2.1)
    have k_xSE : xSE W := by
      rw [hW]
      exact (uxSE (by decide +kernel) hI.2.2.2.2.2.2.2.2.2.2.2.2.2.2.2.2.2.2.2.2.2.2.2.2.2.2.2.2.2.2.2.2.2.2.2.2.1)
    have k_xSW : xSW W := by
      rw [hW]
      exact (uxSW (by decide +kernel) hI.2.2.2.2.2.2.2.2.2.2.2.2.2.2.2.2.2.2.2.2.2.2.2.2.2.2.2.2.2.2.2.2.2.2.2.2.2.1)
    have k_xST : xST W := by
      rw [hW]
      exact (uxST (by decide +kernel) hI.2.2.2.2.2.2.2.2.2.2.2.2.2.2.2.2.2.2.2.2.2.2.2.2.2.2.2.2.2.2.2.2.2.2.2.2.2.2.1)
    have k_xSP : xSP W := by
      rw [hW]
      exact (uxSP (by decide +kernel) hI.2.2.2.2.2.2.2.2.2.2.2.2.2.2.2.2.2.2.2.2.2.2.2.2.2.2.2.2.2.2.2.2.2.2.2.2.2.2.2.1)
    have k_xSL : xSL W := by
      rw [hW]
      exact (uxSL (by decide +kernel) hI.2.2.2.2.2.2.2.2.2.2.2.2.2.2.2.2.2.2.2.2.2.2.2.2.2.2.2.2.2.2.2.2.2.2.2.2.2.2.2.2.1)
    have k_xSM : xSM W := by
      rw [hW]
      exact (uxSM (by decide +kernel) hI.2.2.2.2.2.2.2.2.2.2.2.2.2.2.2.2.2.2.2.2.2.2.2.2.2.2.2.2.2.2.2.2.2.2.2.2.2.2.2.2.2.1)
    have k_xSI : xSI W := by
      rw [hW]
      exact (uxSI (by decide +kernel) hI.2.2.2.2.2.2.2.2.2.2.2.2.2.2.2.2.2.2.2.2.2.2.2.2.2.2.2.2.2.2.2.2.2.2.2.2.2.2.2.2.2.2)
    have k_XC : XC W := ⟨k_xS1, k_xS2, k_xS3, k_xS4, k_xS5, k_xS6, k_xS7, k_xS8, k_xS9, k_xSA, k_xSG, k_xSF, k_xSB, k_xSC, k_xSD, k_xSE, k_xSW, k_xST, k_xSP, k_xSL, k_xSM, k_xSI⟩
    have kXB : XB W := ⟨k_xN1, k_xN2, k_xN3, k_xN4, k_xN5, k_xN6, k_xH1, k_xK1, k_xC1, k_xRW, k_xWT, k_xCU, k_xG2, k_xG3, k_xG4, k_xG5, k_xG6, k_XC⟩
    exact ⟨base, k2, k3, kXA, kXB⟩
-- g290_1
def xr_598 : qRu := (1, [], [], [], [(4, 290, [(1, 0)])], [])
theorem xo_598 : qRok xr_598 := by
  intro ρ M h0 hf hm hI
  refine ⟨ρ, fun _ _ => rfl, fun f h => ?_, ?_⟩
  · exact nomatch h
  · show sI (sU M 4 290 (1 * ρ 0 + 0))
    obtain ⟨W, hW⟩ : ∃ W, W = (sU M 4 290 (1 * ρ 0 + 0)) := ⟨_, rfl⟩
    rw [← hW]
    have base : sI0 W := by
      rw [hW]
      exact (si_u0 hI.1 (fun r hr => by cases hr))
    have k2 : XI2 W := by
      rw [hW]
      exact (xi2_u (by decide +kernel) hI.2.1)
    have k3 : XI3 W := by
      rw [hW]
      exact (xi3_u (by decide +kernel) hI.2.2.1)
    have kXA : XA W := by
      rw [hW]
      exact (uXA (by decide +kernel) hI.2.2.2.1)
    have k_xN1 : xN1 W := by
      rw [hW]
      exact (uxN1 (by decide +kernel) hI.2.2.2.2.1)
    have k_xN2 : xN2 W := by
      rw [hW]
      exact (uxN2 (by decide +kernel) hI.2.2.2.2.2.1)
    have k_xN3 : xN3 W := by
      rw [hW]
      exact (uxN3 (by decide +kernel) hI.2.2.2.2.2.2.1)
    have k_xN4 : xN4 W := by
      rw [hW]
      exact (uxN4 (by decide +kernel) hI.2.2.2.2.2.2.2.1)
    have k_xN5 : xN5 W := by
      rw [hW]
      exact (uxN5 (by decide +kernel) hI.2.2.2.2.2.2.2.2.1)
    have k_xN6 : xN6 W := by
      rw [hW]
      exact (uxN6 (by decide +kernel) hI.2.2.2.2.2.2.2.2.2.1)
    have k_xH1 : xH1 W := by
      rw [hW]
      exact (uxH1 (by decide +kernel) hI.2.2.2.2.2.2.2.2.2.2.1)
    have k_xK1 : xK1 W := by
      rw [hW]
      exact (uxK1 (by decide +kernel) hI.2.2.2.2.2.2.2.2.2.2.2.1)
    have k_xC1 : xC1 W := by
      rw [hW]
      exact (uxC1 (by decide +kernel) hI.2.2.2.2.2.2.2.2.2.2.2.2.1)
    have k_xRW : xRW W := by
      rw [hW]
      exact (uxRW (by decide +kernel) hI.2.2.2.2.2.2.2.2.2.2.2.2.2.1)
    have k_xWT : xWT W := by
      rw [hW]
      exact (uxWT (by decide +kernel) hI.2.2.2.2.2.2.2.2.2.2.2.2.2.2.1)
    have k_xCU : xCU W := by
      rw [hW]
      exact (uxCU (by decide +kernel) hI.2.2.2.2.2.2.2.2.2.2.2.2.2.2.2.1)
    have k_xG2 : xG2 W := by
      rw [hW]
      exact (uxG2 (by decide +kernel) hI.2.2.2.2.2.2.2.2.2.2.2.2.2.2.2.2.1)
    have k_xG3 : xG3 W := by
      rw [hW]
      exact (uxG3 (by decide +kernel) hI.2.2.2.2.2.2.2.2.2.2.2.2.2.2.2.2.2.1)
    have k_xG4 : xG4 W := by
      rw [hW]
      exact (uxG4 (by decide +kernel) hI.2.2.2.2.2.2.2.2.2.2.2.2.2.2.2.2.2.2.1)
    have k_xG5 : xG5 W := by
      rw [hW]
      exact (uxG5 (by decide +kernel) hI.2.2.2.2.2.2.2.2.2.2.2.2.2.2.2.2.2.2.2.1)
    have k_xG6 : xG6 W := by
      rw [hW]
      exact (uxG6 (by decide +kernel) hI.2.2.2.2.2.2.2.2.2.2.2.2.2.2.2.2.2.2.2.2.1)
    have k_xS1 : xS1 W := by
      rw [hW]
      exact (uxS1 (by decide +kernel) hI.2.2.2.2.2.2.2.2.2.2.2.2.2.2.2.2.2.2.2.2.2.1)
    have k_xS2 : xS2 W := by
      rw [hW]
      exact (uxS2 (by decide +kernel) hI.2.2.2.2.2.2.2.2.2.2.2.2.2.2.2.2.2.2.2.2.2.2.1)
    have k_xS3 : xS3 W := by
      rw [hW]
      exact (uxS3 (by decide +kernel) hI.2.2.2.2.2.2.2.2.2.2.2.2.2.2.2.2.2.2.2.2.2.2.2.1)
    have k_xS4 : xS4 W := by
      rw [hW]
      exact (uxS4 (by decide +kernel) hI.2.2.2.2.2.2.2.2.2.2.2.2.2.2.2.2.2.2.2.2.2.2.2.2.1)
    have k_xS5 : xS5 W := by
      rw [hW]
      exact (uxS5 (by decide +kernel) hI.2.2.2.2.2.2.2.2.2.2.2.2.2.2.2.2.2.2.2.2.2.2.2.2.2.1)
    have k_xS6 : xS6 W := by
      rw [hW]
      exact (uxS6 (by decide +kernel) hI.2.2.2.2.2.2.2.2.2.2.2.2.2.2.2.2.2.2.2.2.2.2.2.2.2.2.1)
    have k_xS7 : xS7 W := by
      rw [hW]
      exact (uxS7 (by decide +kernel) hI.2.2.2.2.2.2.2.2.2.2.2.2.2.2.2.2.2.2.2.2.2.2.2.2.2.2.2.1)
    have k_xS8 : xS8 W := by
      rw [hW]
      exact (uxS8 (by decide +kernel) hI.2.2.2.2.2.2.2.2.2.2.2.2.2.2.2.2.2.2.2.2.2.2.2.2.2.2.2.2.1)
    have k_xS9 : xS9 W := by
      rw [hW]
      exact (uxS9 (by decide +kernel) hI.2.2.2.2.2.2.2.2.2.2.2.2.2.2.2.2.2.2.2.2.2.2.2.2.2.2.2.2.2.1)
    have k_xSA : xSA W := by
      rw [hW]
      exact (uxSA (by decide +kernel) hI.2.2.2.2.2.2.2.2.2.2.2.2.2.2.2.2.2.2.2.2.2.2.2.2.2.2.2.2.2.2.1)
    have k_xSG : xSG W := by
      rw [hW]
      exact (uxSG (by decide +kernel) hI.2.2.2.2.2.2.2.2.2.2.2.2.2.2.2.2.2.2.2.2.2.2.2.2.2.2.2.2.2.2.2.1)
    have k_xSF : xSF W := by
      rw [hW]
      exact (uxSF (by decide +kernel) hI.2.2.2.2.2.2.2.2.2.2.2.2.2.2.2.2.2.2.2.2.2.2.2.2.2.2.2.2.2.2.2.2.1)
    have k_xSB : xSB W := by
      rw [hW]
      exact (uxSB (by decide +kernel) hI.2.2.2.2.2.2.2.2.2.2.2.2.2.2.2.2.2.2.2.2.2.2.2.2.2.2.2.2.2.2.2.2.2.1)
    have k_xSC : xSC W := by
      rw [hW]
      exact (uxSC (by decide +kernel) hI.2.2.2.2.2.2.2.2.2.2.2.2.2.2.2.2.2.2.2.2.2.2.2.2.2.2.2.2.2.2.2.2.2.2.1)
    have k_xSD : xSD W := by
      rw [hW]
      exact (uxSD (by decide +kernel) hI.2.2.2.2.2.2.2.2.2.2.2.2.2.2.2.2.2.2.2.2.2.2.2.2.2.2.2.2.2.2.2.2.2.2.2.1)
    have k_xSE : xSE W := by
      rw [hW]
      exact (uxSE (by decide +kernel) hI.2.2.2.2.2.2.2.2.2.2.2.2.2.2.2.2.2.2.2.2.2.2.2.2.2.2.2.2.2.2.2.2.2.2.2.2.1)
    have k_xSW : xSW W := by
      rw [hW]
      exact (uxSW (by decide +kernel) hI.2.2.2.2.2.2.2.2.2.2.2.2.2.2.2.2.2.2.2.2.2.2.2.2.2.2.2.2.2.2.2.2.2.2.2.2.2.1)
    have k_xST : xST W := by
      rw [hW]
      exact (uxST (by decide +kernel) hI.2.2.2.2.2.2.2.2.2.2.2.2.2.2.2.2.2.2.2.2.2.2.2.2.2.2.2.2.2.2.2.2.2.2.2.2.2.2.1)
    have k_xSP : xSP W := by
      rw [hW]
      exact (uxSP (by decide +kernel) hI.2.2.2.2.2.2.2.2.2.2.2.2.2.2.2.2.2.2.2.2.2.2.2.2.2.2.2.2.2.2.2.2.2.2.2.2.2.2.2.1)
    have k_xSL : xSL W := by
      rw [hW]
      exact (uxSL (by decide +kernel) hI.2.2.2.2.2.2.2.2.2.2.2.2.2.2.2.2.2.2.2.2.2.2.2.2.2.2.2.2.2.2.2.2.2.2.2.2.2.2.2.2.1)
    have k_xSM : xSM W := by
      rw [hW]
      exact (uxSM (by decide +kernel) hI.2.2.2.2.2.2.2.2.2.2.2.2.2.2.2.2.2.2.2.2.2.2.2.2.2.2.2.2.2.2.2.2.2.2.2.2.2.2.2.2.2.1)
    have k_xSI : xSI W := by
      rw [hW]
      exact (uxSI (by decide +kernel) hI.2.2.2.2.2.2.2.2.2.2.2.2.2.2.2.2.2.2.2.2.2.2.2.2.2.2.2.2.2.2.2.2.2.2.2.2.2.2.2.2.2.2)
    have k_XC : XC W := ⟨k_xS1, k_xS2, k_xS3, k_xS4, k_xS5, k_xS6, k_xS7, k_xS8, k_xS9, k_xSA, k_xSG, k_xSF, k_xSB, k_xSC, k_xSD, k_xSE, k_xSW, k_xST, k_xSP, k_xSL, k_xSM, k_xSI⟩
    have kXB : XB W := ⟨k_xN1, k_xN2, k_xN3, k_xN4, k_xN5, k_xN6, k_xH1, k_xK1, k_xC1, k_xRW, k_xWT, k_xCU, k_xG2, k_xG3, k_xG4, k_xG5, k_xG6, k_XC⟩
    exact ⟨base, k2, k3, kXA, kXB⟩
-- verOff
def xr_599 : qRu := (1, [], [], [], [(4, 200, [])], [])
theorem xo_599 : qRok xr_599 := by
  intro ρ M h0 hf hm hI
  refine ⟨ρ, fun _ _ => rfl, fun f h => ?_, ?_⟩
  · exact nomatch h
  · show sI (sU M 4 200 (0))
    obtain ⟨W, hW⟩ : ∃ W, W = (sU M 4 200 (0)) := ⟨_, rfl⟩
    rw [← hW]
    have base : sI0 W := by
      rw [hW]
      exact (si_u0 hI.1 (fun r hr => by cases hr))
    have k2 : XI2 W := by
      rw [hW]
      exact (xi2_u (by decide +kernel) hI.2.1)
    have k3 : XI3 W := by
      rw [hW]
      exact (xi3_u (by decide +kernel) hI.2.2.1)
    have kXA : XA W := by
      rw [hW]
      exact (uXA (by decide +kernel) hI.2.2.2.1)
    have k_xN1 : xN1 W := by
      rw [hW]
      exact (uxN1 (by decide +kernel) hI.2.2.2.2.1)
    have k_xN2 : xN2 W := by
      rw [hW]
      exact (uxN2 (by decide +kernel) hI.2.2.2.2.2.1)
    have k_xN3 : xN3 W := by
      rw [hW]
      exact (uxN3 (by decide +kernel) hI.2.2.2.2.2.2.1)
    have k_xN4 : xN4 W := by
      rw [hW]
      exact (uxN4 (by decide +kernel) hI.2.2.2.2.2.2.2.1)
    have k_xN5 : xN5 W := by
      rw [hW]
      exact (uxN5 (by decide +kernel) hI.2.2.2.2.2.2.2.2.1)
    have k_xN6 : xN6 W := by
      rw [hW]
      exact (uxN6 (by decide +kernel) hI.2.2.2.2.2.2.2.2.2.1)
    have k_xH1 : xH1 W := by
      rw [hW]
      exact (uxH1 (by decide +kernel) hI.2.2.2.2.2.2.2.2.2.2.1)
    have k_xK1 : xK1 W := by
      rw [hW]
      exact (uxK1 (by decide +kernel) hI.2.2.2.2.2.2.2.2.2.2.2.1)
    have k_xC1 : xC1 W := by
      rw [hW]
      exact (uxC1 (by decide +kernel) hI.2.2.2.2.2.2.2.2.2.2.2.2.1)
    have k_xRW : xRW W := by
      rw [hW]
      exact (uxRW (by decide +kernel) hI.2.2.2.2.2.2.2.2.2.2.2.2.2.1)
    have k_xWT : xWT W := by
      rw [hW]
      exact (uxWT (by decide +kernel) hI.2.2.2.2.2.2.2.2.2.2.2.2.2.2.1)
    have k_xCU : xCU W := by
      rw [hW]
      exact (uxCU (by decide +kernel) hI.2.2.2.2.2.2.2.2.2.2.2.2.2.2.2.1)
    have k_xG2 : xG2 W := by
      rw [hW]
      exact (uxG2 (by decide +kernel) hI.2.2.2.2.2.2.2.2.2.2.2.2.2.2.2.2.1)
    have k_xG3 : xG3 W := by
      rw [hW]
      exact (uxG3 (by decide +kernel) hI.2.2.2.2.2.2.2.2.2.2.2.2.2.2.2.2.2.1)
    have k_xG4 : xG4 W := by
      rw [hW]
      exact (uxG4 (by decide +kernel) hI.2.2.2.2.2.2.2.2.2.2.2.2.2.2.2.2.2.2.1)
    have k_xG5 : xG5 W := by
      rw [hW]
      exact (uxG5 (by decide +kernel) hI.2.2.2.2.2.2.2.2.2.2.2.2.2.2.2.2.2.2.2.1)
    have k_xG6 : xG6 W := by
      rw [hW]
      exact (uxG6 (by decide +kernel) hI.2.2.2.2.2.2.2.2.2.2.2.2.2.2.2.2.2.2.2.2.1)
    have k_xS1 : xS1 W := by
      rw [hW]
      exact (uxS1 (by decide +kernel) hI.2.2.2.2.2.2.2.2.2.2.2.2.2.2.2.2.2.2.2.2.2.1)
    have k_xS2 : xS2 W := by
      rw [hW]
      exact (uxS2 (by decide +kernel) hI.2.2.2.2.2.2.2.2.2.2.2.2.2.2.2.2.2.2.2.2.2.2.1)
    have k_xS3 : xS3 W := by
      rw [hW]
      exact (uxS3 (by decide +kernel) hI.2.2.2.2.2.2.2.2.2.2.2.2.2.2.2.2.2.2.2.2.2.2.2.1)
    have k_xS4 : xS4 W := by
      rw [hW]
      exact (uxS4 (by decide +kernel) hI.2.2.2.2.2.2.2.2.2.2.2.2.2.2.2.2.2.2.2.2.2.2.2.2.1)
    have k_xS5 : xS5 W := by
      rw [hW]
      exact (uxS5 (by decide +kernel) hI.2.2.2.2.2.2.2.2.2.2.2.2.2.2.2.2.2.2.2.2.2.2.2.2.2.1)
    have k_xS6 : xS6 W := by
      rw [hW]
      exact (uxS6 (by decide +kernel) hI.2.2.2.2.2.2.2.2.2.2.2.2.2.2.2.2.2.2.2.2.2.2.2.2.2.2.1)
    have k_xS7 : xS7 W := by
      have r : W 4 200 = 0 := by rw [hW, sU_at]
      intro h
      rw [r] at h
      omega
    have k_xS8 : xS8 W := by
      rw [hW]
      exact (uxS8 (by decide +kernel) hI.2.2.2.2.2.2.2.2.2.2.2.2.2.2.2.2.2.2.2.2.2.2.2.2.2.2.2.2.1)
    have k_xS9 : xS9 W := by
      rw [hW]
      exact (uxS9 (by decide +kernel) hI.2.2.2.2.2.2.2.2.2.2.2.2.2.2.2.2.2.2.2.2.2.2.2.2.2.2.2.2.2.1)
    have k_xSA : xSA W := by
      rw [hW]
      exact (uxSA (by decide +kernel) hI.2.2.2.2.2.2.2.2.2.2.2.2.2.2.2.2.2.2.2.2.2.2.2.2.2.2.2.2.2.2.1)
    have k_xSG : xSG W := by
      rw [hW]
      exact (uxSG (by decide +kernel) hI.2.2.2.2.2.2.2.2.2.2.2.2.2.2.2.2.2.2.2.2.2.2.2.2.2.2.2.2.2.2.2.1)
    have k_xSF : xSF W := by
      rw [hW]
      exact (uxSF (by decide +kernel) hI.2.2.2.2.2.2.2.2.2.2.2.2.2.2.2.2.2.2.2.2.2.2.2.2.2.2.2.2.2.2.2.2.1)
    have k_xSB : xSB W := by
      rw [hW]
      exact (uxSB (by decide +kernel) hI.2.2.2.2.2.2.2.2.2.2.2.2.2.2.2.2.2.2.2.2.2.2.2.2.2.2.2.2.2.2.2.2.2.1)
    have k_xSC : xSC W := by
      rw [hW]
      exact (uxSC (by decide +kernel) hI.2.2.2.2.2.2.2.2.2.2.2.2.2.2.2.2.2.2.2.2.2.2.2.2.2.2.2.2.2.2.2.2.2.2.1)
    have k_xSD : xSD W := by
      rw [hW]
      exact (uxSD (by decide +kernel) hI.2.2.2.2.2.2.2.2.2.2.2.2.2.2.2.2.2.2.2.2.2.2.2.2.2.2.2.2.2.2.2.2.2.2.2.1)
    have k_xSE : xSE W := by
      rw [hW]
      exact (uxSE (by decide +kernel) hI.2.2.2.2.2.2.2.2.2.2.2.2.2.2.2.2.2.2.2.2.2.2.2.2.2.2.2.2.2.2.2.2.2.2.2.2.1)
    have k_xSW : xSW W := by
      rw [hW]
      exact (uxSW (by decide +kernel) hI.2.2.2.2.2.2.2.2.2.2.2.2.2.2.2.2.2.2.2.2.2.2.2.2.2.2.2.2.2.2.2.2.2.2.2.2.2.1)
    have k_xST : xST W := by
      rw [hW]
      exact (uxST (by decide +kernel) hI.2.2.2.2.2.2.2.2.2.2.2.2.2.2.2.2.2.2.2.2.2.2.2.2.2.2.2.2.2.2.2.2.2.2.2.2.2.2.1)
    have k_xSP : xSP W := by
      rw [hW]
      exact (uxSP (by decide +kernel) hI.2.2.2.2.2.2.2.2.2.2.2.2.2.2.2.2.2.2.2.2.2.2.2.2.2.2.2.2.2.2.2.2.2.2.2.2.2.2.2.1)
    have k_xSL : xSL W := by
      rw [hW]
      exact (uxSL (by decide +kernel) hI.2.2.2.2.2.2.2.2.2.2.2.2.2.2.2.2.2.2.2.2.2.2.2.2.2.2.2.2.2.2.2.2.2.2.2.2.2.2.2.2.1)
    have k_xSM : xSM W := by
      rw [hW]
      exact (uxSM (by decide +kernel) hI.2.2.2.2.2.2.2.2.2.2.2.2.2.2.2.2.2.2.2.2.2.2.2.2.2.2.2.2.2.2.2.2.2.2.2.2.2.2.2.2.2.1)
    have k_xSI : xSI W := by
      rw [hW]
      exact (uxSI (by decide +kernel) hI.2.2.2.2.2.2.2.2.2.2.2.2.2.2.2.2.2.2.2.2.2.2.2.2.2.2.2.2.2.2.2.2.2.2.2.2.2.2.2.2.2.2)
    have k_XC : XC W := ⟨k_xS1, k_xS2, k_xS3, k_xS4, k_xS5, k_xS6, k_xS7, k_xS8, k_xS9, k_xSA, k_xSG, k_xSF, k_xSB, k_xSC, k_xSD, k_xSE, k_xSW, k_xST, k_xSP, k_xSL, k_xSM, k_xSI⟩
    have kXB : XB W := ⟨k_xN1, k_xN2, k_xN3, k_xN4, k_xN5, k_xN6, k_xH1, k_xK1, k_xC1, k_xRW, k_xWT, k_xCU, k_xG2, k_xG3, k_xG4, k_xG5, k_xG6, k_XC⟩
    exact ⟨base, k2, k3, kXA, kXB⟩
-- rtStart
def xr_600 : qRu := (1, [], [], [], [(4, 291, []), (4, 292, [])], [])
theorem xo_600 : qRok xr_600 := by
  intro ρ M h0 hf hm hI
  refine ⟨ρ, fun _ _ => rfl, fun f h => ?_, ?_⟩
  · exact nomatch h
  · show sI (sU (sU M 4 291 (0)) 4 292 (0))
    obtain ⟨W, hW⟩ : ∃ W, W = (sU (sU M 4 291 (0)) 4 292 (0)) := ⟨_, rfl⟩
    rw [← hW]
    have base : sI0 W := by
      rw [hW]
      exact (si_u0 (si_u0 hI.1 (fun r hr => by cases hr)) (fun r hr => by cases hr))
    have k2 : XI2 W := by
      rw [hW]
      exact (xi2_u (by decide +kernel) (xi2_u (by decide +kernel) hI.2.1))
    have k3 : XI3 W := by
      rw [hW]
      exact (xi3_u (by decide +kernel) (xi3_u (by decide +kernel) hI.2.2.1))
    have kXA : XA W := by
      rw [hW]
      exact (uXA (by decide +kernel) (uXA (by decide +kernel) hI.2.2.2.1))
    have k_xN1 : xN1 W := by
      rw [hW]
      exact (uxN1 (by decide +kernel) (uxN1 (by decide +kernel) hI.2.2.2.2.1))
    have k_xN2 : xN2 W := by
      rw [hW]
      exact (uxN2 (by decide +kernel) (uxN2 (by decide +kernel) hI.2.2.2.2.2.1))
    have k_xN3 : xN3 W := by
      rw [hW]
      exact (uxN3 (by decide +kernel) (uxN3 (by decide +kernel) hI.2.2.2.2.2.2.1))
    have k_xN4 : xN4 W := by
      rw [hW]
      exact (uxN4 (by decide +kernel) (uxN4 (by decide +kernel) hI.2.2.2.2.2.2.2.1))
    have k_xN5 : xN5 W := by
      rw [hW]
      exact (uxN5 (by decide +kernel) (uxN5 (by decide +kernel) hI.2.2.2.2.2.2.2.2.1))
    have k_xN6 : xN6 W := by
      rw [hW]
      exact (uxN6 (by decide +kernel) (uxN6 (by decide +kernel) hI.2.2.2.2.2.2.2.2.2.1))
    have k_xH1 : xH1 W := by
      rw [hW]
      exact (uxH1 (by decide +kernel) (uxH1 (by decide +kernel) hI.2.2.2.2.2.2.2.2.2.2.1))
    have k_xK1 : xK1 W := by
      rw [hW]
      exact (uxK1 (by decide +kernel) (uxK1 (by decide +kernel) hI.2.2.2.2.2.2.2.2.2.2.2.1))
    have k_xC1 : xC1 W := by
      rw [hW]
      exact (uxC1 (by decide +kernel) (uxC1 (by decide +kernel) hI.2.2.2.2.2.2.2.2.2.2.2.2.1))
    have k_xRW : xRW W := by
      rw [hW]
      exact (uxRW (by decide +kernel) (uxRW (by decide +kernel) hI.2.2.2.2.2.2.2.2.2.2.2.2.2.1))
    have k_xWT : xWT W := by
      rw [hW]
      exact (uxWT (by decide +kernel) (uxWT (by decide +kernel) hI.2.2.2.2.2.2.2.2.2.2.2.2.2.2.1))
    have k_xCU : xCU W := by
      rw [hW]
      exact (uxCU (by decide +kernel) (uxCU (by decide +kernel) hI.2.2.2.2.2.2.2.2.2.2.2.2.2.2.2.1))
    have k_xG2 : xG2 W := by
      rw [hW]
      exact (uxG2 (by decide +kernel) (uxG2 (by decide +kernel) hI.2.2.2.2.2.2.2.2.2.2.2.2.2.2.2.2.1))
    have k_xG3 : xG3 W := by
      rw [hW]
      exact (uxG3 (by decide +kernel) (uxG3 (by decide +kernel) hI.2.2.2.2.2.2.2.2.2.2.2.2.2.2.2.2.2.1))
    have k_xG4 : xG4 W := by
      rw [hW]
      exact (uxG4 (by decide +kernel) (uxG4 (by decide +kernel) hI.2.2.2.2.2.2.2.2.2.2.2.2.2.2.2.2.2.2.1))
    have k_xG5 : xG5 W := by
      rw [hW]
      exact (uxG5 (by decide +kernel) (uxG5 (by decide +kernel) hI.2.2.2.2.2.2.2.2.2.2.2.2.2.2.2.2.2.2.2.1))
    have k_xG6 : xG6 W := by
      rw [hW]
      exact (uxG6 (by decide +kernel) (uxG6 (by decide +kernel) hI.2.2.2.2.2.2.2.2.2.2.2.2.2.2.2.2.2.2.2.2.1))
    have k_xS1 : xS1 W := by
      rw [hW]
      exact (uxS1 (by decide +kernel) (uxS1 (by decide +kernel) hI.2.2.2.2.2.2.2.2.2.2.2.2.2.2.2.2.2.2.2.2.2.1))
    have k_xS2 : xS2 W := by
      rw [hW]
      exact (uxS2 (by decide +kernel) (uxS2 (by decide +kernel) hI.2.2.2.2.2.2.2.2.2.2.2.2.2.2.2.2.2.2.2.2.2.2.1))
    have k_xS3 : xS3 W := by
      rw [hW]
      exact (uxS3 (by decide +kernel) (uxS3 (by decide +kernel) hI.2.2.2.2.2.2.2.2.2.2.2.2.2.2.2.2.2.2.2.2.2.2.2.1))
    have k_xS4 : xS4 W := by
      rw [hW]
      exact (uxS4 (by decide +kernel) (uxS4 (by decide +kernel) hI.2.2.2.2.2.2.2.2.2.2.2.2.2.2.2.2.2.2.2.2.2.2.2.2.1))
    have k_xS5 : xS5 W := by
      rw [hW]
      exact (uxS5 (by decide +kernel) (uxS5 (by decide +kernel) hI.2.2.2.2.2.2.2.2.2.2.2.2.2.2.2.2.2.2.2.2.2.2.2.2.2.1))
    have k_xS6 : xS6 W := by
      rw [hW]
      exact (uxS6 (by decide +kernel) (uxS6 (by decide +kernel) hI.2.2.2.2.2.2.2.2.2.2.2.2.2.2.2.2.2.2.2.2.2.2.2.2.2.2.1))
    have k_xS7 : xS7 W := by
      rw [hW]
      exact (uxS7 (by decide +kernel) (uxS7 (by decide +kernel) hI.2.2.2.2.2.2.2.2.2.2.2.2.2.2.2.2.2.2.2.2.2.2.2.2.2.2.2.1))
    have k_xS8 : xS8 W := by
      rw [hW]
      exact (uxS8 (by decide +kernel) (uxS8 (by decide +kernel) hI.2.2.2.2.2.2.2.2.2.2.2.2.2.2.2.2.2.2.2.2.2.2.2.2.2.2.2.2.1))
    have k_xS9 : xS9 W := by
      rw [hW]
      exact (uxS9 (by decide +kernel) (uxS9 (by decide +kernel) hI.2.2.2.2.2.2.2.2.2.2.2.2.2.2.2.2.2.2.2.2.2.2.2.2.2.2.2.2.2.1))
    have k_xSA : xSA W := by
      rw [hW]
      exact (uxSA (by decide +kernel) (uxSA (by decide +kernel) hI.2.2.2.2.2.2.2.2.2.2.2.2.2.2.2.2.2.2.2.2.2.2.2.2.2.2.2.2.2.2.1))
    have k_xSG : xSG W := by
      rw [hW]
      exact (uxSG (by decide +kernel) (uxSG (by decide +kernel) hI.2.2.2.2.2.2.2.2.2.2.2.2.2.2.2.2.2.2.2.2.2.2.2.2.2.2.2.2.2.2.2.1))
    have k_xSF : xSF W := by
      rw [hW]
      exact (uxSF (by decide +kernel) (uxSF (by decide +kernel) hI.2.2.2.2.2.2.2.2.2.2.2.2.2.2.2.2.2.2.2.2.2.2.2.2.2.2.2.2.2.2.2.2.1))
    have k_xSB : xSB W := by
      rw [hW]
      exact (uxSB (by decide +kernel) (uxSB (by decide +kernel) hI.2.2.2.2.2.2.2.2.2.2.2.2.2.2.2.2.2.2.2.2.2.2.2.2.2.2.2.2.2.2.2.2.2.1))
    have k_xSC : xSC W := by
      rw [hW]
      exact (uxSC (by decide +kernel) (uxSC (by decide +kernel) hI.2.2.2.2.2.2.2.2.2.2.2.2.2.2.2.2.2.2.2.2.2.2.2.2.2.2.2.2.2.2.2.2.2.2.1))
    have k_xSD : xSD W := by
      rw [hW]
      exact (uxSD (by decide +kernel) (uxSD (by decide +kernel) hI.2.2.2.2.2.2.2.2.2.2.2.2.2.2.2.2.2.2.2.2.2.2.2.2.2.2.2.2.2.2.2.2.2.2.2.1))
    have k_xSE : xSE W := by
      rw [hW]
      exact (uxSE (by decide +kernel) (uxSE (by decide +kernel) hI.2.2.2.2.2.2.2.2.2.2.2.2.2.2.2.2.2.2.2.2.2.2.2.2.2.2.2.2.2.2.2.2.2.2.2.2.1))
    have k_xSW : xSW W := by
      rw [hW]
      exact (uxSW (by decide +kernel) (uxSW (by decide +kernel) hI.2.2.2.2.2.2.2.2.2.2.2.2.2.2.2.2.2.2.2.2.2.2.2.2.2.2.2.2.2.2.2.2.2.2.2.2.2.1))
    have k_xST : xST W := by
      rw [hW]
      exact (uxST (by decide +kernel) (uxST (by decide +kernel) hI.2.2.2.2.2.2.2.2.2.2.2.2.2.2.2.2.2.2.2.2.2.2.2.2.2.2.2.2.2.2.2.2.2.2.2.2.2.2.1))
    have k_xSP : xSP W := by
      rw [hW]
      exact (uxSP (by decide +kernel) (uxSP (by decide +kernel) hI.2.2.2.2.2.2.2.2.2.2.2.2.2.2.2.2.2.2.2.2.2.2.2.2.2.2.2.2.2.2.2.2.2.2.2.2.2.2.2.1))
    have k_xSL : xSL W := by
      rw [hW]
      exact (uxSL (by decide +kernel) (uxSL (by decide +kernel) hI.2.2.2.2.2.2.2.2.2.2.2.2.2.2.2.2.2.2.2.2.2.2.2.2.2.2.2.2.2.2.2.2.2.2.2.2.2.2.2.2.1))
    have k_xSM : xSM W := by
      rw [hW]
      exact (uxSM (by decide +kernel) (uxSM (by decide +kernel) hI.2.2.2.2.2.2.2.2.2.2.2.2.2.2.2.2.2.2.2.2.2.2.2.2.2.2.2.2.2.2.2.2.2.2.2.2.2.2.2.2.2.1))
    have k_xSI : xSI W := by
      rw [hW]
      exact (uxSI (by decide +kernel) (uxSI (by decide +kernel) hI.2.2.2.2.2.2.2.2.2.2.2.2.2.2.2.2.2.2.2.2.2.2.2.2.2.2.2.2.2.2.2.2.2.2.2.2.2.2.2.2.2.2))
    have k_XC : XC W := ⟨k_xS1, k_xS2, k_xS3, k_xS4, k_xS5, k_xS6, k_xS7, k_xS8, k_xS9, k_xSA, k_xSG, k_xSF, k_xSB, k_xSC, k_xSD, k_xSE, k_xSW, k_xST, k_xSP, k_xSL, k_xSM, k_xSI⟩
    have kXB : XB W := ⟨k_xN1, k_xN2, k_xN3, k_xN4, k_xN5, k_xN6, k_xH1, k_xK1, k_xC1, k_xRW, k_xWT, k_xCU, k_xG2, k_xG3, k_xG4, k_xG5, k_xG6, k_XC⟩
    exact ⟨base, k2, k3, kXA, kXB⟩
-- tapeOff
def xr_601 : qRu := (1, [], [], [], [(4, 261, [])], [])
theorem xo_601 : qRok xr_601 := by
  intro ρ M h0 hf hm hI
  have qxST := hI.2.2.2.2.2.2.2.2.2.2.2.2.2.2.2.2.2.2.2.2.2.2.2.2.2.2.2.2.2.2.2.2.2.2.2.2.2.2.1
  refine ⟨ρ, fun _ _ => rfl, fun f h => ?_, ?_⟩
  · exact nomatch h
  · show sI (sU M 4 261 (0))
    obtain ⟨W, hW⟩ : ∃ W, W = (sU M 4 261 (0)) := ⟨_, rfl⟩
    rw [← hW]
    have base : sI0 W := by
      rw [hW]
      exact (si_u0 hI.1 (fun r hr => by cases hr))
    have k2 : XI2 W := by
      rw [hW]
      exact (xi2_u (by decide +kernel) hI.2.1)
    have k3 : XI3 W := by
      rw [hW]
      exact (xi3_u (by decide +kernel) hI.2.2.1)
    have kXA : XA W := by
      rw [hW]
      exact (uXA (by decide +kernel) hI.2.2.2.1)
    have k_xN1 : xN1 W := by
      rw [hW]
      exact (uxN1 (by decide +kernel) hI.2.2.2.2.1)
    have k_xN2 : xN2 W := by
      rw [hW]
      exact (uxN2 (by decide +kernel) hI.2.2.2.2.2.1)
    have k_xN3 : xN3 W := by
      rw [hW]
      exact (uxN3 (by decide +kernel) hI.2.2.2.2.2.2.1)
    have k_xN4 : xN4 W := by
      rw [hW]
      exact (uxN4 (by decide +kernel) hI.2.2.2.2.2.2.2.1)
    have k_xN5 : xN5 W := by
      rw [hW]
      exact (uxN5 (by decide +kernel) hI.2.2.2.2.2.2.2.2.1)
    have k_xN6 : xN6 W := by
      rw [hW]
      exact (uxN6 (by decide +kernel) hI.2.2.2.2.2.2.2.2.2.1)
    have k_xH1 : xH1 W := by
      rw [hW]
      exact (uxH1 (by decide +kernel) hI.2.2.2.2.2.2.2.2.2.2.1)
    have k_xK1 : xK1 W := by
      rw [hW]
      exact (uxK1 (by decide +kernel) hI.2.2.2.2.2.2.2.2.2.2.2.1)
    have k_xC1 : xC1 W := by
      rw [hW]
      exact (uxC1 (by decide +kernel) hI.2.2.2.2.2.2.2.2.2.2.2.2.1)
    have k_xRW : xRW W := by
      rw [hW]
      exact (uxRW (by decide +kernel) hI.2.2.2.2.2.2.2.2.2.2.2.2.2.1)
    have k_xWT : xWT W := by
      rw [hW]
      exact (uxWT (by decide +kernel) hI.2.2.2.2.2.2.2.2.2.2.2.2.2.2.1)
    have k_xCU : xCU W := by
      rw [hW]
      exact (uxCU (by decide +kernel) hI.2.2.2.2.2.2.2.2.2.2.2.2.2.2.2.1)
    have k_xG2 : xG2 W := by
      rw [hW]
      exact (uxG2 (by decide +kernel) hI.2.2.2.2.2.2.2.2.2.2.2.2.2.2.2.2.1)
    have k_xG3 : xG3 W := by
      rw [hW]
      exact (uxG3 (by decide +kernel) hI.2.2.2.2.2.2.2.2.2.2.2.2.2.2.2.2.2.1)
    have k_xG4 : xG4 W := by
      rw [hW]
      exact (uxG4 (by decide +kernel) hI.2.2.2.2.2.2.2.2.2.2.2.2.2.2.2.2.2.2.1)
    have k_xG5 : xG5 W := by
      rw [hW]
      exact (uxG5 (by decide +kernel) hI.2.2.2.2.2.2.2.2.2.2.2.2.2.2.2.2.2.2.2.1)
    have k_xG6 : xG6 W := by
      rw [hW]
      exact (uxG6 (by decide +kernel) hI.2.2.2.2.2.2.2.2.2.2.2.2.2.2.2.2.2.2.2.2.1)
    have k_xS1 : xS1 W := by
      rw [hW]
      exact (uxS1 (by decide +kernel) hI.2.2.2.2.2.2.2.2.2.2.2.2.2.2.2.2.2.2.2.2.2.1)
    have k_xS2 : xS2 W := by
      rw [hW]
      exact (uxS2 (by decide +kernel) hI.2.2.2.2.2.2.2.2.2.2.2.2.2.2.2.2.2.2.2.2.2.2.1)
    have k_xS3 : xS3 W := by
      rw [hW]
      exact (uxS3 (by decide +kernel) hI.2.2.2.2.2.2.2.2.2.2.2.2.2.2.2.2.2.2.2.2.2.2.2.1)
    have k_xS4 : xS4 W := by
      rw [hW]
      exact (uxS4 (by decide +kernel) hI.2.2.2.2.2.2.2.2.2.2.2.2.2.2.2.2.2.2.2.2.2.2.2.2.1)
    have k_xS5 : xS5 W := by
      rw [hW]
      exact (uxS5 (by decide +kernel) hI.2.2.2.2.2.2.2.2.2.2.2.2.2.2.2.2.2.2.2.2.2.2.2.2.2.1)
    have k_xS6 : xS6 W := by
      rw [hW]
      exact (uxS6 (by decide +kernel) hI.2.2.2.2.2.2.2.2.2.2.2.2.2.2.2.2.2.2.2.2.2.2.2.2.2.2.1)
    have k_xS7 : xS7 W := by
      rw [hW]
      exact (uxS7 (by decide +kernel) hI.2.2.2.2.2.2.2.2.2.2.2.2.2.2.2.2.2.2.2.2.2.2.2.2.2.2.2.1)
    have k_xS8 : xS8 W := by
      rw [hW]
      exact (uxS8 (by decide +kernel) hI.2.2.2.2.2.2.2.2.2.2.2.2.2.2.2.2.2.2.2.2.2.2.2.2.2.2.2.2.1)
    have k_xS9 : xS9 W := by
      rw [hW]
      exact (uxS9 (by decide +kernel) hI.2.2.2.2.2.2.2.2.2.2.2.2.2.2.2.2.2.2.2.2.2.2.2.2.2.2.2.2.2.1)
    have k_xSA : xSA W := by
      rw [hW]
      exact (uxSA (by decide +kernel) hI.2.2.2.2.2.2.2.2.2.2.2.2.2.2.2.2.2.2.2.2.2.2.2.2.2.2.2.2.2.2.1)
    have k_xSG : xSG W := by
      rw [hW]
      exact (uxSG (by decide +kernel) hI.2.2.2.2.2.2.2.2.2.2.2.2.2.2.2.2.2.2.2.2.2.2.2.2.2.2.2.2.2.2.2.1)
    have k_xSF : xSF W := by
      rw [hW]
      exact (uxSF (by decide +kernel) hI.2.2.2.2.2.2.2.2.2.2.2.2.2.2.2.2.2.2.2.2.2.2.2.2.2.2.2.2.2.2.2.2.1)
    have k_xSB : xSB W := by
      rw [hW]
      exact (uxSB (by decide +kernel) hI.2.2.2.2.2.2.2.2.2.2.2.2.2.2.2.2.2.2.2.2.2.2.2.2.2.2.2.2.2.2.2.2.2.1)
    have k_xSC : xSC W := by
      rw [hW]
      exact (uxSC (by decide +kernel) hI.2.2.2.2.2.2.2.2.2.2.2.2.2.2.2.2.2.2.2.2.2.2.2.2.2.2.2.2.2.2.2.2.2.2.1)
    have k_xSD : xSD W := by
      rw [hW]
      exact (uxSD (by decide +kernel) hI.2.2.2.2.2.2.2.2.2.2.2.2.2.2.2.2.2.2.2.2.2.2.2.2.2.2.2.2.2.2.2.2.2.2.2.1)
    have k_xSE : xSE W := by
      rw [hW]
      exact (uxSE (by decide +kernel) hI.2.2.2.2.2.2.2.2.2.2.2.2.2.2.2.2.2.2.2.2.2.2.2.2.2.2.2.2.2.2.2.2.2.2.2.2.1)
    have k_xSW : xSW W := by
      rw [hW]
      exact (uxSW (by decide +kernel) hI.2.2.2.2.2.2.2.2.2.2.2.2.2.2.2.2.2.2.2.2.2.2.2.2.2.2.2.2.2.2.2.2.2.2.2.2.2.1)
    have k_xST : xST W := by
      have r4_261 : W 4 261 = 0 := by rw [hW, sU_at]
      have c1 : ∀ k, W 1 k = M 1 k := fun k => by rw [hW, sU_ne (fun z => by omega)]
      have e1 : W 1 = M 1 := funext c1
      have c92 : ∀ k, W 92 k = M 92 k := fun k => by rw [hW, sU_ne (fun z => by omega)]
      have e92 : W 92 = M 92 := funext c92
      intro i hi
      rw [r4_261] at hi
      omega
    have k_xSP : xSP W := by
      rw [hW]
      exact (uxSP (by decide +kernel) hI.2.2.2.2.2.2.2.2.2.2.2.2.2.2.2.2.2.2.2.2.2.2.2.2.2.2.2.2.2.2.2.2.2.2.2.2.2.2.2.1)
    have k_xSL : xSL W := by
      rw [hW]
      exact (uxSL (by decide +kernel) hI.2.2.2.2.2.2.2.2.2.2.2.2.2.2.2.2.2.2.2.2.2.2.2.2.2.2.2.2.2.2.2.2.2.2.2.2.2.2.2.2.1)
    have k_xSM : xSM W := by
      rw [hW]
      exact (uxSM (by decide +kernel) hI.2.2.2.2.2.2.2.2.2.2.2.2.2.2.2.2.2.2.2.2.2.2.2.2.2.2.2.2.2.2.2.2.2.2.2.2.2.2.2.2.2.1)
    have k_xSI : xSI W := by
      rw [hW]
      exact (uxSI (by decide +kernel) hI.2.2.2.2.2.2.2.2.2.2.2.2.2.2.2.2.2.2.2.2.2.2.2.2.2.2.2.2.2.2.2.2.2.2.2.2.2.2.2.2.2.2)
    have k_XC : XC W := ⟨k_xS1, k_xS2, k_xS3, k_xS4, k_xS5, k_xS6, k_xS7, k_xS8, k_xS9, k_xSA, k_xSG, k_xSF, k_xSB, k_xSC, k_xSD, k_xSE, k_xSW, k_xST, k_xSP, k_xSL, k_xSM, k_xSI⟩
    have kXB : XB W := ⟨k_xN1, k_xN2, k_xN3, k_xN4, k_xN5, k_xN6, k_xH1, k_xK1, k_xC1, k_xRW, k_xWT, k_xCU, k_xG2, k_xG3, k_xG4, k_xG5, k_xG6, k_XC⟩
    exact ⟨base, k2, k3, kXA, kXB⟩
-- fdBegin
def xr_602 : qRu := (7, [[(1, 1)]], [(4, 261, [(1, 1)])], [], [(4, 262, []), (4, 263, [(1, 1)]), (4, 264, []), (4, 265, [(1, 2)]), (4, 266, [(1, 3)]), (4, 267, [(1, 4)]), (4, 268, [(1, 5)]), (4, 269, [(1, 6)])], [])
theorem xo_602 : qRok xr_602 := by
  intro ρ M h0 hf hm hI
  have f0 := hf [(1, 1)] (by decide)
  simp only [qD, h0] at f0
  have m0 : M 4 261 = 1 * ρ 1 + 0 := hm (4, 261, [(1, 1)]) (by decide)
  have qxSP := hI.2.2.2.2.2.2.2.2.2.2.2.2.2.2.2.2.2.2.2.2.2.2.2.2.2.2.2.2.2.2.2.2.2.2.2.2.2.2.2.1
  refine ⟨ρ, fun _ _ => rfl, fun f h => ?_, ?_⟩
  · exact nomatch h
  · show sI (sU (sU (sU (sU (sU (sU (sU (sU M 4 262 (0)) 4 263 (1 * ρ 1 + 0)) 4 264 (0)) 4 265 (1 * ρ 2 + 0)) 4 266 (1 * ρ 3 + 0)) 4 267 (1 * ρ 4 + 0)) 4 268 (1 * ρ 5 + 0)) 4 269 (1 * ρ 6 + 0))
    obtain ⟨W, hW⟩ : ∃ W, W = (sU (sU (sU (sU (sU (sU (sU (sU M 4 262 (0)) 4 263 (1 * ρ 1 + 0)) 4 264 (0)) 4 265 (1 * ρ 2 + 0)) 4 266 (1 * ρ 3 + 0)) 4 267 (1 * ρ 4 + 0)) 4 268 (1 * ρ 5 + 0)) 4 269 (1 * ρ 6 + 0)) := ⟨_, rfl⟩
    rw [← hW]
    have base : sI0 W := by
      rw [hW]
      exact (si_u0 (si_u0 (si_u0 (si_u0 (si_u0 (si_u0 (si_u0 (si_u0 hI.1 (fun r hr => by cases hr)) (fun r hr => by cases hr)) (fun r hr => by cases hr)) (fun r hr => by cases hr)) (fun r hr => by cases hr)) (fun r hr => by cases hr)) (fun r hr => by cases hr)) (fun r hr => by cases hr))
    have k2 : XI2 W := by
      rw [hW]
      exact (xi2_u (by decide +kernel) (xi2_u (by decide +kernel) (xi2_u (by decide +kernel) (xi2_u (by decide +kernel) (xi2_u (by decide +kernel) (xi2_u (by decide +kernel) (xi2_u (by decide +kernel) (xi2_u (by decide +kernel) hI.2.1))))))))
    have k3 : XI3 W := by
      rw [hW]
      exact (xi3_u (by decide +kernel) (xi3_u (by decide +kernel) (xi3_u (by decide +kernel) (xi3_u (by decide +kernel) (xi3_u (by decide +kernel) (xi3_u (by decide +kernel) (xi3_u (by decide +kernel) (xi3_u (by decide +kernel) hI.2.2.1))))))))
    have kXA : XA W := by
      rw [hW]
      exact (uXA (by decide +kernel) (uXA (by decide +kernel) (uXA (by decide +kernel) (uXA (by decide +kernel) (uXA (by decide +kernel) (uXA (by decide +kernel) (uXA (by decide +kernel) (uXA (by decide +kernel) hI.2.2.2.1))))))))
    have k_xN1 : xN1 W := by
      rw [hW]
      exact (uxN1 (by decide +kernel) (uxN1 (by decide +kernel) (uxN1 (by decide +kernel) (uxN1 (by decide +kernel) (uxN1 (by decide +kernel) (uxN1 (by decide +kernel) (uxN1 (by decide +kernel) (uxN1 (by decide +kernel) hI.2.2.2.2.1))))))))
    have k_xN2 : xN2 W := by
      rw [hW]
      exact (uxN2 (by decide +kernel) (uxN2 (by decide +kernel) (uxN2 (by decide +kernel) (uxN2 (by decide +kernel) (uxN2 (by decide +kernel) (uxN2 (by decide +kernel) (uxN2 (by decide +kernel) (uxN2 (by decide +kernel) hI.2.2.2.2.2.1))))))))
    have k_xN3 : xN3 W := by
      rw [hW]
      exact (uxN3 (by decide +kernel) (uxN3 (by decide +kernel) (uxN3 (by decide +kernel) (uxN3 (by decide +kernel) (uxN3 (by decide +kernel) (uxN3 (by decide +kernel) (uxN3 (by decide +kernel) (uxN3 (by decide +kernel) hI.2.2.2.2.2.2.1))))))))
    have k_xN4 : xN4 W := by
      rw [hW]
      exact (uxN4 (by decide +kernel) (uxN4 (by decide +kernel) (uxN4 (by decide +kernel) (uxN4 (by decide +kernel) (uxN4 (by decide +kernel) (uxN4 (by decide +kernel) (uxN4 (by decide +kernel) (uxN4 (by decide +kernel) hI.2.2.2.2.2.2.2.1))))))))
    have k_xN5 : xN5 W := by
      rw [hW]
      exact (uxN5 (by decide +kernel) (uxN5 (by decide +kernel) (uxN5 (by decide +kernel) (uxN5 (by decide +kernel) (uxN5 (by decide +kernel) (uxN5 (by decide +kernel) (uxN5 (by decide +kernel) (uxN5 (by decide +kernel) hI.2.2.2.2.2.2.2.2.1))))))))
    have k_xN6 : xN6 W := by
      rw [hW]
      exact (uxN6 (by decide +kernel) (uxN6 (by decide +kernel) (uxN6 (by decide +kernel) (uxN6 (by decide +kernel) (uxN6 (by decide +kernel) (uxN6 (by decide +kernel) (uxN6 (by decide +kernel) (uxN6 (by decide +kernel) hI.2.2.2.2.2.2.2.2.2.1))))))))
    have k_xH1 : xH1 W := by
      rw [hW]
      exact (uxH1 (by decide +kernel) (uxH1 (by decide +kernel) (uxH1 (by decide +kernel) (uxH1 (by decide +kernel) (uxH1 (by decide +kernel) (uxH1 (by decide +kernel) (uxH1 (by decide +kernel) (uxH1 (by decide +kernel) hI.2.2.2.2.2.2.2.2.2.2.1))))))))
    have k_xK1 : xK1 W := by
      rw [hW]
      exact (uxK1 (by decide +kernel) (uxK1 (by decide +kernel) (uxK1 (by decide +kernel) (uxK1 (by decide +kernel) (uxK1 (by decide +kernel) (uxK1 (by decide +kernel) (uxK1 (by decide +kernel) (uxK1 (by decide +kernel) hI.2.2.2.2.2.2.2.2.2.2.2.1))))))))
    have k_xC1 : xC1 W := by
      rw [hW]
      exact (uxC1 (by decide +kernel) (uxC1 (by decide +kernel) (uxC1 (by decide +kernel) (uxC1 (by decide +kernel) (uxC1 (by decide +kernel) (uxC1 (by decide +kernel) (uxC1 (by decide +kernel) (uxC1 (by decide +kernel) hI.2.2.2.2.2.2.2.2.2.2.2.2.1))))))))
    have k_xRW : xRW W := by
      rw [hW]
      exact (uxRW (by decide +kernel) (uxRW (by decide +kernel) (uxRW (by decide +kernel) (uxRW (by decide +kernel) (uxRW (by decide +kernel) (uxRW (by decide +kernel) (uxRW (by decide +kernel) (uxRW (by decide +kernel) hI.2.2.2.2.2.2.2.2.2.2.2.2.2.1))))))))
    have k_xWT : xWT W := by
      rw [hW]
      exact (uxWT (by decide +kernel) (uxWT (by decide +kernel) (uxWT (by decide +kernel) (uxWT (by decide +kernel) (uxWT (by decide +kernel) (uxWT (by decide +kernel) (uxWT (by decide +kernel) (uxWT (by decide +kernel) hI.2.2.2.2.2.2.2.2.2.2.2.2.2.2.1))))))))
    have k_xCU : xCU W := by
      rw [hW]
      exact (uxCU (by decide +kernel) (uxCU (by decide +kernel) (uxCU (by decide +kernel) (uxCU (by decide +kernel) (uxCU (by decide +kernel) (uxCU (by decide +kernel) (uxCU (by decide +kernel) (uxCU (by decide +kernel) hI.2.2.2.2.2.2.2.2.2.2.2.2.2.2.2.1))))))))
    have k_xG2 : xG2 W := by
      rw [hW]
      exact (uxG2 (by decide +kernel) (uxG2 (by decide +kernel) (uxG2 (by decide +kernel) (uxG2 (by decide +kernel) (uxG2 (by decide +kernel) (uxG2 (by decide +kernel) (uxG2 (by decide +kernel) (uxG2 (by decide +kernel) hI.2.2.2.2.2.2.2.2.2.2.2.2.2.2.2.2.1))))))))
    have k_xG3 : xG3 W := by
      rw [hW]
      exact (uxG3 (by decide +kernel) (uxG3 (by decide +kernel) (uxG3 (by decide +kernel) (uxG3 (by decide +kernel) (uxG3 (by decide +kernel) (uxG3 (by decide +kernel) (uxG3 (by decide +kernel) (uxG3 (by decide +kernel) hI.2.2.2.2.2.2.2.2.2.2.2.2.2.2.2.2.2.1))))))))
    have k_xG4 : xG4 W := by
      rw [hW]
      exact (uxG4 (by decide +kernel) (uxG4 (by decide +kernel) (uxG4 (by decide +kernel) (uxG4 (by decide +kernel) (uxG4 (by decide +kernel) (uxG4 (by decide +kernel) (uxG4 (by decide +kernel) (uxG4 (by decide +kernel) hI.2.2.2.2.2.2.2.2.2.2.2.2.2.2.2.2.2.2.1))))))))
    have k_xG5 : xG5 W := by
      rw [hW]
      exact (uxG5 (by decide +kernel) (uxG5 (by decide +kernel) (uxG5 (by decide +kernel) (uxG5 (by decide +kernel) (uxG5 (by decide +kernel) (uxG5 (by decide +kernel) (uxG5 (by decide +kernel) (uxG5 (by decide +kernel) hI.2.2.2.2.2.2.2.2.2.2.2.2.2.2.2.2.2.2.2.1))))))))
    have k_xG6 : xG6 W := by
      rw [hW]
      exact (uxG6 (by decide +kernel) (uxG6 (by decide +kernel) (uxG6 (by decide +kernel) (uxG6 (by decide +kernel) (uxG6 (by decide +kernel) (uxG6 (by decide +kernel) (uxG6 (by decide +kernel) (uxG6 (by decide +kernel) hI.2.2.2.2.2.2.2.2.2.2.2.2.2.2.2.2.2.2.2.2.1))))))))
    have k_xS1 : xS1 W := by
      rw [hW]
      exact (uxS1 (by decide +kernel) (uxS1 (by decide +kernel) (uxS1 (by decide +kernel) (uxS1 (by decide +kernel) (uxS1 (by decide +kernel) (uxS1 (by decide +kernel) (uxS1 (by decide +kernel) (uxS1 (by decide +kernel) hI.2.2.2.2.2.2.2.2.2.2.2.2.2.2.2.2.2.2.2.2.2.1))))))))
    have k_xS2 : xS2 W := by
      rw [hW]
      exact (uxS2 (by decide +kernel) (uxS2 (by decide +kernel) (uxS2 (by decide +kernel) (uxS2 (by decide +kernel) (uxS2 (by decide +kernel) (uxS2 (by decide +kernel) (uxS2 (by decide +kernel) (uxS2 (by decide +kernel) hI.2.2.2.2.2.2.2.2.2.2.2.2.2.2.2.2.2.2.2.2.2.2.1))))))))
    have k_xS3 : xS3 W := by
      rw [hW]
      exact (uxS3 (by decide +kernel) (uxS3 (by decide +kernel) (uxS3 (by decide +kernel) (uxS3 (by decide +kernel) (uxS3 (by decide +kernel) (uxS3 (by decide +kernel) (uxS3 (by decide +kernel) (uxS3 (by decide +kernel) hI.2.2.2.2.2.2.2.2.2.2.2.2.2.2.2.2.2.2.2.2.2.2.2.1))))))))
    have k_xS4 : xS4 W := by
      rw [hW]
      exact (uxS4 (by decide +kernel) (uxS4 (by decide +kernel) (uxS4 (by decide +kernel) (uxS4 (by decide +kernel) (uxS4 (by decide +kernel) (uxS4 (by decide +kernel) (uxS4 (by decide +kernel) (uxS4 (by decide +kernel) hI.2.2.2.2.2.2.2.2.2.2.2.2.2.2.2.2.2.2.2.2.2.2.2.2.1))))))))
    have k_xS5 : xS5 W := by
      rw [hW]
      exact (uxS5 (by decide +kernel) (uxS5 (by decide +kernel) (uxS5 (by decide +kernel) (uxS5 (by decide +kernel) (uxS5 (by decide +kernel) (uxS5 (by decide +kernel) (uxS5 (by decide +kernel) (uxS5 (by decide +kernel) hI.2.2.2.2.2.2.2.2.2.2.2.2.2.2.2.2.2.2.2.2.2.2.2.2.2.1))))))))
    have k_xS6 : xS6 W := by
      rw [hW]
      exact (uxS6 (by decide +kernel) (uxS6 (by decide +kernel) (uxS6 (by decide +kernel) (uxS6 (by decide +kernel) (uxS6 (by decide +kernel) (uxS6 (by decide +kernel) (uxS6 (by decide +kernel) (uxS6 (by decide +kernel) hI.2.2.2.2.2.2.2.2.2.2.2.2.2.2.2.2.2.2.2.2.2.2.2.2.2.2.1))))))))
    have k_xS7 : xS7 W := by
      rw [hW]
      exact (uxS7 (by decide +kernel) (uxS7 (by decide +kernel) (uxS7 (by decide +kernel) (uxS7 (by decide +kernel) (uxS7 (by decide +kernel) (uxS7 (by decide +kernel) (uxS7 (by decide +kernel) (uxS7 (by decide +kernel) hI.2.2.2.2.2.2.2.2.2.2.2.2.2.2.2.2.2.2.2.2.2.2.2.2.2.2.2.1))))))))
    have k_xS8 : xS8 W := by
      rw [hW]
      exact (uxS8 (by decide +kernel) (uxS8 (by decide +kernel) (uxS8 (by decide +kernel) (uxS8 (by decide +kernel) (uxS8 (by decide +kernel) (uxS8 (by decide +kernel) (uxS8 (by decide +kernel) (uxS8 (by decide +kernel) hI.2.2.2.2.2.2.2.2.2.2.2.2.2.2.2.2.2.2.2.2.2.2.2.2.2.2.2.2.1))))))))
    have k_xS9 : xS9 W := by
      rw [hW]
      exact (uxS9 (by decide +kernel) (uxS9 (by decide +kernel) (uxS9 (by decide +kernel) (uxS9 (by decide +kernel) (uxS9 (by decide +kernel) (uxS9 (by decide +kernel) (uxS9 (by decide +kernel) (uxS9 (by decide +kernel) hI.2.2.2.2.2.2.2.2.2.2.2.2.2.2.2.2.2.2.2.2.2.2.2.2.2.2.2.2.2.1))))))))
    have k_xSA : xSA W := by
      rw [hW]
      exact (uxSA (by decide +kernel) (uxSA (by decide +kernel) (uxSA (by decide +kernel) (uxSA (by decide +kernel) (uxSA (by decide +kernel) (uxSA (by decide +kernel) (uxSA (by decide +kernel) (uxSA (by decide +kernel) hI.2.2.2.2.2.2.2.2.2.2.2.2.2.2.2.2.2.2.2.2.2.2.2.2.2.2.2.2.2.2.1))))))))
    have k_xSG : xSG W := by
      rw [hW]
      exact (uxSG (by decide +kernel) (uxSG (by decide +kernel) (uxSG (by decide +kernel) (uxSG (by decide +kernel) (uxSG (by decide +kernel) (uxSG (by decide +kernel) (uxSG (by decide +kernel) (uxSG (by decide +kernel) hI.2.2.2.2.2.2.2.2.2.2.2.2.2.2.2.2.2.2.2.2.2.2.2.2.2.2.2.2.2.2.2.1))))))))
    have k_xSF : xSF W := by
      rw [hW]
      exact (uxSF (by decide +kernel) (uxSF (by decide +kernel) (uxSF (by decide +kernel) (uxSF (by decide +kernel) (uxSF (by decide +kernel) (uxSF (by decide +kernel) (uxSF (by decide +kernel) (uxSF (by decide +kernel) hI.2.2.2.2.2.2.2.2.2.2.2.2.2.2.2.2.2.2.2.2.2.2.2.2.2.2.2.2.2.2.2.2.1))))))))
    have k_xSB : xSB W := by
      rw [hW]
      exact (uxSB (by decide +kernel) (uxSB (by decide +kernel) (uxSB (by decide +kernel) (uxSB (by decide +kernel) (uxSB (by decide +kernel) (uxSB (by decide +kernel) (uxSB (by decide +kernel) (uxSB (by decide +kernel) hI.2.2.2.2.2.2.2.2.2.2.2.2.2.2.2.2.2.2.2.2.2.2.2.2.2.2.2.2.2.2.2.2.2.1))))))))
    have k_xSC : xSC W := by
      rw [hW]
      exact (uxSC (by decide +kernel) (uxSC (by decide +kernel) (uxSC (by decide +kernel) (uxSC (by decide +kernel) (uxSC (by decide +kernel) (uxSC (by decide +kernel) (uxSC (by decide +kernel) (uxSC (by decide +kernel) hI.2.2.2.2.2.2.2.2.2.2.2.2.2.2.2.2.2.2.2.2.2.2.2.2.2.2.2.2.2.2.2.2.2.2.1))))))))
    have k_xSD : xSD W := by
      rw [hW]
      exact (uxSD (by decide +kernel) (uxSD (by decide +kernel) (uxSD (by decide +kernel) (uxSD (by decide +kernel) (uxSD (by decide +kernel) (uxSD (by decide +kernel) (uxSD (by decide +kernel) (uxSD (by decide +kernel) hI.2.2.2.2.2.2.2.2.2.2.2.2.2.2.2.2.2.2.2.2.2.2.2.2.2.2.2.2.2.2.2.2.2.2.2.1))))))))
    have k_xSE : xSE W := by
      rw [hW]
      exact (uxSE (by decide +kernel) (uxSE (by decide +kernel) (uxSE (by decide +kernel) (uxSE (by decide +kernel) (uxSE (by decide +kernel) (uxSE (by decide +kernel) (uxSE (by decide +kernel) (uxSE (by decide +kernel) hI.2.2.2.2.2.2.2.2.2.2.2.2.2.2.2.2.2.2.2.2.2.2.2.2.2.2.2.2.2.2.2.2.2.2.2.2.1))))))))
    have k_xSW : xSW W := by
      rw [hW]
      exact (uxSW (by decide +kernel) (uxSW (by decide +kernel) (uxSW (by decide +kernel) (uxSW (by decide +kernel) (uxSW (by decide +kernel) (uxSW (by decide +kernel) (uxSW (by decide +kernel) (uxSW (by decide +kernel) hI.2.2.2.2.2.2.2.2.2.2.2.2.2.2.2.2.2.2.2.2.2.2.2.2.2.2.2.2.2.2.2.2.2.2.2.2.2.1))))))))
    have k_xST : xST W := by
      rw [hW]
      exact (uxST (by decide +kernel) (uxST (by decide +kernel) (uxST (by decide +kernel) (uxST (by decide +kernel) (uxST (by decide +kernel) (uxST (by decide +kernel) (uxST (by decide +kernel) (uxST (by decide +kernel) hI.2.2.2.2.2.2.2.2.2.2.2.2.2.2.2.2.2.2.2.2.2.2.2.2.2.2.2.2.2.2.2.2.2.2.2.2.2.2.1))))))))
    have k_xSP : xSP W := by
      have r4_262 : W 4 262 = 0 := by rw [hW, sU_ne (fun z => by omega), sU_ne (fun z => by omega), sU_ne (fun z => by omega), sU_ne (fun z => by omega), sU_ne (fun z => by omega), sU_ne (fun z => by omega), sU_ne (fun z => by omega), sU_at]
      have r4_263 : W 4 263 = 1 * ρ 1 + 0 := by rw [hW, sU_ne (fun z => by omega), sU_ne (fun z => by omega), sU_ne (fun z => by omega), sU_ne (fun z => by omega), sU_ne (fun z => by omega), sU_ne (fun z => by omega), sU_at]
      have r4_264 : W 4 264 = 0 := by rw [hW, sU_ne (fun z => by omega), sU_ne (fun z => by omega), sU_ne (fun z => by omega), sU_ne (fun z => by omega), sU_ne (fun z => by omega), sU_at]
      have r4_265 : W 4 265 = 1 * ρ 2 + 0 := by rw [hW, sU_ne (fun z => by omega), sU_ne (fun z => by omega), sU_ne (fun z => by omega), sU_ne (fun z => by omega), sU_at]
      have r4_266 : W 4 266 = 1 * ρ 3 + 0 := by rw [hW, sU_ne (fun z => by omega), sU_ne (fun z => by omega), sU_ne (fun z => by omega), sU_at]
      have r4_267 : W 4 267 = 1 * ρ 4 + 0 := by rw [hW, sU_ne (fun z => by omega), sU_ne (fun z => by omega), sU_at]
      have r4_268 : W 4 268 = 1 * ρ 5 + 0 := by rw [hW, sU_ne (fun z => by omega), sU_at]
      have r4_269 : W 4 269 = 1 * ρ 6 + 0 := by rw [hW, sU_at]
      have c1 : ∀ k, W 1 k = M 1 k := fun k => by rw [hW, sU_ne (fun z => by omega), sU_ne (fun z => by omega), sU_ne (fun z => by omega), sU_ne (fun z => by omega), sU_ne (fun z => by omega), sU_ne (fun z => by omega), sU_ne (fun z => by omega), sU_ne (fun z => by omega)]
      have e1 : W 1 = M 1 := funext c1
      have c92 : ∀ k, W 92 k = M 92 k := fun k => by rw [hW, sU_ne (fun z => by omega), sU_ne (fun z => by omega), sU_ne (fun z => by omega), sU_ne (fun z => by omega), sU_ne (fun z => by omega), sU_ne (fun z => by omega), sU_ne (fun z => by omega), sU_ne (fun z => by omega)]
      have e92 : W 92 = M 92 := funext c92
      unfold xSP
      rw [r4_262, r4_263, r4_264]
      exact ⟨by omega, fun j hj hl => by omega, fun j hj hl => by omega⟩
    have k_xSL : xSL W := by
      rw [hW]
      exact (uxSL (by decide +kernel) (uxSL (by decide +kernel) (uxSL (by decide +kernel) (uxSL (by decide +kernel) (uxSL (by decide +kernel) (uxSL (by decide +kernel) (uxSL (by decide +kernel) (uxSL (by decide +kernel) hI.2.2.2.2.2.2.2.2.2.2.2.2.2.2.2.2.2.2.2.2.2.2.2.2.2.2.2.2.2.2.2.2.2.2.2.2.2.2.2.2.1))))))))
    have k_xSM : xSM W := by
      rw [hW]
      exact (uxSM (by decide +kernel) (uxSM (by decide +kernel) (uxSM (by decide +kernel) (uxSM (by decide +kernel) (uxSM (by decide +kernel) (uxSM (by decide +kernel) (uxSM (by decide +kernel) (uxSM (by decide +kernel) hI.2.2.2.2.2.2.2.2.2.2.2.2.2.2.2.2.2.2.2.2.2.2.2.2.2.2.2.2.2.2.2.2.2.2.2.2.2.2.2.2.2.1))))))))
    have k_xSI : xSI W := by
      rw [hW]
      exact (uxSI (by decide +kernel) (uxSI (by decide +kernel) (uxSI (by decide +kernel) (uxSI (by decide +kernel) (uxSI (by decide +kernel) (uxSI (by decide +kernel) (uxSI (by decide +kernel) (uxSI (by decide +kernel) hI.2.2.2.2.2.2.2.2.2.2.2.2.2.2.2.2.2.2.2.2.2.2.2.2.2.2.2.2.2.2.2.2.2.2.2.2.2.2.2.2.2.2))))))))
    have k_XC : XC W := ⟨k_xS1, k_xS2, k_xS3, k_xS4, k_xS5, k_xS6, k_xS7, k_xS8, k_xS9, k_xSA, k_xSG, k_xSF, k_xSB, k_xSC, k_xSD, k_xSE, k_xSW, k_xST, k_xSP, k_xSL, k_xSM, k_xSI⟩
    have kXB : XB W := ⟨k_xN1, k_xN2, k_xN3, k_xN4, k_xN5, k_xN6, k_xH1, k_xK1, k_xC1, k_xRW, k_xWT, k_xCU, k_xG2, k_xG3, k_xG4, k_xG5, k_xG6, k_XC⟩
    exact ⟨base, k2, k3, kXA, kXB⟩
-- fdSh
def xr_603 : qRu := (3, [[(2147483648, 0), (1, 1)], [(2147483647, 0), (-1, 1)]], [], [], [(91, 249, [(1, 0)]), (91, 250, [(1, 1)]), (91, 251, [(1, 2)]), (91, 252, [(1, 3)]), (91, 253, [(1, 4)]), (91, 255, []), (91, 256, [(1, 5)]), (91, 257, [(1, 6)]), (91, 259, [(1, 0)]), (91, 248, [(1, 3)]), (91, 258, [(1, 7)])], [[(128, 0), (1, 7)], [(127, 0), (-1, 7)], [(1, 6)], [(255, 0), (-1, 6)]])
theorem xo_603 : qRok xr_603 := by
  intro ρ M h0 hf hm hI
  have f0 := hf [(2147483648, 0), (1, 1)] (by decide)
  have f1 := hf [(2147483647, 0), (-1, 1)] (by decide)
  simp only [qD, h0] at f0 f1
  have qxSE := hI.2.2.2.2.2.2.2.2.2.2.2.2.2.2.2.2.2.2.2.2.2.2.2.2.2.2.2.2.2.2.2.2.2.2.2.2.1
  have qxSI := hI.2.2.2.2.2.2.2.2.2.2.2.2.2.2.2.2.2.2.2.2.2.2.2.2.2.2.2.2.2.2.2.2.2.2.2.2.2.2.2.2.2.2
  have hz := zn_and (Int32.ofInt (xop 0 (ρ 1) (ρ 2))) (m := 255) (by decide) (by decide)
  have hz : 0 ≤ xop 1 (xop 0 (ρ 1) (ρ 2)) 255 ∧ xop 1 (xop 0 (ρ 1) (ρ 2)) 255 ≤ 255 := hz
  have hi := xi2b (xop 0 (ρ 1) (ρ 2))
  have hi2 : -128 ≤ (Int32.ofInt (xop 0 (ρ 1) (ρ 2))).toInt8.toInt32.toInt ∧ (Int32.ofInt (xop 0 (ρ 1) (ρ 2))).toInt8.toInt32.toInt ≤ 127 := by
    rw [hi]
    unfold tSn
    split <;> omega
  refine ⟨fun a => cond (Nat.blt a 3) (ρ a) (([xop 0 (ρ 1) (ρ 2), xop 1 (xop 0 (ρ 1) (ρ 2)) 1, xop 1 0 (M 91 243), xop 1 (xop 0 (ρ 1) (ρ 2)) 255, (Int32.ofInt (xop 0 (ρ 1) (ρ 2))).toInt8.toInt32.toInt] : List Int).getD (a - 3) 0), fun a ha => ?_, fun f h => ?_, ?_⟩
  · show cond (Nat.blt a 3) (ρ a) _ = ρ a
    rw [show Nat.blt a 3 = true from Nat.ble_eq_true_of_le ha]; rfl
  · have h : f ∈ ([[(128, 0), (1, 7)], [(127, 0), (-1, 7)], [(1, 6)], [(255, 0), (-1, 6)]] : List qF) := h
    simp only [List.mem_cons, List.not_mem_nil, or_false] at h
    rcases h with rfl | rfl | rfl | rfl
    · show 0 ≤ 128 * ρ 0 + (1 * ((Int32.ofInt (xop 0 (ρ 1) (ρ 2))).toInt8.toInt32.toInt) + 0)
      (try rw [h0]); omega
    · show 0 ≤ 127 * ρ 0 + (-1 * ((Int32.ofInt (xop 0 (ρ 1) (ρ 2))).toInt8.toInt32.toInt) + 0)
      (try rw [h0]); omega
    · show 0 ≤ 1 * (xop 1 (xop 0 (ρ 1) (ρ 2)) 255) + 0
      (try rw [h0]); omega
    · show 0 ≤ 255 * ρ 0 + (-1 * (xop 1 (xop 0 (ρ 1) (ρ 2)) 255) + 0)
      (try rw [h0]); omega
  · show sI (sU (sU (sU (sU (sU (sU (sU (sU (sU (sU (sU M 91 249 (1 * ρ 0 + 0)) 91 250 (1 * ρ 1 + 0)) 91 251 (1 * ρ 2 + 0)) 91 252 (1 * (xop 0 (ρ 1) (ρ 2)) + 0)) 91 253 (1 * (xop 1 (xop 0 (ρ 1) (ρ 2)) 1) + 0)) 91 255 (0)) 91 256 (1 * (xop 1 0 (M 91 243)) + 0)) 91 257 (1 * (xop 1 (xop 0 (ρ 1) (ρ 2)) 255) + 0)) 91 259 (1 * ρ 0 + 0)) 91 248 (1 * (xop 0 (ρ 1) (ρ 2)) + 0)) 91 258 (1 * ((Int32.ofInt (xop 0 (ρ 1) (ρ 2))).toInt8.toInt32.toInt) + 0))
    obtain ⟨W, hW⟩ : ∃ W, W = (sU (sU (sU (sU (sU (sU (sU (sU (sU (sU (sU M 91 249 (1 * ρ 0 + 0)) 91 250 (1 * ρ 1 + 0)) 91 251 (1 * ρ 2 + 0)) 91 252 (1 * (xop 0 (ρ 1) (ρ 2)) + 0)) 91 253 (1 * (xop 1 (xop 0 (ρ 1) (ρ 2)) 1) + 0)) 91 255 (0)) 91 256 (1 * (xop 1 0 (M 91 243)) + 0)) 91 257 (1 * (xop 1 (xop 0 (ρ 1) (ρ 2)) 255) + 0)) 91 259 (1 * ρ 0 + 0)) 91 248 (1 * (xop 0 (ρ 1) (ρ 2)) + 0)) 91 258 (1 * ((Int32.ofInt (xop 0 (ρ 1) (ρ 2))).toInt8.toInt32.toInt) + 0)) := ⟨_, rfl⟩
    rw [← hW]
    have base : sI0 W := by
      rw [hW]
      exact (si_u0 (si_u0 (si_u0 (si_u0 (si_u0 (si_u0 (si_u0 (si_u0 (si_u0 (si_u0 (si_u0 hI.1 (fun r hr => by cases hr)) (fun r hr => by cases hr)) (fun r hr => by cases hr)) (fun r hr => by cases hr)) (fun r hr => by cases hr)) (fun r hr => by cases hr)) (fun r hr => by cases hr)) (fun r hr => by cases hr)) (fun r hr => by cases hr)) (fun r hr => by cases hr)) (fun r hr => by cases hr))
    have k2 : XI2 W := by
      rw [hW]
      exact (xi2_u (by decide +kernel) (xi2_u (by decide +kernel) (xi2_u (by decide +kernel) (xi2_u (by decide +kernel) (xi2_u (by decide +kernel) (xi2_u (by decide +kernel) (xi2_u (by decide +kernel) (xi2_u (by decide +kernel) (xi2_u (by decide +kernel) (xi2_u (by decide +kernel) (xi2_u (by decide +kernel) hI.2.1)))))))))))
    have k3 : XI3 W := by
      rw [hW]
      exact (xi3_u (by decide +kernel) (xi3_u (by decide +kernel) (xi3_u (by decide +kernel) (xi3_u (by decide +kernel) (xi3_u (by decide +kernel) (xi3_u (by decide +kernel) (xi3_u (by decide +kernel) (xi3_u (by decide +kernel) (xi3_u (by decide +kernel) (xi3_u (by decide +kernel) (xi3_u (by decide +kernel) hI.2.2.1)))))))))))
    have kXA : XA W := by
      rw [hW]
      exact (uXA (by decide +kernel) (uXA (by decide +kernel) (uXA (by decide +kernel) (uXA (by decide +kernel) (uXA (by decide +kernel) (uXA (by decide +kernel) (uXA (by decide +kernel) (uXA (by decide +kernel) (uXA (by decide +kernel) (uXA (by decide +kernel) (uXA (by decide +kernel) hI.2.2.2.1)))))))))))
    have k_xN1 : xN1 W := by
      rw [hW]
      exact (uxN1 (by decide +kernel) (uxN1 (by decide +kernel) (uxN1 (by decide +kernel) (uxN1 (by decide +kernel) (uxN1 (by decide +kernel) (uxN1 (by decide +kernel) (uxN1 (by decide +kernel) (uxN1 (by decide +kernel) (uxN1 (by decide +kernel) (uxN1 (by decide +kernel) (uxN1 (by decide +kernel) hI.2.2.2.2.1)))))))))))
    have k_xN2 : xN2 W := by
      rw [hW]
      exact (uxN2 (by decide +kernel) (uxN2 (by decide +kernel) (uxN2 (by decide +kernel) (uxN2 (by decide +kernel) (uxN2 (by decide +kernel) (uxN2 (by decide +kernel) (uxN2 (by decide +kernel) (uxN2 (by decide +kernel) (uxN2 (by decide +kernel) (uxN2 (by decide +kernel) (uxN2 (by decide +kernel) hI.2.2.2.2.2.1)))))))))))
    have k_xN3 : xN3 W := by
      rw [hW]
      exact (uxN3 (by decide +kernel) (uxN3 (by decide +kernel) (uxN3 (by decide +kernel) (uxN3 (by decide +kernel) (uxN3 (by decide +kernel) (uxN3 (by decide +kernel) (uxN3 (by decide +kernel) (uxN3 (by decide +kernel) (uxN3 (by decide +kernel) (uxN3 (by decide +kernel) (uxN3 (by decide +kernel) hI.2.2.2.2.2.2.1)))))))))))
    have k_xN4 : xN4 W := by
      rw [hW]
      exact (uxN4 (by decide +kernel) (uxN4 (by decide +kernel) (uxN4 (by decide +kernel) (uxN4 (by decide +kernel) (uxN4 (by decide +kernel) (uxN4 (by decide +kernel) (uxN4 (by decide +kernel) (uxN4 (by decide +kernel) (uxN4 (by decide +kernel) (uxN4 (by decide +kernel) (uxN4 (by decide +kernel) hI.2.2.2.2.2.2.2.1)))))))))))
    have k_xN5 : xN5 W := by
      rw [hW]
      exact (uxN5 (by decide +kernel) (uxN5 (by decide +kernel) (uxN5 (by decide +kernel) (uxN5 (by decide +kernel) (uxN5 (by decide +kernel) (uxN5 (by decide +kernel) (uxN5 (by decide +kernel) (uxN5 (by decide +kernel) (uxN5 (by decide +kernel) (uxN5 (by decide +kernel) (uxN5 (by decide +kernel) hI.2.2.2.2.2.2.2.2.1)))))))))))
    have k_xN6 : xN6 W := by
      rw [hW]
      exact (uxN6 (by decide +kernel) (uxN6 (by decide +kernel) (uxN6 (by decide +kernel) (uxN6 (by decide +kernel) (uxN6 (by decide +kernel) (uxN6 (by decide +kernel) (uxN6 (by decide +kernel) (uxN6 (by decide +kernel) (uxN6 (by decide +kernel) (uxN6 (by decide +kernel) (uxN6 (by decide +kernel) hI.2.2.2.2.2.2.2.2.2.1)))))))))))
    have k_xH1 : xH1 W := by
      rw [hW]
      exact (uxH1 (by decide +kernel) (uxH1 (by decide +kernel) (uxH1 (by decide +kernel) (uxH1 (by decide +kernel) (uxH1 (by decide +kernel) (uxH1 (by decide +kernel) (uxH1 (by decide +kernel) (uxH1 (by decide +kernel) (uxH1 (by decide +kernel) (uxH1 (by decide +kernel) (uxH1 (by decide +kernel) hI.2.2.2.2.2.2.2.2.2.2.1)))))))))))
    have k_xK1 : xK1 W := by
      rw [hW]
      exact (uxK1 (by decide +kernel) (uxK1 (by decide +kernel) (uxK1 (by decide +kernel) (uxK1 (by decide +kernel) (uxK1 (by decide +kernel) (uxK1 (by decide +kernel) (uxK1 (by decide +kernel) (uxK1 (by decide +kernel) (uxK1 (by decide +kernel) (uxK1 (by decide +kernel) (uxK1 (by decide +kernel) hI.2.2.2.2.2.2.2.2.2.2.2.1)))))))))))
    have k_xC1 : xC1 W := by
      rw [hW]
      exact (uxC1 (by decide +kernel) (uxC1 (by decide +kernel) (uxC1 (by decide +kernel) (uxC1 (by decide +kernel) (uxC1 (by decide +kernel) (uxC1 (by decide +kernel) (uxC1 (by decide +kernel) (uxC1 (by decide +kernel) (uxC1 (by decide +kernel) (uxC1 (by decide +kernel) (uxC1 (by decide +kernel) hI.2.2.2.2.2.2.2.2.2.2.2.2.1)))))))))))
    have k_xRW : xRW W := by
      rw [hW]
      exact (uxRW (by decide +kernel) (uxRW (by decide +kernel) (uxRW (by decide +kernel) (uxRW (by decide +kernel) (uxRW (by decide +kernel) (uxRW (by decide +kernel) (uxRW (by decide +kernel) (uxRW (by decide +kernel) (uxRW (by decide +kernel) (uxRW (by decide +kernel) (uxRW (by decide +kernel) hI.2.2.2.2.2.2.2.2.2.2.2.2.2.1)))))))))))
    have k_xWT : xWT W := by
      rw [hW]
      exact (uxWT (by decide +kernel) (uxWT (by decide +kernel) (uxWT (by decide +kernel) (uxWT (by decide +kernel) (uxWT (by decide +kernel) (uxWT (by decide +kernel) (uxWT (by decide +kernel) (uxWT (by decide +kernel) (uxWT (by decide +kernel) (uxWT (by decide +kernel) (uxWT (by decide +kernel) hI.2.2.2.2.2.2.2.2.2.2.2.2.2.2.1)))))))))))
    have k_xCU : xCU W := by
      rw [hW]
      exact (uxCU (by decide +kernel) (uxCU (by decide +kernel) (uxCU (by decide +kernel) (uxCU (by decide +kernel) (uxCU (by decide +kernel) (uxCU (by decide +kernel) (uxCU (by decide +kernel) (uxCU (by decide +kernel) (uxCU (by decide +kernel) (uxCU (by decide +kernel) (uxCU (by decide +kernel) hI.2.2.2.2.2.2.2.2.2.2.2.2.2.2.2.1)))))))))))
    have k_xG2 : xG2 W := by
      rw [hW]
      exact (uxG2 (by decide +kernel) (uxG2 (by decide +kernel) (uxG2 (by decide +kernel) (uxG2 (by decide +kernel) (uxG2 (by decide +kernel) (uxG2 (by decide +kernel) (uxG2 (by decide +kernel) (uxG2 (by decide +kernel) (uxG2 (by decide +kernel) (uxG2 (by decide +kernel) (uxG2 (by decide +kernel) hI.2.2.2.2.2.2.2.2.2.2.2.2.2.2.2.2.1)))))))))))
    have k_xG3 : xG3 W := by
      rw [hW]
      exact (uxG3 (by decide +kernel) (uxG3 (by decide +kernel) (uxG3 (by decide +kernel) (uxG3 (by decide +kernel) (uxG3 (by decide +kernel) (uxG3 (by decide +kernel) (uxG3 (by decide +kernel) (uxG3 (by decide +kernel) (uxG3 (by decide +kernel) (uxG3 (by decide +kernel) (uxG3 (by decide +kernel) hI.2.2.2.2.2.2.2.2.2.2.2.2.2.2.2.2.2.1)))))))))))
    have k_xG4 : xG4 W := by
      rw [hW]
      exact (uxG4 (by decide +kernel) (uxG4 (by decide +kernel) (uxG4 (by decide +kernel) (uxG4 (by decide +kernel) (uxG4 (by decide +kernel) (uxG4 (by decide +kernel) (uxG4 (by decide +kernel) (uxG4 (by decide +kernel) (uxG4 (by decide +kernel) (uxG4 (by decide +kernel) (uxG4 (by decide +kernel) hI.2.2.2.2.2.2.2.2.2.2.2.2.2.2.2.2.2.2.1)))))))))))
    have k_xG5 : xG5 W := by
      rw [hW]
      exact (uxG5 (by decide +kernel) (uxG5 (by decide +kernel) (uxG5 (by decide +kernel) (uxG5 (by decide +kernel) (uxG5 (by decide +kernel) (uxG5 (by decide +kernel) (uxG5 (by decide +kernel) (uxG5 (by decide +kernel) (uxG5 (by decide +kernel) (uxG5 (by decide +kernel) (uxG5 (by decide +kernel) hI.2.2.2.2.2.2.2.2.2.2.2.2.2.2.2.2.2.2.2.1)))))))))))
    have k_xG6 : xG6 W := by
      rw [hW]
      exact (uxG6 (by decide +kernel) (uxG6 (by decide +kernel) (uxG6 (by decide +kernel) (uxG6 (by decide +kernel) (uxG6 (by decide +kernel) (uxG6 (by decide +kernel) (uxG6 (by decide +kernel) (uxG6 (by decide +kernel) (uxG6 (by decide +kernel) (uxG6 (by decide +kernel) (uxG6 (by decide +kernel) hI.2.2.2.2.2.2.2.2.2.2.2.2.2.2.2.2.2.2.2.2.1)))))))))))
    have k_xS1 : xS1 W := by
      rw [hW]
      exact (uxS1 (by decide +kernel) (uxS1 (by decide +kernel) (uxS1 (by decide +kernel) (uxS1 (by decide +kernel) (uxS1 (by decide +kernel) (uxS1 (by decide +kernel) (uxS1 (by decide +kernel) (uxS1 (by decide +kernel) (uxS1 (by decide +kernel) (uxS1 (by decide +kernel) (uxS1 (by decide +kernel) hI.2.2.2.2.2.2.2.2.2.2.2.2.2.2.2.2.2.2.2.2.2.1)))))))))))
    have k_xS2 : xS2 W := by
      rw [hW]
      exact (uxS2 (by decide +kernel) (uxS2 (by decide +kernel) (uxS2 (by decide +kernel) (uxS2 (by decide +kernel) (uxS2 (by decide +kernel) (uxS2 (by decide +kernel) (uxS2 (by decide +kernel) (uxS2 (by decide +kernel) (uxS2 (by decide +kernel) (uxS2 (by decide +kernel) (uxS2 (by decide +kernel) hI.2.2.2.2.2.2.2.2.2.2.2.2.2.2.2.2.2.2.2.2.2.2.1)))))))))))
    have k_xS3 : xS3 W := by
      rw [hW]
      exact (uxS3 (by decide +kernel) (uxS3 (by decide +kernel) (uxS3 (by decide +kernel) (uxS3 (by decide +kernel) (uxS3 (by decide +kernel) (uxS3 (by decide +kernel) (uxS3 (by decide +kernel) (uxS3 (by decide +kernel) (uxS3 (by decide +kernel) (uxS3 (by decide +kernel) (uxS3 (by decide +kernel) hI.2.2.2.2.2.2.2.2.2.2.2.2.2.2.2.2.2.2.2.2.2.2.2.1)))))))))))
    have k_xS4 : xS4 W := by
      rw [hW]
      exact (uxS4 (by decide +kernel) (uxS4 (by decide +kernel) (uxS4 (by decide +kernel) (uxS4 (by decide +kernel) (uxS4 (by decide +kernel) (uxS4 (by decide +kernel) (uxS4 (by decide +kernel) (uxS4 (by decide +kernel) (uxS4 (by decide +kernel) (uxS4 (by decide +kernel) (uxS4 (by decide +kernel) hI.2.2.2.2.2.2.2.2.2.2.2.2.2.2.2.2.2.2.2.2.2.2.2.2.1)))))))))))
    have k_xS5 : xS5 W := by
      rw [hW]
      exact (uxS5 (by decide +kernel) (uxS5 (by decide +kernel) (uxS5 (by decide +kernel) (uxS5 (by decide +kernel) (uxS5 (by decide +kernel) (uxS5 (by decide +kernel) (uxS5 (by decide +kernel) (uxS5 (by decide +kernel) (uxS5 (by decide +kernel) (uxS5 (by decide +kernel) (uxS5 (by decide +kernel) hI.2.2.2.2.2.2.2.2.2.2.2.2.2.2.2.2.2.2.2.2.2.2.2.2.2.1)))))))))))
    have k_xS6 : xS6 W := by
      rw [hW]
      exact (uxS6 (by decide +kernel) (uxS6 (by decide +kernel) (uxS6 (by decide +kernel) (uxS6 (by decide +kernel) (uxS6 (by decide +kernel) (uxS6 (by decide +kernel) (uxS6 (by decide +kernel) (uxS6 (by decide +kernel) (uxS6 (by decide +kernel) (uxS6 (by decide +kernel) (uxS6 (by decide +kernel) hI.2.2.2.2.2.2.2.2.2.2.2.2.2.2.2.2.2.2.2.2.2.2.2.2.2.2.1)))))))))))
    have k_xS7 : xS7 W := by
      rw [hW]
      exact (uxS7 (by decide +kernel) (uxS7 (by decide +kernel) (uxS7 (by decide +kernel) (uxS7 (by decide +kernel) (uxS7 (by decide +kernel) (uxS7 (by decide +kernel) (uxS7 (by decide +kernel) (uxS7 (by decide +kernel) (uxS7 (by decide +kernel) (uxS7 (by decide +kernel) (uxS7 (by decide +kernel) hI.2.2.2.2.2.2.2.2.2.2.2.2.2.2.2.2.2.2.2.2.2.2.2.2.2.2.2.1)))))))))))
    have k_xS8 : xS8 W := by
      rw [hW]
      exact (uxS8 (by decide +kernel) (uxS8 (by decide +kernel) (uxS8 (by decide +kernel) (uxS8 (by decide +kernel) (uxS8 (by decide +kernel) (uxS8 (by decide +kernel) (uxS8 (by decide +kernel) (uxS8 (by decide +kernel) (uxS8 (by decide +kernel) (uxS8 (by decide +kernel) (uxS8 (by decide +kernel) hI.2.2.2.2.2.2.2.2.2.2.2.2.2.2.2.2.2.2.2.2.2.2.2.2.2.2.2.2.1)))))))))))
    have k_xS9 : xS9 W := by
      rw [hW]
      exact (uxS9 (by decide +kernel) (uxS9 (by decide +kernel) (uxS9 (by decide +kernel) (uxS9 (by decide +kernel) (uxS9 (by decide +kernel) (uxS9 (by decide +kernel) (uxS9 (by decide +kernel) (uxS9 (by decide +kernel) (uxS9 (by decide +kernel) (uxS9 (by decide +kernel) (uxS9 (by decide +kernel) hI.2.2.2.2.2.2.2.2.2.2.2.2.2.2.2.2.2.2.2.2.2.2.2.2.2.2.2.2.2.1)))))))))))
    have k_xSA : xSA W := by
      rw [hW]
      exact (uxSA (by decide +kernel) (uxSA (by decide +kernel) (uxSA (by decide +kernel) (uxSA (by decide +kernel) (uxSA (by decide +kernel) (uxSA (by decide +kernel) (uxSA (by decide +kernel) (uxSA (by decide +kernel) (uxSA (by decide +kernel) (uxSA (by decide +kernel) (uxSA (by decide +kernel) hI.2.2.2.2.2.2.2.2.2.2.2.2.2.2.2.2.2.2.2.2.2.2.2.2.2.2.2.2.2.2.1)))))))))))
    have k_xSG : xSG W := by
      rw [hW]
      exact (uxSG (by decide +kernel) (uxSG (by decide +kernel) (uxSG (by decide +kernel) (uxSG (by decide +kernel) (uxSG (by decide +kernel) (uxSG (by decide +kernel) (uxSG (by decide +kernel) (uxSG (by decide +kernel) (uxSG (by decide +kernel) (uxSG (by decide +kernel) (uxSG (by decide +kernel) hI.2.2.2.2.2.2.2.2.2.2.2.2.2.2.2.2.2.2.2.2.2.2.2.2.2.2.2.2.2.2.2.1)))))))))))
    have k_xSF : xSF W := by
      rw [hW]
      exact (uxSF (by decide +kernel) (uxSF (by decide +kernel) (uxSF (by decide +kernel) (uxSF (by decide +kernel) (uxSF (by decide +kernel) (uxSF (by decide +kernel) (uxSF (by decide +kernel) (uxSF (by decide +kernel) (uxSF (by decide +kernel) (uxSF (by decide +kernel) (uxSF (by decide +kernel) hI.2.2.2.2.2.2.2.2.2.2.2.2.2.2.2.2.2.2.2.2.2.2.2.2.2.2.2.2.2.2.2.2.1)))))))))))
    have k_xSB : xSB W := by
      rw [hW]
      exact (uxSB (by decide +kernel) (uxSB (by decide +kernel) (uxSB (by decide +kernel) (uxSB (by decide +kernel) (uxSB (by decide +kernel) (uxSB (by decide +kernel) (uxSB (by decide +kernel) (uxSB (by decide +kernel) (uxSB (by decide +kernel) (uxSB (by decide +kernel) (uxSB (by decide +kernel) hI.2.2.2.2.2.2.2.2.2.2.2.2.2.2.2.2.2.2.2.2.2.2.2.2.2.2.2.2.2.2.2.2.2.1)))))))))))
    have k_xSC : xSC W := by
      rw [hW]
      exact (uxSC (by decide +kernel) (uxSC (by decide +kernel) (uxSC (by decide +kernel) (uxSC (by decide +kernel) (uxSC (by decide +kernel) (uxSC (by decide +kernel) (uxSC (by decide +kernel) (uxSC (by decide +kernel) (uxSC (by decide +kernel) (uxSC (by decide +kernel) (uxSC (by decide +kernel) hI.2.2.2.2.2.2.2.2.2.2.2.2.2.2.2.2.2.2.2.2.2.2.2.2.2.2.2.2.2.2.2.2.2.2.1)))))))))))
    have k_xSD : xSD W := by
      rw [hW]
      exact (uxSD (by decide +kernel) (uxSD (by decide +kernel) (uxSD (by decide +kernel) (uxSD (by decide +kernel) (uxSD (by decide +kernel) (uxSD (by decide +kernel) (uxSD (by decide +kernel) (uxSD (by decide +kernel) (uxSD (by decide +kernel) (uxSD (by decide +kernel) (uxSD (by decide +kernel) hI.2.2.2.2.2.2.2.2.2.2.2.2.2.2.2.2.2.2.2.2.2.2.2.2.2.2.2.2.2.2.2.2.2.2.2.1)))))))))))
    have k_xSE : xSE W := by
      have r91_249 : W 91 249 = 1 * ρ 0 + 0 := by rw [hW, sU_ne (fun z => by omega), sU_ne (fun z => by omega), sU_ne (fun z => by omega), sU_ne (fun z => by omega), sU_ne (fun z => by omega), sU_ne (fun z => by omega), sU_ne (fun z => by omega), sU_ne (fun z => by omega), sU_ne (fun z => by omega), sU_ne (fun z => by omega), sU_at]
      have r91_250 : W 91 250 = 1 * ρ 1 + 0 := by rw [hW, sU_ne (fun z => by omega), sU_ne (fun z => by omega), sU_ne (fun z => by omega), sU_ne (fun z => by omega), sU_ne (fun z => by omega), sU_ne (fun z => by omega), sU_ne (fun z => by omega), sU_ne (fun z => by omega), sU_ne (fun z => by omega), sU_at]
      have r91_251 : W 91 251 = 1 * ρ 2 + 0 := by rw [hW, sU_ne (fun z => by omega), sU_ne (fun z => by omega), sU_ne (fun z => by omega), sU_ne (fun z => by omega), sU_ne (fun z => by omega), sU_ne (fun z => by omega), sU_ne (fun z => by omega), sU_ne (fun z => by omega), sU_at]
      have r91_252 : W 91 252 = 1 * (xop 0 (ρ 1) (ρ 2)) + 0 := by rw [hW, sU_ne (fun z => by omega), sU_ne (fun z => by omega), sU_ne (fun z => by omega), sU_ne (fun z => by omega), sU_ne (fun z => by omega), sU_ne (fun z => by omega), sU_ne (fun z => by omega), sU_at]
      have r91_253 : W 91 253 = 1 * (xop 1 (xop 0 (ρ 1) (ρ 2)) 1) + 0 := by rw [hW, sU_ne (fun z => by omega), sU_ne (fun z => by omega), sU_ne (fun z => by omega), sU_ne (fun z => by omega), sU_ne (fun z => by omega), sU_ne (fun z => by omega), sU_at]
      have r91_255 : W 91 255 = 0 := by rw [hW, sU_ne (fun z => by omega), sU_ne (fun z => by omega), sU_ne (fun z => by omega), sU_ne (fun z => by omega), sU_ne (fun z => by omega), sU_at]
      have r91_256 : W 91 256 = 1 * (xop 1 0 (M 91 243)) + 0 := by rw [hW, sU_ne (fun z => by omega), sU_ne (fun z => by omega), sU_ne (fun z => by omega), sU_ne (fun z => by omega), sU_at]
      have r91_243 : W 91 243 = M 91 243 := by rw [hW, sU_ne (fun z => by omega), sU_ne (fun z => by omega), sU_ne (fun z => by omega), sU_ne (fun z => by omega), sU_ne (fun z => by omega), sU_ne (fun z => by omega), sU_ne (fun z => by omega), sU_ne (fun z => by omega), sU_ne (fun z => by omega), sU_ne (fun z => by omega), sU_ne (fun z => by omega)]
      have r91_257 : W 91 257 = 1 * (xop 1 (xop 0 (ρ 1) (ρ 2)) 255) + 0 := by rw [hW, sU_ne (fun z => by omega), sU_ne (fun z => by omega), sU_ne (fun z => by omega), sU_at]
      intro h
      rw [r91_243, r91_250, r91_251, r91_252, r91_253, r91_255, r91_256, r91_257]
      rw [show (1 * ρ 1 + 0 : Int) = ρ 1 by omega, show (1 * ρ 2 + 0 : Int) = ρ 2 by omega, show (1 * (xop 0 (ρ 1) (ρ 2)) + 0 : Int) = xop 0 (ρ 1) (ρ 2) by omega]
      exact ⟨rfl, by omega, by omega, by omega⟩
    have k_xSW : xSW W := by
      rw [hW]
      exact (uxSW (by decide +kernel) (uxSW (by decide +kernel) (uxSW (by decide +kernel) (uxSW (by decide +kernel) (uxSW (by decide +kernel) (uxSW (by decide +kernel) (uxSW (by decide +kernel) (uxSW (by decide +kernel) (uxSW (by decide +kernel) (uxSW (by decide +kernel) (uxSW (by decide +kernel) hI.2.2.2.2.2.2.2.2.2.2.2.2.2.2.2.2.2.2.2.2.2.2.2.2.2.2.2.2.2.2.2.2.2.2.2.2.2.1)))))))))))
    have k_xST : xST W := by
      rw [hW]
      exact (uxST (by decide +kernel) (uxST (by decide +kernel) (uxST (by decide +kernel) (uxST (by decide +kernel) (uxST (by decide +kernel) (uxST (by decide +kernel) (uxST (by decide +kernel) (uxST (by decide +kernel) (uxST (by decide +kernel) (uxST (by decide +kernel) (uxST (by decide +kernel) hI.2.2.2.2.2.2.2.2.2.2.2.2.2.2.2.2.2.2.2.2.2.2.2.2.2.2.2.2.2.2.2.2.2.2.2.2.2.2.1)))))))))))
    have k_xSP : xSP W := by
      rw [hW]
      exact (uxSP (by decide +kernel) (uxSP (by decide +kernel) (uxSP (by decide +kernel) (uxSP (by decide +kernel) (uxSP (by decide +kernel) (uxSP (by decide +kernel) (uxSP (by decide +kernel) (uxSP (by decide +kernel) (uxSP (by decide +kernel) (uxSP (by decide +kernel) (uxSP (by decide +kernel) hI.2.2.2.2.2.2.2.2.2.2.2.2.2.2.2.2.2.2.2.2.2.2.2.2.2.2.2.2.2.2.2.2.2.2.2.2.2.2.2.1)))))))))))
    have k_xSL : xSL W := by
      rw [hW]
      exact (uxSL (by decide +kernel) (uxSL (by decide +kernel) (uxSL (by decide +kernel) (uxSL (by decide +kernel) (uxSL (by decide +kernel) (uxSL (by decide +kernel) (uxSL (by decide +kernel) (uxSL (by decide +kernel) (uxSL (by decide +kernel) (uxSL (by decide +kernel) (uxSL (by decide +kernel) hI.2.2.2.2.2.2.2.2.2.2.2.2.2.2.2.2.2.2.2.2.2.2.2.2.2.2.2.2.2.2.2.2.2.2.2.2.2.2.2.2.1)))))))))))
    have k_xSM : xSM W := by
      rw [hW]
      exact (uxSM (by decide +kernel) (uxSM (by decide +kernel) (uxSM (by decide +kernel) (uxSM (by decide +kernel) (uxSM (by decide +kernel) (uxSM (by decide +kernel) (uxSM (by decide +kernel) (uxSM (by decide +kernel) (uxSM (by decide +kernel) (uxSM (by decide +kernel) (uxSM (by decide +kernel) hI.2.2.2.2.2.2.2.2.2.2.2.2.2.2.2.2.2.2.2.2.2.2.2.2.2.2.2.2.2.2.2.2.2.2.2.2.2.2.2.2.2.1)))))))))))
    have k_xSI : xSI W := by
      have r91_259 : W 91 259 = 1 * ρ 0 + 0 := by rw [hW, sU_ne (fun z => by omega), sU_ne (fun z => by omega), sU_at]
      have r91_258 : W 91 258 = 1 * ((Int32.ofInt (xop 0 (ρ 1) (ρ 2))).toInt8.toInt32.toInt) + 0 := by rw [hW, sU_at]
      have r91_248 : W 91 248 = 1 * (xop 0 (ρ 1) (ρ 2)) + 0 := by rw [hW, sU_ne (fun z => by omega), sU_at]
      intro h
      rw [r91_258, r91_248, show (1 * (xop 0 (ρ 1) (ρ 2)) + 0 : Int) = xop 0 (ρ 1) (ρ 2) by omega]
      omega
    have k_XC : XC W := ⟨k_xS1, k_xS2, k_xS3, k_xS4, k_xS5, k_xS6, k_xS7, k_xS8, k_xS9, k_xSA, k_xSG, k_xSF, k_xSB, k_xSC, k_xSD, k_xSE, k_xSW, k_xST, k_xSP, k_xSL, k_xSM, k_xSI⟩
    have kXB : XB W := ⟨k_xN1, k_xN2, k_xN3, k_xN4, k_xN5, k_xN6, k_xH1, k_xK1, k_xC1, k_xRW, k_xWT, k_xCU, k_xG2, k_xG3, k_xG4, k_xG5, k_xG6, k_XC⟩
    exact ⟨base, k2, k3, kXA, kXB⟩
-- fdSh0
def xr_604 : qRu := (2, [[(2147483648, 0), (1, 1)], [(2147483647, 0), (-1, 1)]], [], [], [(91, 249, [(1, 0)]), (91, 250, [(1, 1)]), (91, 251, []), (91, 252, [(1, 1)]), (91, 253, [(1, 2)]), (91, 255, []), (91, 256, [(1, 3)]), (91, 257, [(1, 4)]), (91, 259, [(1, 0)]), (91, 248, [(1, 1)]), (91, 258, [(1, 5)])], [[(128, 0), (1, 5)], [(127, 0), (-1, 5)], [(1, 4)], [(255, 0), (-1, 4)]])
theorem xo_604 : qRok xr_604 := by
  intro ρ M h0 hf hm hI
  have f0 := hf [(2147483648, 0), (1, 1)] (by decide)
  have f1 := hf [(2147483647, 0), (-1, 1)] (by decide)
  simp only [qD, h0] at f0 f1
  have qxSE := hI.2.2.2.2.2.2.2.2.2.2.2.2.2.2.2.2.2.2.2.2.2.2.2.2.2.2.2.2.2.2.2.2.2.2.2.2.1
  have qxSI := hI.2.2.2.2.2.2.2.2.2.2.2.2.2.2.2.2.2.2.2.2.2.2.2.2.2.2.2.2.2.2.2.2.2.2.2.2.2.2.2.2.2.2
  have hz := zn_and (Int32.ofInt (ρ 1)) (m := 255) (by decide) (by decide)
  have hz : 0 ≤ xop 1 (ρ 1) 255 ∧ xop 1 (ρ 1) 255 ≤ 255 := hz
  have hi := xi2b (ρ 1)
  have hi2 : -128 ≤ (Int32.ofInt (ρ 1)).toInt8.toInt32.toInt ∧ (Int32.ofInt (ρ 1)).toInt8.toInt32.toInt ≤ 127 := by
    rw [hi]
    unfold tSn
    split <;> omega
  have hs0 : xop 0 (ρ 1) 0 = ρ 1 := xop_s0 (by omega) (by omega)
  refine ⟨fun a => cond (Nat.blt a 2) (ρ a) (([xop 1 (ρ 1) 1, xop 1 0 (M 91 243), xop 1 (ρ 1) 255, (Int32.ofInt (ρ 1)).toInt8.toInt32.toInt] : List Int).getD (a - 2) 0), fun a ha => ?_, fun f h => ?_, ?_⟩
  · show cond (Nat.blt a 2) (ρ a) _ = ρ a
    rw [show Nat.blt a 2 = true from Nat.ble_eq_true_of_le ha]; rfl
  · have h : f ∈ ([[(128, 0), (1, 5)], [(127, 0), (-1, 5)], [(1, 4)], [(255, 0), (-1, 4)]] : List qF) := h
    simp only [List.mem_cons, List.not_mem_nil, or_false] at h
    rcases h with rfl | rfl | rfl | rfl
    · show 0 ≤ 128 * ρ 0 + (1 * ((Int32.ofInt (ρ 1)).toInt8.toInt32.toInt) + 0)
      (try rw [h0]); omega
    · show 0 ≤ 127 * ρ 0 + (-1 * ((Int32.ofInt (ρ 1)).toInt8.toInt32.toInt) + 0)
      (try rw [h0]); omega
    · show 0 ≤ 1 * (xop 1 (ρ 1) 255) + 0
      (try rw [h0]); omega
    · show 0 ≤ 255 * ρ 0 + (-1 * (xop 1 (ρ 1) 255) + 0)
      (try rw [h0]); omega
  · show sI (sU (sU (sU (sU (sU (sU (sU (sU (sU (sU (sU M 91 249 (1 * ρ 0 + 0)) 91 250 (1 * ρ 1 + 0)) 91 251 (0)) 91 252 (1 * ρ 1 + 0)) 91 253 (1 * (xop 1 (ρ 1) 1) + 0)) 91 255 (0)) 91 256 (1 * (xop 1 0 (M 91 243)) + 0)) 91 257 (1 * (xop 1 (ρ 1) 255) + 0)) 91 259 (1 * ρ 0 + 0)) 91 248 (1 * ρ 1 + 0)) 91 258 (1 * ((Int32.ofInt (ρ 1)).toInt8.toInt32.toInt) + 0))
    obtain ⟨W, hW⟩ : ∃ W, W = (sU (sU (sU (sU (sU (sU (sU (sU (sU (sU (sU M 91 249 (1 * ρ 0 + 0)) 91 250 (1 * ρ 1 + 0)) 91 251 (0)) 91 252 (1 * ρ 1 + 0)) 91 253 (1 * (xop 1 (ρ 1) 1) + 0)) 91 255 (0)) 91 256 (1 * (xop 1 0 (M 91 243)) + 0)) 91 257 (1 * (xop 1 (ρ 1) 255) + 0)) 91 259 (1 * ρ 0 + 0)) 91 248 (1 * ρ 1 + 0)) 91 258 (1 * ((Int32.ofInt (ρ 1)).toInt8.toInt32.toInt) + 0)) := ⟨_, rfl⟩
    rw [← hW]
    have base : sI0 W := by
      rw [hW]
      exact (si_u0 (si_u0 (si_u0 (si_u0 (si_u0 (si_u0 (si_u0 (si_u0 (si_u0 (si_u0 (si_u0 hI.1 (fun r hr => by cases hr)) (fun r hr => by cases hr)) (fun r hr => by cases hr)) (fun r hr => by cases hr)) (fun r hr => by cases hr)) (fun r hr => by cases hr)) (fun r hr => by cases hr)) (fun r hr => by cases hr)) (fun r hr => by cases hr)) (fun r hr => by cases hr)) (fun r hr => by cases hr))
    have k2 : XI2 W := by
      rw [hW]
      exact (xi2_u (by decide +kernel) (xi2_u (by decide +kernel) (xi2_u (by decide +kernel) (xi2_u (by decide +kernel) (xi2_u (by decide +kernel) (xi2_u (by decide +kernel) (xi2_u (by decide +kernel) (xi2_u (by decide +kernel) (xi2_u (by decide +kernel) (xi2_u (by decide +kernel) (xi2_u (by decide +kernel) hI.2.1)))))))))))
    have k3 : XI3 W := by
      rw [hW]
      exact (xi3_u (by decide +kernel) (xi3_u (by decide +kernel) (xi3_u (by decide +kernel) (xi3_u (by decide +kernel) (xi3_u (by decide +kernel) (xi3_u (by decide +kernel) (xi3_u (by decide +kernel) (xi3_u (by decide +kernel) (xi3_u (by decide +kernel) (xi3_u (by decide +kernel) (xi3_u (by decide +kernel) hI.2.2.1)))))))))))
    have kXA : XA W := by
      rw [hW]
      exact (uXA (by decide +kernel) (uXA (by decide +kernel) (uXA (by decide +kernel) (uXA (by decide +kernel) (uXA (by decide +kernel) (uXA (by decide +kernel) (uXA (by decide +kernel) (uXA (by decide +kernel) (uXA (by decide +kernel) (uXA (by decide +kernel) (uXA (by decide +kernel) hI.2.2.2.1)))))))))))
    have k_xN1 : xN1 W := by
      rw [hW]
      exact (uxN1 (by decide +kernel) (uxN1 (by decide +kernel) (uxN1 (by decide +kernel) (uxN1 (by decide +kernel) (uxN1 (by decide +kernel) (uxN1 (by decide +kernel) (uxN1 (by decide +kernel) (uxN1 (by decide +kernel) (uxN1 (by decide +kernel) (uxN1 (by decide +kernel) (uxN1 (by decide +kernel) hI.2.2.2.2.1)))))))))))
    have k_xN2 : xN2 W := by
      rw [hW]
      exact (uxN2 (by decide +kernel) (uxN2 (by decide +kernel) (uxN2 (by decide +kernel) (uxN2 (by decide +kernel) (uxN2 (by decide +kernel) (uxN2 (by decide +kernel) (uxN2 (by decide +kernel) (uxN2 (by decide +kernel) (uxN2 (by decide +kernel) (uxN2 (by decide +kernel) (uxN2 (by decide +kernel) hI.2.2.2.2.2.1)))))))))))
    have k_xN3 : xN3 W := by
      rw [hW]
      exact (uxN3 (by decide +kernel) (uxN3 (by decide +kernel) (uxN3 (by decide +kernel) (uxN3 (by decide +kernel) (uxN3 (by decide +kernel) (uxN3 (by decide +kernel) (uxN3 (by decide +kernel) (uxN3 (by decide +kernel) (uxN3 (by decide +kernel) (uxN3 (by decide +kernel) (uxN3 (by decide +kernel) hI.2.2.2.2.2.2.1)))))))))))
    have k_xN4 : xN4 W := by
      rw [hW]
      exact (uxN4 (by decide +kernel) (uxN4 (by decide +kernel) (uxN4 (by decide +kernel) (uxN4 (by decide +kernel) (uxN4 (by decide +kernel) (uxN4 (by decide +kernel) (uxN4 (by decide +kernel) (uxN4 (by decide +kernel) (uxN4 (by decide +kernel) (uxN4 (by decide +kernel) (uxN4 (by decide +kernel) hI.2.2.2.2.2.2.2.1)))))))))))
    have k_xN5 : xN5 W := by
      rw [hW]
      exact (uxN5 (by decide +kernel) (uxN5 (by decide +kernel) (uxN5 (by decide +kernel) (uxN5 (by decide +kernel) (uxN5 (by decide +kernel) (uxN5 (by decide +kernel) (uxN5 (by decide +kernel) (uxN5 (by decide +kernel) (uxN5 (by decide +kernel) (uxN5 (by decide +kernel) (uxN5 (by decide +kernel) hI.2.2.2.2.2.2.2.2.1)))))))))))
    have k_xN6 : xN6 W := by
      rw [hW]
      exact (uxN6 (by decide +kernel) (uxN6 (by decide +kernel) (uxN6 (by decide +kernel) (uxN6 (by decide +kernel) (uxN6 (by decide +kernel) (uxN6 (by decide +kernel) (uxN6 (by decide +kernel) (uxN6 (by decide +kernel) (uxN6 (by decide +kernel) (uxN6 (by decide +kernel) (uxN6 (by decide +kernel) hI.2.2.2.2.2.2.2.2.2.1)))))))))))
    have k_xH1 : xH1 W := by
      rw [hW]
      exact (uxH1 (by decide +kernel) (uxH1 (by decide +kernel) (uxH1 (by decide +kernel) (uxH1 (by decide +kernel) (uxH1 (by decide +kernel) (uxH1 (by decide +kernel) (uxH1 (by decide +kernel) (uxH1 (by decide +kernel) (uxH1 (by decide +kernel) (uxH1 (by decide +kernel) (uxH1 (by decide +kernel) hI.2.2.2.2.2.2.2.2.2.2.1)))))))))))
    have k_xK1 : xK1 W := by
      rw [hW]
      exact (uxK1 (by decide +kernel) (uxK1 (by decide +kernel) (uxK1 (by decide +kernel) (uxK1 (by decide +kernel) (uxK1 (by decide +kernel) (uxK1 (by decide +kernel) (uxK1 (by decide +kernel) (uxK1 (by decide +kernel) (uxK1 (by decide +kernel) (uxK1 (by decide +kernel) (uxK1 (by decide +kernel) hI.2.2.2.2.2.2.2.2.2.2.2.1)))))))))))
    have k_xC1 : xC1 W := by
      rw [hW]
      exact (uxC1 (by decide +kernel) (uxC1 (by decide +kernel) (uxC1 (by decide +kernel) (uxC1 (by decide +kernel) (uxC1 (by decide +kernel) (uxC1 (by decide +kernel) (uxC1 (by decide +kernel) (uxC1 (by decide +kernel) (uxC1 (by decide +kernel) (uxC1 (by decide +kernel) (uxC1 (by decide +kernel) hI.2.2.2.2.2.2.2.2.2.2.2.2.1)))))))))))
    have k_xRW : xRW W := by
      rw [hW]
      exact (uxRW (by decide +kernel) (uxRW (by decide +kernel) (uxRW (by decide +kernel) (uxRW (by decide +kernel) (uxRW (by decide +kernel) (uxRW (by decide +kernel) (uxRW (by decide +kernel) (uxRW (by decide +kernel) (uxRW (by decide +kernel) (uxRW (by decide +kernel) (uxRW (by decide +kernel) hI.2.2.2.2.2.2.2.2.2.2.2.2.2.1)))))))))))
    have k_xWT : xWT W := by
      rw [hW]
      exact (uxWT (by decide +kernel) (uxWT (by decide +kernel) (uxWT (by decide +kernel) (uxWT (by decide +kernel) (uxWT (by decide +kernel) (uxWT (by decide +kernel) (uxWT (by decide +kernel) (uxWT (by decide +kernel) (uxWT (by decide +kernel) (uxWT (by decide +kernel) (uxWT (by decide +kernel) hI.2.2.2.2.2.2.2.2.2.2.2.2.2.2.1)))))))))))
    have k_xCU : xCU W := by
      rw [hW]
      exact (uxCU (by decide +kernel) (uxCU (by decide +kernel) (uxCU (by decide +kernel) (uxCU (by decide +kernel) (uxCU (by decide +kernel) (uxCU (by decide +kernel) (uxCU (by decide +kernel) (uxCU (by decide +kernel) (uxCU (by decide +kernel) (uxCU (by decide +kernel) (uxCU (by decide +kernel) hI.2.2.2.2.2.2.2.2.2.2.2.2.2.2.2.1)))))))))))
    have k_xG2 : xG2 W := by
      rw [hW]
      exact (uxG2 (by decide +kernel) (uxG2 (by decide +kernel) (uxG2 (by decide +kernel) (uxG2 (by decide +kernel) (uxG2 (by decide +kernel) (uxG2 (by decide +kernel) (uxG2 (by decide +kernel) (uxG2 (by decide +kernel) (uxG2 (by decide +kernel) (uxG2 (by decide +kernel) (uxG2 (by decide +kernel) hI.2.2.2.2.2.2.2.2.2.2.2.2.2.2.2.2.1)))))))))))
    have k_xG3 : xG3 W := by
      rw [hW]
      exact (uxG3 (by decide +kernel) (uxG3 (by decide +kernel) (uxG3 (by decide +kernel) (uxG3 (by decide +kernel) (uxG3 (by decide +kernel) (uxG3 (by decide +kernel) (uxG3 (by decide +kernel) (uxG3 (by decide +kernel) (uxG3 (by decide +kernel) (uxG3 (by decide +kernel) (uxG3 (by decide +kernel) hI.2.2.2.2.2.2.2.2.2.2.2.2.2.2.2.2.2.1)))))))))))
    have k_xG4 : xG4 W := by
      rw [hW]
      exact (uxG4 (by decide +kernel) (uxG4 (by decide +kernel) (uxG4 (by decide +kernel) (uxG4 (by decide +kernel) (uxG4 (by decide +kernel) (uxG4 (by decide +kernel) (uxG4 (by decide +kernel) (uxG4 (by decide +kernel) (uxG4 (by decide +kernel) (uxG4 (by decide +kernel) (uxG4 (by decide +kernel) hI.2.2.2.2.2.2.2.2.2.2.2.2.2.2.2.2.2.2.1)))))))))))
    have k_xG5 : xG5 W := by
      rw [hW]
      exact (uxG5 (by decide +kernel) (uxG5 (by decide +kernel) (uxG5 (by decide +kernel) (uxG5 (by decide +kernel) (uxG5 (by decide +kernel) (uxG5 (by decide +kernel) (uxG5 (by decide +kernel) (uxG5 (by decide +kernel) (uxG5 (by decide +kernel) (uxG5 (by decide +kernel) (uxG5 (by decide +kernel) hI.2.2.2.2.2.2.2.2.2.2.2.2.2.2.2.2.2.2.2.1)))))))))))
    have k_xG6 : xG6 W := by
      rw [hW]
      exact (uxG6 (by decide +kernel) (uxG6 (by decide +kernel) (uxG6 (by decide +kernel) (uxG6 (by decide +kernel) (uxG6 (by decide +kernel) (uxG6 (by decide +kernel) (uxG6 (by decide +kernel) (uxG6 (by decide +kernel) (uxG6 (by decide +kernel) (uxG6 (by decide +kernel) (uxG6 (by decide +kernel) hI.2.2.2.2.2.2.2.2.2.2.2.2.2.2.2.2.2.2.2.2.1)))))))))))
    have k_xS1 : xS1 W := by
      rw [hW]
      exact (uxS1 (by decide +kernel) (uxS1 (by decide +kernel) (uxS1 (by decide +kernel) (uxS1 (by decide +kernel) (uxS1 (by decide +kernel) (uxS1 (by decide +kernel) (uxS1 (by decide +kernel) (uxS1 (by decide +kernel) (uxS1 (by decide +kernel) (uxS1 (by decide +kernel) (uxS1 (by decide +kernel) hI.2.2.2.2.2.2.2.2.2.2.2.2.2.2.2.2.2.2.2.2.2.1)))))))))))
    have k_xS2 : xS2 W := by
      rw [hW]
      exact (uxS2 (by decide +kernel) (uxS2 (by decide +kernel) (uxS2 (by decide +kernel) (uxS2 (by decide +kernel) (uxS2 (by decide +kernel) (uxS2 (by decide +kernel) (uxS2 (by decide +kernel) (uxS2 (by decide +kernel) (uxS2 (by decide +kernel) (uxS2 (by decide +kernel) (uxS2 (by decide +kernel) hI.2.2.2.2.2.2.2.2.2.2.2.2.2.2.2.2.2.2.2.2.2.2.1)))))))))))
    have k_xS3 : xS3 W := by
      rw [hW]
      exact (uxS3 (by decide +kernel) (uxS3 (by decide +kernel) (uxS3 (by decide +kernel) (uxS3 (by decide +kernel) (uxS3 (by decide +kernel) (uxS3 (by decide +kernel) (uxS3 (by decide +kernel) (uxS3 (by decide +kernel) (uxS3 (by decide +kernel) (uxS3 (by decide +kernel) (uxS3 (by decide +kernel) hI.2.2.2.2.2.2.2.2.2.2.2.2.2.2.2.2.2.2.2.2.2.2.2.1)))))))))))
    have k_xS4 : xS4 W := by
      rw [hW]
      exact (uxS4 (by decide +kernel) (uxS4 (by decide +kernel) (uxS4 (by decide +kernel) (uxS4 (by decide +kernel) (uxS4 (by decide +kernel) (uxS4 (by decide +kernel) (uxS4 (by decide +kernel) (uxS4 (by decide +kernel) (uxS4 (by decide +kernel) (uxS4 (by decide +kernel) (uxS4 (by decide +kernel) hI.2.2.2.2.2.2.2.2.2.2.2.2.2.2.2.2.2.2.2.2.2.2.2.2.1)))))))))))
    have k_xS5 : xS5 W := by
      rw [hW]
      exact (uxS5 (by decide +kernel) (uxS5 (by decide +kernel) (uxS5 (by decide +kernel) (uxS5 (by decide +kernel) (uxS5 (by decide +kernel) (uxS5 (by decide +kernel) (uxS5 (by decide +kernel) (uxS5 (by decide +kernel) (uxS5 (by decide +kernel) (uxS5 (by decide +kernel) (uxS5 (by decide +kernel) hI.2.2.2.2.2.2.2.2.2.2.2.2.2.2.2.2.2.2.2.2.2.2.2.2.2.1)))))))))))
    have k_xS6 : xS6 W := by
      rw [hW]
      exact (uxS6 (by decide +kernel) (uxS6 (by decide +kernel) (uxS6 (by decide +kernel) (uxS6 (by decide +kernel) (uxS6 (by decide +kernel) (uxS6 (by decide +kernel) (uxS6 (by decide +kernel) (uxS6 (by decide +kernel) (uxS6 (by decide +kernel) (uxS6 (by decide +kernel) (uxS6 (by decide +kernel) hI.2.2.2.2.2.2.2.2.2.2.2.2.2.2.2.2.2.2.2.2.2.2.2.2.2.2.1)))))))))))
    have k_xS7 : xS7 W := by
      rw [hW]
      exact (uxS7 (by decide +kernel) (uxS7 (by decide +kernel) (uxS7 (by decide +kernel) (uxS7 (by decide +kernel) (uxS7 (by decide +kernel) (uxS7 (by decide +kernel) (uxS7 (by decide +kernel) (uxS7 (by decide +kernel) (uxS7 (by decide +kernel) (uxS7 (by decide +kernel) (uxS7 (by decide +kernel) hI.2.2.2.2.2.2.2.2.2.2.2.2.2.2.2.2.2.2.2.2.2.2.2.2.2.2.2.1)))))))))))
    have k_xS8 : xS8 W := by
      rw [hW]
      exact (uxS8 (by decide +kernel) (uxS8 (by decide +kernel) (uxS8 (by decide +kernel) (uxS8 (by decide +kernel) (uxS8 (by decide +kernel) (uxS8 (by decide +kernel) (uxS8 (by decide +kernel) (uxS8 (by decide +kernel) (uxS8 (by decide +kernel) (uxS8 (by decide +kernel) (uxS8 (by decide +kernel) hI.2.2.2.2.2.2.2.2.2.2.2.2.2.2.2.2.2.2.2.2.2.2.2.2.2.2.2.2.1)))))))))))
    have k_xS9 : xS9 W := by
      rw [hW]
      exact (uxS9 (by decide +kernel) (uxS9 (by decide +kernel) (uxS9 (by decide +kernel) (uxS9 (by decide +kernel) (uxS9 (by decide +kernel) (uxS9 (by decide +kernel) (uxS9 (by decide +kernel) (uxS9 (by decide +kernel) (uxS9 (by decide +kernel) (uxS9 (by decide +kernel) (uxS9 (by decide +kernel) hI.2.2.2.2.2.2.2.2.2.2.2.2.2.2.2.2.2.2.2.2.2.2.2.2.2.2.2.2.2.1)))))))))))
    have k_xSA : xSA W := by
      rw [hW]
      exact (uxSA (by decide +kernel) (uxSA (by decide +kernel) (uxSA (by decide +kernel) (uxSA (by decide +kernel) (uxSA (by decide +kernel) (uxSA (by decide +kernel) (uxSA (by decide +kernel) (uxSA (by decide +kernel) (uxSA (by decide +kernel) (uxSA (by decide +kernel) (uxSA (by decide +kernel) hI.2.2.2.2.2.2.2.2.2.2.2.2.2.2.2.2.2.2.2.2.2.2.2.2.2.2.2.2.2.2.1)))))))))))
    have k_xSG : xSG W := by
      rw [hW]
      exact (uxSG (by decide +kernel) (uxSG (by decide +kernel) (uxSG (by decide +kernel) (uxSG (by decide +kernel) (uxSG (by decide +kernel) (uxSG (by decide +kernel) (uxSG (by decide +kernel) (uxSG (by decide +kernel) (uxSG (by decide +kernel) (uxSG (by decide +kernel) (uxSG (by decide +kernel) hI.2.2.2.2.2.2.2.2.2.2.2.2.2.2.2.2.2.2.2.2.2.2.2.2.2.2.2.2.2.2.2.1)))))))))))
    have k_xSF : xSF W := by
      rw [hW]
      exact (uxSF (by decide +kernel) (uxSF (by decide +kernel) (uxSF (by decide +kernel) (uxSF (by decide +kernel) (uxSF (by decide +kernel) (uxSF (by decide +kernel) (uxSF (by decide +kernel) (uxSF (by decide +kernel) (uxSF (by decide +kernel) (uxSF (by decide +kernel) (uxSF (by decide +kernel) hI.2.2.2.2.2.2.2.2.2.2.2.2.2.2.2.2.2.2.2.2.2.2.2.2.2.2.2.2.2.2.2.2.1)))))))))))
    have k_xSB : xSB W := by
      rw [hW]
      exact (uxSB (by decide +kernel) (uxSB (by decide +kernel) (uxSB (by decide +kernel) (uxSB (by decide +kernel) (uxSB (by decide +kernel) (uxSB (by decide +kernel) (uxSB (by decide +kernel) (uxSB (by decide +kernel) (uxSB (by decide +kernel) (uxSB (by decide +kernel) (uxSB (by decide +kernel) hI.2.2.2.2.2.2.2.2.2.2.2.2.2.2.2.2.2.2.2.2.2.2.2.2.2.2.2.2.2.2.2.2.2.1)))))))))))
    have k_xSC : xSC W := by
      rw [hW]
      exact (uxSC (by decide +kernel) (uxSC (by decide +kernel) (uxSC (by decide +kernel) (uxSC (by decide +kernel) (uxSC (by decide +kernel) (uxSC (by decide +kernel) (uxSC (by decide +kernel) (uxSC (by decide +kernel) (uxSC (by decide +kernel) (uxSC (by decide +kernel) (uxSC (by decide +kernel) hI.2.2.2.2.2.2.2.2.2.2.2.2.2.2.2.2.2.2.2.2.2.2.2.2.2.2.2.2.2.2.2.2.2.2.1)))))))))))
    have k_xSD : xSD W := by
      rw [hW]
      exact (uxSD (by decide +kernel) (uxSD (by decide +kernel) (uxSD (by decide +kernel) (uxSD (by decide +kernel) (uxSD (by decide +kernel) (uxSD (by decide +kernel) (uxSD (by decide +kernel) (uxSD (by decide +kernel) (uxSD (by decide +kernel) (uxSD (by decide +kernel) (uxSD (by decide +kernel) hI.2.2.2.2.2.2.2.2.2.2.2.2.2.2.2.2.2.2.2.2.2.2.2.2.2.2.2.2.2.2.2.2.2.2.2.1)))))))))))
    have k_xSE : xSE W := by
      have r91_249 : W 91 249 = 1 * ρ 0 + 0 := by rw [hW, sU_ne (fun z => by omega), sU_ne (fun z => by omega), sU_ne (fun z => by omega), sU_ne (fun z => by omega), sU_ne (fun z => by omega), sU_ne (fun z => by omega), sU_ne (fun z => by omega), sU_ne (fun z => by omega), sU_ne (fun z => by omega), sU_ne (fun z => by omega), sU_at]
      have r91_250 : W 91 250 = 1 * ρ 1 + 0 := by rw [hW, sU_ne (fun z => by omega), sU_ne (fun z => by omega), sU_ne (fun z => by omega), sU_ne (fun z => by omega), sU_ne (fun z => by omega), sU_ne (fun z => by omega), sU_ne (fun z => by omega), sU_ne (fun z => by omega), sU_ne (fun z => by omega), sU_at]
      have r91_251 : W 91 251 = 0 := by rw [hW, sU_ne (fun z => by omega), sU_ne (fun z => by omega), sU_ne (fun z => by omega), sU_ne (fun z => by omega), sU_ne (fun z => by omega), sU_ne (fun z => by omega), sU_ne (fun z => by omega), sU_ne (fun z => by omega), sU_at]
      have r91_252 : W 91 252 = 1 * ρ 1 + 0 := by rw [hW, sU_ne (fun z => by omega), sU_ne (fun z => by omega), sU_ne (fun z => by omega), sU_ne (fun z => by omega), sU_ne (fun z => by omega), sU_ne (fun z => by omega), sU_ne (fun z => by omega), sU_at]
      have r91_253 : W 91 253 = 1 * (xop 1 (ρ 1) 1) + 0 := by rw [hW, sU_ne (fun z => by omega), sU_ne (fun z => by omega), sU_ne (fun z => by omega), sU_ne (fun z => by omega), sU_ne (fun z => by omega), sU_ne (fun z => by omega), sU_at]
      have r91_255 : W 91 255 = 0 := by rw [hW, sU_ne (fun z => by omega), sU_ne (fun z => by omega), sU_ne (fun z => by omega), sU_ne (fun z => by omega), sU_ne (fun z => by omega), sU_at]
      have r91_256 : W 91 256 = 1 * (xop 1 0 (M 91 243)) + 0 := by rw [hW, sU_ne (fun z => by omega), sU_ne (fun z => by omega), sU_ne (fun z => by omega), sU_ne (fun z => by omega), sU_at]
      have r91_243 : W 91 243 = M 91 243 := by rw [hW, sU_ne (fun z => by omega), sU_ne (fun z => by omega), sU_ne (fun z => by omega), sU_ne (fun z => by omega), sU_ne (fun z => by omega), sU_ne (fun z => by omega), sU_ne (fun z => by omega), sU_ne (fun z => by omega), sU_ne (fun z => by omega), sU_ne (fun z => by omega), sU_ne (fun z => by omega)]
      have r91_257 : W 91 257 = 1 * (xop 1 (ρ 1) 255) + 0 := by rw [hW, sU_ne (fun z => by omega), sU_ne (fun z => by omega), sU_ne (fun z => by omega), sU_at]
      intro h
      rw [r91_243, r91_250, r91_251, r91_252, r91_253, r91_255, r91_256, r91_257]
      rw [show (1 * ρ 1 + 0 : Int) = ρ 1 by omega, hs0]
      exact ⟨rfl, by omega, by omega, by omega⟩
    have k_xSW : xSW W := by
      rw [hW]
      exact (uxSW (by decide +kernel) (uxSW (by decide +kernel) (uxSW (by decide +kernel) (uxSW (by decide +kernel) (uxSW (by decide +kernel) (uxSW (by decide +kernel) (uxSW (by decide +kernel) (uxSW (by decide +kernel) (uxSW (by decide +kernel) (uxSW (by decide +kernel) (uxSW (by decide +kernel) hI.2.2.2.2.2.2.2.2.2.2.2.2.2.2.2.2.2.2.2.2.2.2.2.2.2.2.2.2.2.2.2.2.2.2.2.2.2.1)))))))))))
    have k_xST : xST W := by
      rw [hW]
      exact (uxST (by decide +kernel) (uxST (by decide +kernel) (uxST (by decide +kernel) (uxST (by decide +kernel) (uxST (by decide +kernel) (uxST (by decide +kernel) (uxST (by decide +kernel) (uxST (by decide +kernel) (uxST (by decide +kernel) (uxST (by decide +kernel) (uxST (by decide +kernel) hI.2.2.2.2.2.2.2.2.2.2.2.2.2.2.2.2.2.2.2.2.2.2.2.2.2.2.2.2.2.2.2.2.2.2.2.2.2.2.1)))))))))))
    have k_xSP : xSP W := by
      rw [hW]
      exact (uxSP (by decide +kernel) (uxSP (by decide +kernel) (uxSP (by decide +kernel) (uxSP (by decide +kernel) (uxSP (by decide +kernel) (uxSP (by decide +kernel) (uxSP (by decide +kernel) (uxSP (by decide +kernel) (uxSP (by decide +kernel) (uxSP (by decide +kernel) (uxSP (by decide +kernel) hI.2.2.2.2.2.2.2.2.2.2.2.2.2.2.2.2.2.2.2.2.2.2.2.2.2.2.2.2.2.2.2.2.2.2.2.2.2.2.2.1)))))))))))
    have k_xSL : xSL W := by
      rw [hW]
      exact (uxSL (by decide +kernel) (uxSL (by decide +kernel) (uxSL (by decide +kernel) (uxSL (by decide +kernel) (uxSL (by decide +kernel) (uxSL (by decide +kernel) (uxSL (by decide +kernel) (uxSL (by decide +kernel) (uxSL (by decide +kernel) (uxSL (by decide +kernel) (uxSL (by decide +kernel) hI.2.2.2.2.2.2.2.2.2.2.2.2.2.2.2.2.2.2.2.2.2.2.2.2.2.2.2.2.2.2.2.2.2.2.2.2.2.2.2.2.1)))))))))))
    have k_xSM : xSM W := by
      rw [hW]
      exact (uxSM (by decide +kernel) (uxSM (by decide +kernel) (uxSM (by decide +kernel) (uxSM (by decide +kernel) (uxSM (by decide +kernel) (uxSM (by decide +kernel) (uxSM (by decide +kernel) (uxSM (by decide +kernel) (uxSM (by decide +kernel) (uxSM (by decide +kernel) (uxSM (by decide +kernel) hI.2.2.2.2.2.2.2.2.2.2.2.2.2.2.2.2.2.2.2.2.2.2.2.2.2.2.2.2.2.2.2.2.2.2.2.2.2.2.2.2.2.1)))))))))))
    have k_xSI : xSI W := by
      have r91_259 : W 91 259 = 1 * ρ 0 + 0 := by rw [hW, sU_ne (fun z => by omega), sU_ne (fun z => by omega), sU_at]
      have r91_258 : W 91 258 = 1 * ((Int32.ofInt (ρ 1)).toInt8.toInt32.toInt) + 0 := by rw [hW, sU_at]
      have r91_248 : W 91 248 = 1 * ρ 1 + 0 := by rw [hW, sU_ne (fun z => by omega), sU_at]
      intro h
      rw [r91_258, r91_248, show (1 * ρ 1 + 0 : Int) = ρ 1 by omega]
      omega
    have k_XC : XC W := ⟨k_xS1, k_xS2, k_xS3, k_xS4, k_xS5, k_xS6, k_xS7, k_xS8, k_xS9, k_xSA, k_xSG, k_xSF, k_xSB, k_xSC, k_xSD, k_xSE, k_xSW, k_xST, k_xSP, k_xSL, k_xSM, k_xSI⟩
    have kXB : XB W := ⟨k_xN1, k_xN2, k_xN3, k_xN4, k_xN5, k_xN6, k_xH1, k_xK1, k_xC1, k_xRW, k_xWT, k_xCU, k_xG2, k_xG3, k_xG4, k_xG5, k_xG6, k_XC⟩
    exact ⟨base, k2, k3, kXA, kXB⟩
-- fdOff
def xr_605 : qRu := (1, [], [], [], [(91, 249, []), (91, 259, [])], [])
theorem xo_605 : qRok xr_605 := by
  intro ρ M h0 hf hm hI
  refine ⟨ρ, fun _ _ => rfl, fun f h => ?_, ?_⟩
  · exact nomatch h
  · show sI (sU (sU M 91 249 (0)) 91 259 (0))
    obtain ⟨W, hW⟩ : ∃ W, W = (sU (sU M 91 249 (0)) 91 259 (0)) := ⟨_, rfl⟩
    rw [← hW]
    have base : sI0 W := by
      rw [hW]
      exact (si_u0 (si_u0 hI.1 (fun r hr => by cases hr)) (fun r hr => by cases hr))
    have k2 : XI2 W := by
      rw [hW]
      exact (xi2_u (by decide +kernel) (xi2_u (by decide +kernel) hI.2.1))
    have k3 : XI3 W := by
      rw [hW]
      exact (xi3_u (by decide +kernel) (xi3_u (by decide +kernel) hI.2.2.1))
    have kXA : XA W := by
      rw [hW]
      exact (uXA (by decide +kernel) (uXA (by decide +kernel) hI.2.2.2.1))
    have k_xN1 : xN1 W := by
      rw [hW]
      exact (uxN1 (by decide +kernel) (uxN1 (by decide +kernel) hI.2.2.2.2.1))
    have k_xN2 : xN2 W := by
      rw [hW]
      exact (uxN2 (by decide +kernel) (uxN2 (by decide +kernel) hI.2.2.2.2.2.1))
    have k_xN3 : xN3 W := by
      rw [hW]
      exact (uxN3 (by decide +kernel) (uxN3 (by decide +kernel) hI.2.2.2.2.2.2.1))
    have k_xN4 : xN4 W := by
      rw [hW]
      exact (uxN4 (by decide +kernel) (uxN4 (by decide +kernel) hI.2.2.2.2.2.2.2.1))
    have k_xN5 : xN5 W := by
      rw [hW]
      exact (uxN5 (by decide +kernel) (uxN5 (by decide +kernel) hI.2.2.2.2.2.2.2.2.1))
    have k_xN6 : xN6 W := by
      rw [hW]
      exact (uxN6 (by decide +kernel) (uxN6 (by decide +kernel) hI.2.2.2.2.2.2.2.2.2.1))
    have k_xH1 : xH1 W := by
      rw [hW]
      exact (uxH1 (by decide +kernel) (uxH1 (by decide +kernel) hI.2.2.2.2.2.2.2.2.2.2.1))
    have k_xK1 : xK1 W := by
      rw [hW]
      exact (uxK1 (by decide +kernel) (uxK1 (by decide +kernel) hI.2.2.2.2.2.2.2.2.2.2.2.1))
    have k_xC1 : xC1 W := by
      rw [hW]
      exact (uxC1 (by decide +kernel) (uxC1 (by decide +kernel) hI.2.2.2.2.2.2.2.2.2.2.2.2.1))
    have k_xRW : xRW W := by
      rw [hW]
      exact (uxRW (by decide +kernel) (uxRW (by decide +kernel) hI.2.2.2.2.2.2.2.2.2.2.2.2.2.1))
    have k_xWT : xWT W := by
      rw [hW]
      exact (uxWT (by decide +kernel) (uxWT (by decide +kernel) hI.2.2.2.2.2.2.2.2.2.2.2.2.2.2.1))
    have k_xCU : xCU W := by
      rw [hW]
      exact (uxCU (by decide +kernel) (uxCU (by decide +kernel) hI.2.2.2.2.2.2.2.2.2.2.2.2.2.2.2.1))
    have k_xG2 : xG2 W := by
      rw [hW]
      exact (uxG2 (by decide +kernel) (uxG2 (by decide +kernel) hI.2.2.2.2.2.2.2.2.2.2.2.2.2.2.2.2.1))
    have k_xG3 : xG3 W := by
      rw [hW]
      exact (uxG3 (by decide +kernel) (uxG3 (by decide +kernel) hI.2.2.2.2.2.2.2.2.2.2.2.2.2.2.2.2.2.1))
    have k_xG4 : xG4 W := by
      rw [hW]
      exact (uxG4 (by decide +kernel) (uxG4 (by decide +kernel) hI.2.2.2.2.2.2.2.2.2.2.2.2.2.2.2.2.2.2.1))
    have k_xG5 : xG5 W := by
      rw [hW]
      exact (uxG5 (by decide +kernel) (uxG5 (by decide +kernel) hI.2.2.2.2.2.2.2.2.2.2.2.2.2.2.2.2.2.2.2.1))
    have k_xG6 : xG6 W := by
      rw [hW]
      exact (uxG6 (by decide +kernel) (uxG6 (by decide +kernel) hI.2.2.2.2.2.2.2.2.2.2.2.2.2.2.2.2.2.2.2.2.1))
    have k_xS1 : xS1 W := by
      rw [hW]
      exact (uxS1 (by decide +kernel) (uxS1 (by decide +kernel) hI.2.2.2.2.2.2.2.2.2.2.2.2.2.2.2.2.2.2.2.2.2.1))
    have k_xS2 : xS2 W := by
      rw [hW]
      exact (uxS2 (by decide +kernel) (uxS2 (by decide +kernel) hI.2.2.2.2.2.2.2.2.2.2.2.2.2.2.2.2.2.2.2.2.2.2.1))
    have k_xS3 : xS3 W := by
      rw [hW]
      exact (uxS3 (by decide +kernel) (uxS3 (by decide +kernel) hI.2.2.2.2.2.2.2.2.2.2.2.2.2.2.2.2.2.2.2.2.2.2.2.1))
    have k_xS4 : xS4 W := by
      rw [hW]
      exact (uxS4 (by decide +kernel) (uxS4 (by decide +kernel) hI.2.2.2.2.2.2.2.2.2.2.2.2.2.2.2.2.2.2.2.2.2.2.2.2.1))
    have k_xS5 : xS5 W := by
      rw [hW]
      exact (uxS5 (by decide +kernel) (uxS5 (by decide +kernel) hI.2.2.2.2.2.2.2.2.2.2.2.2.2.2.2.2.2.2.2.2.2.2.2.2.2.1))
    have k_xS6 : xS6 W := by
      rw [hW]
      exact (uxS6 (by decide +kernel) (uxS6 (by decide +kernel) hI.2.2.2.2.2.2.2.2.2.2.2.2.2.2.2.2.2.2.2.2.2.2.2.2.2.2.1))
    have k_xS7 : xS7 W := by
      rw [hW]
      exact (uxS7 (by decide +kernel) (uxS7 (by decide +kernel) hI.2.2.2.2.2.2.2.2.2.2.2.2.2.2.2.2.2.2.2.2.2.2.2.2.2.2.2.1))
    have k_xS8 : xS8 W := by
      rw [hW]
      exact (uxS8 (by decide +kernel) (uxS8 (by decide +kernel) hI.2.2.2.2.2.2.2.2.2.2.2.2.2.2.2.2.2.2.2.2.2.2.2.2.2.2.2.2.1))
    have k_xS9 : xS9 W := by
      rw [hW]
      exact (uxS9 (by decide +kernel) (uxS9 (by decide +kernel) hI.2.2.2.2.2.2.2.2.2.2.2.2.2.2.2.2.2.2.2.2.2.2.2.2.2.2.2.2.2.1))
    have k_xSA : xSA W := by
      rw [hW]
      exact (uxSA (by decide +kernel) (uxSA (by decide +kernel) hI.2.2.2.2.2.2.2.2.2.2.2.2.2.2.2.2.2.2.2.2.2.2.2.2.2.2.2.2.2.2.1))
    have k_xSG : xSG W := by
      rw [hW]
      exact (uxSG (by decide +kernel) (uxSG (by decide +kernel) hI.2.2.2.2.2.2.2.2.2.2.2.2.2.2.2.2.2.2.2.2.2.2.2.2.2.2.2.2.2.2.2.1))
    have k_xSF : xSF W := by
      rw [hW]
      exact (uxSF (by decide +kernel) (uxSF (by decide +kernel) hI.2.2.2.2.2.2.2.2.2.2.2.2.2.2.2.2.2.2.2.2.2.2.2.2.2.2.2.2.2.2.2.2.1))
    have k_xSB : xSB W := by
      rw [hW]
      exact (uxSB (by decide +kernel) (uxSB (by decide +kernel) hI.2.2.2.2.2.2.2.2.2.2.2.2.2.2.2.2.2.2.2.2.2.2.2.2.2.2.2.2.2.2.2.2.2.1))
    have k_xSC : xSC W := by
      rw [hW]
      exact (uxSC (by decide +kernel) (uxSC (by decide +kernel) hI.2.2.2.2.2.2.2.2.2.2.2.2.2.2.2.2.2.2.2.2.2.2.2.2.2.2.2.2.2.2.2.2.2.2.1))
    have k_xSD : xSD W := by
      rw [hW]
      exact (uxSD (by decide +kernel) (uxSD (by decide +kernel) hI.2.2.2.2.2.2.2.2.2.2.2.2.2.2.2.2.2.2.2.2.2.2.2.2.2.2.2.2.2.2.2.2.2.2.2.1))
    have k_xSE : xSE W := by
      have r : W 91 249 = 0 := by rw [hW, sU_ne (fun z => by omega), sU_at]
      intro h
      rw [r] at h
      omega
    have k_xSW : xSW W := by
      rw [hW]
      exact (uxSW (by decide +kernel) (uxSW (by decide +kernel) hI.2.2.2.2.2.2.2.2.2.2.2.2.2.2.2.2.2.2.2.2.2.2.2.2.2.2.2.2.2.2.2.2.2.2.2.2.2.1))
    have k_xST : xST W := by
      rw [hW]
      exact (uxST (by decide +kernel) (uxST (by decide +kernel) hI.2.2.2.2.2.2.2.2.2.2.2.2.2.2.2.2.2.2.2.2.2.2.2.2.2.2.2.2.2.2.2.2.2.2.2.2.2.2.1))
    have k_xSP : xSP W := by
      rw [hW]
      exact (uxSP (by decide +kernel) (uxSP (by decide +kernel) hI.2.2.2.2.2.2.2.2.2.2.2.2.2.2.2.2.2.2.2.2.2.2.2.2.2.2.2.2.2.2.2.2.2.2.2.2.2.2.2.1))
    have k_xSL : xSL W := by
      rw [hW]
      exact (uxSL (by decide +kernel) (uxSL (by decide +kernel) hI.2.2.2.2.2.2.2.2.2.2.2.2.2.2.2.2.2.2.2.2.2.2.2.2.2.2.2.2.2.2.2.2.2.2.2.2.2.2.2.2.1))
    have k_xSM : xSM W := by
      rw [hW]
      exact (uxSM (by decide +kernel) (uxSM (by decide +kernel) hI.2.2.2.2.2.2.2.2.2.2.2.2.2.2.2.2.2.2.2.2.2.2.2.2.2.2.2.2.2.2.2.2.2.2.2.2.2.2.2.2.2.1))
    have k_xSI : xSI W := by
      have r : W 91 259 = 0 := by rw [hW, sU_at]
      intro h
      rw [r] at h
      omega
    have k_XC : XC W := ⟨k_xS1, k_xS2, k_xS3, k_xS4, k_xS5, k_xS6, k_xS7, k_xS8, k_xS9, k_xSA, k_xSG, k_xSF, k_xSB, k_xSC, k_xSD, k_xSE, k_xSW, k_xST, k_xSP, k_xSL, k_xSM, k_xSI⟩
    have kXB : XB W := ⟨k_xN1, k_xN2, k_xN3, k_xN4, k_xN5, k_xN6, k_xH1, k_xK1, k_xC1, k_xRW, k_xWT, k_xCU, k_xG2, k_xG3, k_xG4, k_xG5, k_xG6, k_XC⟩
    exact ⟨base, k2, k3, kXA, kXB⟩
-- fdC0
def xr_606 : qRu := (11, [[(1, 1), (-1, 4)], [(-1, 1), (1, 4)], [(1, 1), (-1, 3)], [(1, 4)], [(699, 0), (-1, 1)], [(1, 1)], [(-24, 0), (1, 6)], [(24, 0), (-1, 6)], [(1, 5), (-1, 8)], [(-1, 5), (1, 8)], [(-1, 2), (1, 9)], [(1, 2), (-1, 9)], [(-1, 7), (1, 10)], [(1, 7), (-1, 10)], [(128, 0), (1, 2)], [(127, 0), (-1, 2)]], [(4, 100, []), (4, 261, [(1, 3)]), (4, 262, []), (4, 263, [(1, 4)]), (4, 265, [(1, 8)]), (91, 259, [(1, 0)]), (91, 248, [(1, 10)]), (91, 258, [(1, 9)]), (91, 249, [(1, 0)]), (91, 250, [(1, 5)]), (91, 251, [(1, 6)]), (91, 252, [(1, 7)])], [(1, [(1, 1)], [(1, 2)])], [(4, 262, [(1, 0)])], [])
theorem xo_606 : qRok xr_606 := by
  intro ρ M h0 hf hm hI
  have f0 := hf [(1, 1), (-1, 4)] (by decide)
  have f1 := hf [(-1, 1), (1, 4)] (by decide)
  have f2 := hf [(1, 1), (-1, 3)] (by decide)
  have f3 := hf [(1, 4)] (by decide)
  have f4 := hf [(699, 0), (-1, 1)] (by decide)
  have f5 := hf [(1, 1)] (by decide)
  have f6 := hf [(-24, 0), (1, 6)] (by decide)
  have f7 := hf [(24, 0), (-1, 6)] (by decide)
  have f8 := hf [(1, 5), (-1, 8)] (by decide)
  have f9 := hf [(-1, 5), (1, 8)] (by decide)
  have f10 := hf [(-1, 2), (1, 9)] (by decide)
  have f11 := hf [(1, 2), (-1, 9)] (by decide)
  have f12 := hf [(-1, 7), (1, 10)] (by decide)
  have f13 := hf [(1, 7), (-1, 10)] (by decide)
  have f14 := hf [(128, 0), (1, 2)] (by decide)
  have f15 := hf [(127, 0), (-1, 2)] (by decide)
  simp only [qD, h0] at f0 f1 f2 f3 f4 f5 f6 f7 f8 f9 f10 f11 f12 f13 f14 f15
  have m0 : M 4 100 = 0 := hm (4, 100, []) (by decide)
  have m1 : M 4 261 = 1 * ρ 3 + 0 := hm (4, 261, [(1, 3)]) (by decide)
  have m2 : M 4 262 = 0 := hm (4, 262, []) (by decide)
  have m3 : M 4 263 = 1 * ρ 4 + 0 := hm (4, 263, [(1, 4)]) (by decide)
  have m4 : M 4 265 = 1 * ρ 8 + 0 := hm (4, 265, [(1, 8)]) (by decide)
  have m5 : M 91 259 = 1 * ρ 0 + 0 := hm (91, 259, [(1, 0)]) (by decide)
  have m6 : M 91 248 = 1 * ρ 10 + 0 := hm (91, 248, [(1, 10)]) (by decide)
  have m7 : M 91 258 = 1 * ρ 9 + 0 := hm (91, 258, [(1, 9)]) (by decide)
  have m8 : M 91 249 = 1 * ρ 0 + 0 := hm (91, 249, [(1, 0)]) (by decide)
  have m9 : M 91 250 = 1 * ρ 5 + 0 := hm (91, 250, [(1, 5)]) (by decide)
  have m10 : M 91 251 = 1 * ρ 6 + 0 := hm (91, 251, [(1, 6)]) (by decide)
  have m11 : M 91 252 = 1 * ρ 7 + 0 := hm (91, 252, [(1, 7)]) (by decide)
  simp only [h0] at m5 m8
  have qxST := hI.2.2.2.2.2.2.2.2.2.2.2.2.2.2.2.2.2.2.2.2.2.2.2.2.2.2.2.2.2.2.2.2.2.2.2.2.2.2.1
  have qxSP := hI.2.2.2.2.2.2.2.2.2.2.2.2.2.2.2.2.2.2.2.2.2.2.2.2.2.2.2.2.2.2.2.2.2.2.2.2.2.2.2.1
  obtain ⟨g1, g2, g3, g4⟩ := gx_xSE hI (by omega)
  have tb : xop 1 (M 91 252) 255 = tBy (M 4 265) 0 := by
    unfold tBy
    rw [g1, show M 91 250 = M 4 265 by omega, show M 91 251 = 24 by omega]
    rfl

  have gi := gx_xSI hI (by omega)
  rw [show M 91 248 = M 91 252 by omega] at gi
  refine ⟨ρ, fun _ _ => rfl, fun f h => ?_, ?_⟩
  · exact nomatch h
  · show sI (sU (sU M 1 (1 * ρ 1 + 0 : Int).toNat (1 * ρ 2 + 0)) 4 262 (1 * ρ 0 + 0))
    obtain ⟨W, hW⟩ : ∃ W, W = (sU (sU M 1 (1 * ρ 1 + 0).toNat (1 * ρ 2 + 0)) 4 262 (1 * ρ 0 + 0)) := ⟨_, rfl⟩
    rw [← hW]
    have base : sI0 W := by
      rw [hW]
      exact (si_u0 (si_u0 hI.1 (fun r hr => by rw [xt_1 hr]; exact ⟨by show (-128 : Int) ≤ _; omega, by show _ ≤ (127 : Int); omega⟩)) (fun r hr => by cases hr))
    have k2 : XI2 W := by
      rw [hW]
      exact (xi2_u (by decide +kernel) (xi2_u (sinc_ok (by decide +kernel) _) hI.2.1))
    have k3 : XI3 W := by
      rw [hW]
      exact (xi3_u (by decide +kernel) (xi3_u (sinc_ok (by decide +kernel) _) hI.2.2.1))
    have kXA : XA W := by
      rw [hW]
      exact (uXA (by decide +kernel) (uXA (sinc_ok (by decide +kernel) _) hI.2.2.2.1))
    have k_xN1 : xN1 W := by
      rw [hW]
      exact (uxN1 (by decide +kernel) (uxN1 (sinc_ok (by decide +kernel) _) hI.2.2.2.2.1))
    have k_xN2 : xN2 W := by
      rw [hW]
      exact (uxN2 (by decide +kernel) (uxN2 (sinc_ok (by decide +kernel) _) hI.2.2.2.2.2.1))
    have k_xN3 : xN3 W := by
      rw [hW]
      exact (uxN3 (by decide +kernel) (uxN3 (sinc_ok (by decide +kernel) _) hI.2.2.2.2.2.2.1))
    have k_xN4 : xN4 W := by
      rw [hW]
      exact (uxN4 (by decide +kernel) (uxN4 (sinc_ok (by decide +kernel) _) hI.2.2.2.2.2.2.2.1))
    have k_xN5 : xN5 W := by
      rw [hW]
      exact (uxN5 (by decide +kernel) (uxN5 (sinc_ok (by decide +kernel) _) hI.2.2.2.2.2.2.2.2.1))
    have k_xN6 : xN6 W := by
      rw [hW]
      exact (uxN6 (by decide +kernel) (uxN6 (sinc_ok (by decide +kernel) _) hI.2.2.2.2.2.2.2.2.2.1))
    have k_xH1 : xH1 W := by
      rw [hW]
      exact (uxH1 (by decide +kernel) (uxH1 (sinc_ok (by decide +kernel) _) hI.2.2.2.2.2.2.2.2.2.2.1))
    have k_xK1 : xK1 W := by
      rw [hW]
      exact (uxK1 (by decide +kernel) (uxK1 (sinc_ok (by decide +kernel) _) hI.2.2.2.2.2.2.2.2.2.2.2.1))
    have k_xC1 : xC1 W := by
      rw [hW]
      exact (uxC1 (by decide +kernel) (uxC1 (sinc_ok (by decide +kernel) _) hI.2.2.2.2.2.2.2.2.2.2.2.2.1))
    have k_xRW : xRW W := by
      rw [hW]
      exact (uxRW (by decide +kernel) (uxRW (sinc_ok (by decide +kernel) _) hI.2.2.2.2.2.2.2.2.2.2.2.2.2.1))
    have k_xWT : xWT W := by
      rw [hW]
      exact (uxWT (by decide +kernel) (uxWT (sinc_ok (by decide +kernel) _) hI.2.2.2.2.2.2.2.2.2.2.2.2.2.2.1))
    have k_xCU : xCU W := by
      rw [hW]
      exact (uxCU (by decide +kernel) (uxCU (sinc_ok (by decide +kernel) _) hI.2.2.2.2.2.2.2.2.2.2.2.2.2.2.2.1))
    have k_xG2 : xG2 W := by
      rw [hW]
      exact (uxG2 (by decide +kernel) (uxG2 (sinc_ok (by decide +kernel) _) hI.2.2.2.2.2.2.2.2.2.2.2.2.2.2.2.2.1))
    have k_xG3 : xG3 W := by
      rw [hW]
      exact (uxG3 (by decide +kernel) (uxG3 (sinc_ok (by decide +kernel) _) hI.2.2.2.2.2.2.2.2.2.2.2.2.2.2.2.2.2.1))
    have k_xG4 : xG4 W := by
      rw [hW]
      exact (uxG4 (by decide +kernel) (uxG4 (sinc_ok (by decide +kernel) _) hI.2.2.2.2.2.2.2.2.2.2.2.2.2.2.2.2.2.2.1))
    have k_xG5 : xG5 W := by
      rw [hW]
      exact (uxG5 (by decide +kernel) (uxG5 (sinc_ok (by decide +kernel) _) hI.2.2.2.2.2.2.2.2.2.2.2.2.2.2.2.2.2.2.2.1))
    have k_xG6 : xG6 W := by
      rw [hW]
      exact (uxG6 (by decide +kernel) (uxG6 (sinc_ok (by decide +kernel) _) hI.2.2.2.2.2.2.2.2.2.2.2.2.2.2.2.2.2.2.2.2.1))
    have k_xS1 : xS1 W := by
      have r : W 4 100 = 0 := by
        have e := m0
        rw [hW, sU_ne (fun z => by omega), sU_ne (fun z => by omega)]
        omega
      intro h
      rw [r] at h
      exact absurd rfl h
    have k_xS2 : xS2 W := by
      rw [hW]
      exact (uxS2 (by decide +kernel) (uxS2 (sinc_ok (by decide +kernel) _) hI.2.2.2.2.2.2.2.2.2.2.2.2.2.2.2.2.2.2.2.2.2.2.1))
    have k_xS3 : xS3 W := by
      rw [hW]
      exact (uxS3 (by decide +kernel) (uxS3 (sinc_ok (by decide +kernel) _) hI.2.2.2.2.2.2.2.2.2.2.2.2.2.2.2.2.2.2.2.2.2.2.2.1))
    have k_xS4 : xS4 W := by
      rw [hW]
      exact (uxS4 (by decide +kernel) (uxS4 (sinc_ok (by decide +kernel) _) hI.2.2.2.2.2.2.2.2.2.2.2.2.2.2.2.2.2.2.2.2.2.2.2.2.1))
    have k_xS5 : xS5 W := by
      rw [hW]
      exact (uxS5 (by decide +kernel) (uxS5 (sinc_ok (by decide +kernel) _) hI.2.2.2.2.2.2.2.2.2.2.2.2.2.2.2.2.2.2.2.2.2.2.2.2.2.1))
    have k_xS6 : xS6 W := by
      rw [hW]
      exact (uxS6 (by decide +kernel) (uxS6 (sinc_ok (by decide +kernel) _) hI.2.2.2.2.2.2.2.2.2.2.2.2.2.2.2.2.2.2.2.2.2.2.2.2.2.2.1))
    have k_xS7 : xS7 W := by
      rw [hW]
      exact (uxS7 (by decide +kernel) (uxS7 (sinc_ok (by decide +kernel) _) hI.2.2.2.2.2.2.2.2.2.2.2.2.2.2.2.2.2.2.2.2.2.2.2.2.2.2.2.1))
    have k_xS8 : xS8 W := by
      rw [hW]
      exact (uxS8 (by decide +kernel) (uxS8 (sinc_ok (by decide +kernel) _) hI.2.2.2.2.2.2.2.2.2.2.2.2.2.2.2.2.2.2.2.2.2.2.2.2.2.2.2.2.1))
    have k_xS9 : xS9 W := by
      rw [hW]
      exact (uxS9 (by decide +kernel) (uxS9 (sinc_ok (by decide +kernel) _) hI.2.2.2.2.2.2.2.2.2.2.2.2.2.2.2.2.2.2.2.2.2.2.2.2.2.2.2.2.2.1))
    have k_xSA : xSA W := by
      rw [hW]
      exact (uxSA (by decide +kernel) (uxSA (sinc_ok (by decide +kernel) _) hI.2.2.2.2.2.2.2.2.2.2.2.2.2.2.2.2.2.2.2.2.2.2.2.2.2.2.2.2.2.2.1))
    have k_xSG : xSG W := by
      rw [hW]
      exact (uxSG (by decide +kernel) (uxSG (sinc_ok (by decide +kernel) _) hI.2.2.2.2.2.2.2.2.2.2.2.2.2.2.2.2.2.2.2.2.2.2.2.2.2.2.2.2.2.2.2.1))
    have k_xSF : xSF W := by
      rw [hW]
      exact (uxSF (by decide +kernel) (uxSF (sinc_ok (by decide +kernel) _) hI.2.2.2.2.2.2.2.2.2.2.2.2.2.2.2.2.2.2.2.2.2.2.2.2.2.2.2.2.2.2.2.2.1))
    have k_xSB : xSB W := by
      rw [hW]
      exact (uxSB (by decide +kernel) (uxSB (sinc_ok (by decide +kernel) _) hI.2.2.2.2.2.2.2.2.2.2.2.2.2.2.2.2.2.2.2.2.2.2.2.2.2.2.2.2.2.2.2.2.2.1))
    have k_xSC : xSC W := by
      rw [hW]
      exact (uxSC (by decide +kernel) (uxSC (sinc_ok (by decide +kernel) _) hI.2.2.2.2.2.2.2.2.2.2.2.2.2.2.2.2.2.2.2.2.2.2.2.2.2.2.2.2.2.2.2.2.2.2.1))
    have k_xSD : xSD W := by
      rw [hW]
      exact (uxSD (by decide +kernel) (uxSD (sinc_ok (by decide +kernel) _) hI.2.2.2.2.2.2.2.2.2.2.2.2.2.2.2.2.2.2.2.2.2.2.2.2.2.2.2.2.2.2.2.2.2.2.2.1))
    have k_xSE : xSE W := by
      rw [hW]
      exact (uxSE (by decide +kernel) (uxSE (sinc_ok (by decide +kernel) _) hI.2.2.2.2.2.2.2.2.2.2.2.2.2.2.2.2.2.2.2.2.2.2.2.2.2.2.2.2.2.2.2.2.2.2.2.2.1))
    have k_xSW : xSW W := by
      rw [hW]
      exact (uxSW (by decide +kernel) (uxSW (sinc_ok (by decide +kernel) _) hI.2.2.2.2.2.2.2.2.2.2.2.2.2.2.2.2.2.2.2.2.2.2.2.2.2.2.2.2.2.2.2.2.2.2.2.2.2.1))
    have k_xST : xST W := by
      have r4_261 : W 4 261 = M 4 261 := by rw [hW, sU_ne (fun z => by omega), sU_ne (fun z => by omega)]
      have c1 : ∀ k : Nat, k ≠ (1 * ρ 1 + 0).toNat → W 1 k = M 1 k := fun k hk => by rw [hW, sU_ne (fun z => by omega), sU_ne (fun z => by omega)]
      have a1 : W 1 (1 * ρ 1 + 0).toNat = 1 * ρ 2 + 0 := by rw [hW, sU_ne (fun z => by omega), sU_at]
      have c92 : ∀ k, W 92 k = M 92 k := fun k => by rw [hW, sU_ne (fun z => by omega), sU_ne (fun z => by omega)]
      have e92 : W 92 = M 92 := funext c92
      intro i hi
      rw [r4_261] at hi
      rw [c1 i (by omega), e92]
      exact qxST i hi
    have k_xSP : xSP W := by
      have r4_262 : W 4 262 = 1 * ρ 0 + 0 := by rw [hW, sU_at]
      have r4_263 : W 4 263 = M 4 263 := by rw [hW, sU_ne (fun z => by omega), sU_ne (fun z => by omega)]
      have r4_264 : W 4 264 = M 4 264 := by rw [hW, sU_ne (fun z => by omega), sU_ne (fun z => by omega)]
      have r4_265 : W 4 265 = M 4 265 := by rw [hW, sU_ne (fun z => by omega), sU_ne (fun z => by omega)]
      have r4_266 : W 4 266 = M 4 266 := by rw [hW, sU_ne (fun z => by omega), sU_ne (fun z => by omega)]
      have r4_267 : W 4 267 = M 4 267 := by rw [hW, sU_ne (fun z => by omega), sU_ne (fun z => by omega)]
      have r4_268 : W 4 268 = M 4 268 := by rw [hW, sU_ne (fun z => by omega), sU_ne (fun z => by omega)]
      have r4_269 : W 4 269 = M 4 269 := by rw [hW, sU_ne (fun z => by omega), sU_ne (fun z => by omega)]
      have c1 : ∀ k : Nat, k ≠ (1 * ρ 1 + 0).toNat → W 1 k = M 1 k := fun k hk => by rw [hW, sU_ne (fun z => by omega), sU_ne (fun z => by omega)]
      have a1 : W 1 (1 * ρ 1 + 0).toNat = 1 * ρ 2 + 0 := by rw [hW, sU_ne (fun z => by omega), sU_at]
      have c92 : ∀ k, W 92 k = M 92 k := fun k => by rw [hW, sU_ne (fun z => by omega), sU_ne (fun z => by omega)]
      have e92 : W 92 = M 92 := funext c92
      unfold xSP
      rw [r4_262, r4_263, r4_264, e92]
      obtain ⟨p1, p2, p3⟩ := qxSP
      have e4 : ∀ x, x ≠ 262 → W 4 x = M 4 x := fun x hx => by rw [hW, sU_ne (fun z => by omega), sU_ne (fun z => by omega)]
      refine ⟨p1, fun q hq hl => ?_, fun q hq hl => by rw [e4 _ (by omega)]; exact p3 q hq hl⟩
      rw [h0] at hl
      rw [e4 _ (by omega)]
      by_cases hj : q = 0
      · subst hj
        show W 1 ((M 4 263).toNat + 0) = tSn (tBy (M 4 265) 0)
        rw [show (M 4 263).toNat + 0 = (1 * ρ 1 + 0).toNat by omega, a1, ← tb]
        have := xi2b (M 91 252)
        omega
      · rw [c1 _ (by omega)]
        exact p2 q hq (by omega)
    have k_xSL : xSL W := by
      rw [hW]
      exact (uxSL (by decide +kernel) (uxSL (sinc_ok (by decide +kernel) _) hI.2.2.2.2.2.2.2.2.2.2.2.2.2.2.2.2.2.2.2.2.2.2.2.2.2.2.2.2.2.2.2.2.2.2.2.2.2.2.2.2.1))
    have k_xSM : xSM W := by
      rw [hW]
      exact (uxSM (by decide +kernel) (uxSM (sinc_ok (by decide +kernel) _) hI.2.2.2.2.2.2.2.2.2.2.2.2.2.2.2.2.2.2.2.2.2.2.2.2.2.2.2.2.2.2.2.2.2.2.2.2.2.2.2.2.2.1))
    have k_xSI : xSI W := by
      rw [hW]
      exact (uxSI (by decide +kernel) (uxSI (sinc_ok (by decide +kernel) _) hI.2.2.2.2.2.2.2.2.2.2.2.2.2.2.2.2.2.2.2.2.2.2.2.2.2.2.2.2.2.2.2.2.2.2.2.2.2.2.2.2.2.2))
    have k_XC : XC W := ⟨k_xS1, k_xS2, k_xS3, k_xS4, k_xS5, k_xS6, k_xS7, k_xS8, k_xS9, k_xSA, k_xSG, k_xSF, k_xSB, k_xSC, k_xSD, k_xSE, k_xSW, k_xST, k_xSP, k_xSL, k_xSM, k_xSI⟩
    have kXB : XB W := ⟨k_xN1, k_xN2, k_xN3, k_xN4, k_xN5, k_xN6, k_xH1, k_xK1, k_xC1, k_xRW, k_xWT, k_xCU, k_xG2, k_xG3, k_xG4, k_xG5, k_xG6, k_XC⟩
    exact ⟨base, k2, k3, kXA, kXB⟩
