/-! RULES OF THE REFERENCE (wip/p3/xsf.py). -/
-- nmTieR100_5
def xr_583 : qRu := (4, [[(-6, 0), (1, 3)]], [(4, 100, [(2, 0)]), (4, 105, [(1, 3)]), (100, 11, [(1, 1)]), (3, 75, [(1, 2)])], [], [], [[(1, 1), (-1, 2)], [(-1, 1), (1, 2)]])
theorem xo_583 : qRok xr_583 := by
  intro ρ M h0 hf hm hI
  have f0 := hf [(-6, 0), (1, 3)] (by decide)
  simp only [qD, h0] at f0
  have m0 : M 4 100 = 2 * ρ 0 + 0 := hm (4, 100, [(2, 0)]) (by decide)
  have m1 : M 4 105 = 1 * ρ 3 + 0 := hm (4, 105, [(1, 3)]) (by decide)
  have m2 : M 100 11 = 1 * ρ 1 + 0 := hm (100, 11, [(1, 1)]) (by decide)
  have m3 : M 3 75 = 1 * ρ 2 + 0 := hm (3, 75, [(1, 2)]) (by decide)
  simp only [h0] at m0
  obtain ⟨a0, a1, a2⟩ := gx_xS5 hI (by omega)
  have t := a1 5 (by omega) (by omega)
  have t : M 100 11 = M 3 75 := t
  refine ⟨ρ, fun _ _ => rfl, fun f h => ?_, ?_⟩
  · have h : f ∈ ([[(1, 1), (-1, 2)], [(-1, 1), (1, 2)]] : List qF) := h
    simp only [List.mem_cons, List.not_mem_nil, or_false] at h
    rcases h with rfl | rfl
    · show 0 ≤ 1 * ρ 1 + (-1 * ρ 2 + 0)
      (try rw [h0]); omega
    · show 0 ≤ -1 * ρ 1 + (1 * ρ 2 + 0)
      (try rw [h0]); omega
  · show sI M
    exact hI
-- nmUpR100_5
def xr_584 : qRu := (3, [[(1, 1), (-1, 2)], [(-1, 1), (1, 2)]], [(4, 100, [(2, 0)]), (4, 105, [(5, 0)]), (100, 11, [(1, 1)]), (3, 75, [(1, 2)])], [], [(4, 105, [(6, 0)])], [])
theorem xo_584 : qRok xr_584 := by
  intro ρ M h0 hf hm hI
  have f0 := hf [(1, 1), (-1, 2)] (by decide)
  have f1 := hf [(-1, 1), (1, 2)] (by decide)
  simp only [qD, h0] at f0 f1
  have m0 : M 4 100 = 2 * ρ 0 + 0 := hm (4, 100, [(2, 0)]) (by decide)
  have m1 : M 4 105 = 5 * ρ 0 + 0 := hm (4, 105, [(5, 0)]) (by decide)
  have m2 : M 100 11 = 1 * ρ 1 + 0 := hm (100, 11, [(1, 1)]) (by decide)
  have m3 : M 3 75 = 1 * ρ 2 + 0 := hm (3, 75, [(1, 2)]) (by decide)
  simp only [h0] at m0 m1
  have qxS5 := hI.2.2.2.2.2.2.2.2.2.2.2.2.2.2.2.2.2.2.2.2.2.2.2.2.2.1
  refine ⟨ρ, fun _ _ => rfl, fun f h => ?_, ?_⟩
  · exact nomatch h
  · show sI (sU M 4 105 (6 * ρ 0 + 0))
    obtain ⟨W, hW⟩ : ∃ W, W = (sU M 4 105 (6 * ρ 0 + 0)) := ⟨_, rfl⟩
    rw [← hW]
    have base : sI0 W := by
      rw [hW]
      exact (si_u0 hI.1 (fun r hr => by cases hr))
    have k2 : XI2 W := by
      rw [hW]
      exact (xi2_u rfl hI.2.1)
    have k3 : XI3 W := by
      rw [hW]
      exact (xi3_u rfl hI.2.2.1)
    have kXA : XA W := by
      rw [hW]
      exact (uXA rfl hI.2.2.2.1)
    have k_xN1 : xN1 W := by
      rw [hW]
      exact (uxN1 rfl hI.2.2.2.2.1)
    have k_xN2 : xN2 W := by
      rw [hW]
      exact (uxN2 rfl hI.2.2.2.2.2.1)
    have k_xN3 : xN3 W := by
      rw [hW]
      exact (uxN3 rfl hI.2.2.2.2.2.2.1)
    have k_xN4 : xN4 W := by
      rw [hW]
      exact (uxN4 rfl hI.2.2.2.2.2.2.2.1)
    have k_xN5 : xN5 W := by
      rw [hW]
      exact (uxN5 rfl hI.2.2.2.2.2.2.2.2.1)
    have k_xN6 : xN6 W := by
      rw [hW]
      exact (uxN6 rfl hI.2.2.2.2.2.2.2.2.2.1)
    have k_xH1 : xH1 W := by
      rw [hW]
      exact (uxH1 rfl hI.2.2.2.2.2.2.2.2.2.2.1)
    have k_xK1 : xK1 W := by
      rw [hW]
      exact (uxK1 rfl hI.2.2.2.2.2.2.2.2.2.2.2.1)
    have k_xC1 : xC1 W := by
      rw [hW]
      exact (uxC1 rfl hI.2.2.2.2.2.2.2.2.2.2.2.2.1)
    have k_xRW : xRW W := by
      rw [hW]
      exact (uxRW rfl hI.2.2.2.2.2.2.2.2.2.2.2.2.2.1)
    have k_xWT : xWT W := by
      rw [hW]
      exact (uxWT rfl hI.2.2.2.2.2.2.2.2.2.2.2.2.2.2.1)
    have k_xCU : xCU W := by
      rw [hW]
      exact (uxCU rfl hI.2.2.2.2.2.2.2.2.2.2.2.2.2.2.2.1)
    have k_xG2 : xG2 W := by
      rw [hW]
      exact (uxG2 rfl hI.2.2.2.2.2.2.2.2.2.2.2.2.2.2.2.2.1)
    have k_xG3 : xG3 W := by
      rw [hW]
      exact (uxG3 rfl hI.2.2.2.2.2.2.2.2.2.2.2.2.2.2.2.2.2.1)
    have k_xG4 : xG4 W := by
      rw [hW]
      exact (uxG4 rfl hI.2.2.2.2.2.2.2.2.2.2.2.2.2.2.2.2.2.2.1)
    have k_xG5 : xG5 W := by
      rw [hW]
      exact (uxG5 rfl hI.2.2.2.2.2.2.2.2.2.2.2.2.2.2.2.2.2.2.2.1)
    have k_xG6 : xG6 W := by
      rw [hW]
      exact (uxG6 rfl hI.2.2.2.2.2.2.2.2.2.2.2.2.2.2.2.2.2.2.2.2.1)
    have k_xS1 : xS1 W := by
      rw [hW]
      exact (uxS1 rfl hI.2.2.2.2.2.2.2.2.2.2.2.2.2.2.2.2.2.2.2.2.2.1)
    have k_xS2 : xS2 W := by
      rw [hW]
      exact (uxS2 rfl hI.2.2.2.2.2.2.2.2.2.2.2.2.2.2.2.2.2.2.2.2.2.2.1)
    have k_xS3 : xS3 W := by
      rw [hW]
      exact (uxS3 rfl hI.2.2.2.2.2.2.2.2.2.2.2.2.2.2.2.2.2.2.2.2.2.2.2.1)
    have k_xS4 : xS4 W := by
      have r : W 4 100 = 2 := by
        have e := m0
        rw [hW, sU_ne (fun z => by omega)]
        omega
      intro h
      rw [r] at h
      omega
    have k_xS5 : xS5 W := by
      have r4_100 : W 4 100 = M 4 100 := by rw [hW, sU_ne (fun z => by omega)]
      have r4_104 : W 4 104 = M 4 104 := by rw [hW, sU_ne (fun z => by omega)]
      have r4_105 : W 4 105 = 6 * ρ 0 + 0 := by rw [hW, sU_at]
      have r4_106 : W 4 106 = M 4 106 := by rw [hW, sU_ne (fun z => by omega)]
      have c3 : ∀ k, W 3 k = M 3 k := fun k => by rw [hW, sU_ne (fun z => by omega)]
      have e3 : W 3 = M 3 := funext c3
      have c94 : ∀ k, W 94 k = M 94 k := fun k => by rw [hW, sU_ne (fun z => by omega)]
      have e94 : W 94 = M 94 := funext c94
      have c100 : ∀ k, W 100 k = M 100 k := fun k => by rw [hW, sU_ne (fun z => by omega)]
      have e100 : W 100 = M 100 := funext c100
      have c104 : ∀ k, W 104 k = M 104 k := fun k => by rw [hW, sU_ne (fun z => by omega)]
      have e104 : W 104 = M 104 := funext c104
      intro h
      obtain ⟨a0, a1, a2⟩ := gx_xS5 hI (by omega)
      rw [r4_104, r4_105, r4_106, e3, e94, e100, e104]
      refine ⟨fun j hj ht => ?_, fun j hj ht => ?_, fun j hj ht => ?_⟩
      · exact a0 j hj (by omega)
      · by_cases hJ : j = 5
        · subst hJ
          show M 100 11 = M 3 75
          omega
        · exact a1 j hj (by (try rw [h0] at ht); omega)
      · exact a2 j hj (by omega)
    have k_xS6 : xS6 W := by
      rw [hW]
      exact (uxS6 rfl hI.2.2.2.2.2.2.2.2.2.2.2.2.2.2.2.2.2.2.2.2.2.2.2.2.2.2.1)
    have k_xS7 : xS7 W := by
      rw [hW]
      exact (uxS7 rfl hI.2.2.2.2.2.2.2.2.2.2.2.2.2.2.2.2.2.2.2.2.2.2.2.2.2.2.2.1)
    have k_xS8 : xS8 W := by
      rw [hW]
      exact (uxS8 rfl hI.2.2.2.2.2.2.2.2.2.2.2.2.2.2.2.2.2.2.2.2.2.2.2.2.2.2.2.2.1)
    have k_xS9 : xS9 W := by
      rw [hW]
      exact (uxS9 rfl hI.2.2.2.2.2.2.2.2.2.2.2.2.2.2.2.2.2.2.2.2.2.2.2.2.2.2.2.2.2.1)
    have k_xSA : xSA W := by
      rw [hW]
      exact (uxSA rfl hI.2.2.2.2.2.2.2.2.2.2.2.2.2.2.2.2.2.2.2.2.2.2.2.2.2.2.2.2.2.2.1)
    have k_xSG : xSG W := by
      rw [hW]
      exact (uxSG rfl hI.2.2.2.2.2.2.2.2.2.2.2.2.2.2.2.2.2.2.2.2.2.2.2.2.2.2.2.2.2.2.2.1)
    have k_xSF : xSF W := by
      rw [hW]
      exact (uxSF rfl hI.2.2.2.2.2.2.2.2.2.2.2.2.2.2.2.2.2.2.2.2.2.2.2.2.2.2.2.2.2.2.2.2.1)
    have k_xSB : xSB W := by
      rw [hW]
      exact (uxSB rfl hI.2.2.2.2.2.2.2.2.2.2.2.2.2.2.2.2.2.2.2.2.2.2.2.2.2.2.2.2.2.2.2.2.2.1)
    have k_xSC : xSC W := by
      rw [hW]
      exact (uxSC rfl hI.2.2.2.2.2.2.2.2.2.2.2.2.2.2.2.2.2.2.2.2.2.2.2.2.2.2.2.2.2.2.2.2.2.2.1)
    have k_xSD : xSD W := by
      rw [hW]
      exact (uxSD rfl hI.2.2.2.2.2.2.2.2.2.2.2.2.2.2.2.2.2.2.2.2.2.2.2.2.2.2.2.2.2.2.2.2.2.2.2.1)
    have k_xSE : xSE W := by
      rw [hW]
      exact (uxSE rfl hI.2.2.2.2.2.2.2.2.2.2.2.2.2.2.2.2.2.2.2.2.2.2.2.2.2.2.2.2.2.2.2.2.2.2.2.2.1)
    have k_xSW : xSW W := by
      rw [hW]
      exact (uxSW rfl hI.2.2.2.2.2.2.2.2.2.2.2.2.2.2.2.2.2.2.2.2.2.2.2.2.2.2.2.2.2.2.2.2.2.2.2.2.2.1)
    have k_xST : xST W := by
      rw [hW]
      exact (uxST rfl hI.2.2.2.2.2.2.2.2.2.2.2.2.2.2.2.2.2.2.2.2.2.2.2.2.2.2.2.2.2.2.2.2.2.2.2.2.2.2.1)
    have k_xSP : xSP W := by
      rw [hW]
      exact (uxSP rfl hI.2.2.2.2.2.2.2.2.2.2.2.2.2.2.2.2.2.2.2.2.2.2.2.2.2.2.2.2.2.2.2.2.2.2.2.2.2.2.2.1)
    have k_xSL : xSL W := by
      rw [hW]
      exact (uxSL rfl hI.2.2.2.2.2.2.2.2.2.2.2.2.2.2.2.2.2.2.2.2.2.2.2.2.2.2.2.2.2.2.2.2.2.2.2.2.2.2.2.2.1)
    have k_xSM : xSM W := by
      rw [hW]
      exact (uxSM rfl hI.2.2.2.2.2.2.2.2.2.2.2.2.2.2.2.2.2.2.2.2.2.2.2.2.2.2.2.2.2.2.2.2.2.2.2.2.2.2.2.2.2.1)
    have k_xSI : xSI W := by
      rw [hW]
      exact (uxSI rfl hI.2.2.2.2.2.2.2.2.2.2.2.2.2.2.2.2.2.2.2.2.2.2.2.2.2.2.2.2.2.2.2.2.2.2.2.2.2.2.2.2.2.2)
    have k_XC : XC W := ⟨k_xS1, k_xS2, k_xS3, k_xS4, k_xS5, k_xS6, k_xS7, k_xS8, k_xS9, k_xSA, k_xSG, k_xSF, k_xSB, k_xSC, k_xSD, k_xSE, k_xSW, k_xST, k_xSP, k_xSL, k_xSM, k_xSI⟩
    have kXB : XB W := ⟨k_xN1, k_xN2, k_xN3, k_xN4, k_xN5, k_xN6, k_xH1, k_xK1, k_xC1, k_xRW, k_xWT, k_xCU, k_xG2, k_xG3, k_xG4, k_xG5, k_xG6, k_XC⟩
    exact ⟨base, k2, k3, kXA, kXB⟩
-- nmWR100
def xr_585 : qRu := (4, [[(-6, 0), (1, 1), (-1, 3)], [(11, 0), (-1, 1)], [(1, 3)], [(2147483648, 0), (1, 2)], [(2147483647, 0), (-1, 2)]], [(4, 105, [(1, 3)])], [(100, [(1, 1)], [(1, 2)])], [], [])
theorem xo_585 : qRok xr_585 := by
  intro ρ M h0 hf hm hI
  have f0 := hf [(-6, 0), (1, 1), (-1, 3)] (by decide)
  have f1 := hf [(11, 0), (-1, 1)] (by decide)
  have f2 := hf [(1, 3)] (by decide)
  have f3 := hf [(2147483648, 0), (1, 2)] (by decide)
  have f4 := hf [(2147483647, 0), (-1, 2)] (by decide)
  simp only [qD, h0] at f0 f1 f2 f3 f4
  have m0 : M 4 105 = 1 * ρ 3 + 0 := hm (4, 105, [(1, 3)]) (by decide)
  have qxS5 := hI.2.2.2.2.2.2.2.2.2.2.2.2.2.2.2.2.2.2.2.2.2.2.2.2.2.1
  refine ⟨ρ, fun _ _ => rfl, fun f h => ?_, ?_⟩
  · exact nomatch h
  · show sI (sU M 100 (1 * ρ 1 + 0 : Int).toNat (1 * ρ 2 + 0))
    obtain ⟨W, hW⟩ : ∃ W, W = (sU M 100 (1 * ρ 1 + 0).toNat (1 * ρ 2 + 0)) := ⟨_, rfl⟩
    rw [← hW]
    have base : sI0 W := by
      rw [hW]
      exact (si_u0 hI.1 (fun r hr => by rw [xt_100 hr]; exact ⟨by show (-2147483648 : Int) ≤ _; omega, by show _ ≤ (2147483647 : Int); omega⟩))
    have k2 : XI2 W := by
      rw [hW]
      exact (xi2_u (sinc_ok rfl _) hI.2.1)
    have k3 : XI3 W := by
      rw [hW]
      exact (xi3_u (sinc_ok rfl _) hI.2.2.1)
    have kXA : XA W := by
      rw [hW]
      exact (uXA (sinc_ok rfl _) hI.2.2.2.1)
    have k_xN1 : xN1 W := by
      rw [hW]
      exact (uxN1 (sinc_ok rfl _) hI.2.2.2.2.1)
    have k_xN2 : xN2 W := by
      rw [hW]
      exact (uxN2 (sinc_ok rfl _) hI.2.2.2.2.2.1)
    have k_xN3 : xN3 W := by
      rw [hW]
      exact (uxN3 (sinc_ok rfl _) hI.2.2.2.2.2.2.1)
    have k_xN4 : xN4 W := by
      rw [hW]
      exact (uxN4 (sinc_ok rfl _) hI.2.2.2.2.2.2.2.1)
    have k_xN5 : xN5 W := by
      rw [hW]
      exact (uxN5 (sinc_ok rfl _) hI.2.2.2.2.2.2.2.2.1)
    have k_xN6 : xN6 W := by
      rw [hW]
      exact (uxN6 (sinc_ok rfl _) hI.2.2.2.2.2.2.2.2.2.1)
    have k_xH1 : xH1 W := by
      rw [hW]
      exact (uxH1 (sinc_ok rfl _) hI.2.2.2.2.2.2.2.2.2.2.1)
    have k_xK1 : xK1 W := by
      rw [hW]
      exact (uxK1 (sinc_ok rfl _) hI.2.2.2.2.2.2.2.2.2.2.2.1)
    have k_xC1 : xC1 W := by
      rw [hW]
      exact (uxC1 (sinc_ok rfl _) hI.2.2.2.2.2.2.2.2.2.2.2.2.1)
    have k_xRW : xRW W := by
      rw [hW]
      exact (uxRW (sinc_ok rfl _) hI.2.2.2.2.2.2.2.2.2.2.2.2.2.1)
    have k_xWT : xWT W := by
      rw [hW]
      exact (uxWT (sinc_ok rfl _) hI.2.2.2.2.2.2.2.2.2.2.2.2.2.2.1)
    have k_xCU : xCU W := by
      rw [hW]
      exact (uxCU (sinc_ok rfl _) hI.2.2.2.2.2.2.2.2.2.2.2.2.2.2.2.1)
    have k_xG2 : xG2 W := by
      rw [hW]
      exact (uxG2 (sinc_ok rfl _) hI.2.2.2.2.2.2.2.2.2.2.2.2.2.2.2.2.1)
    have k_xG3 : xG3 W := by
      rw [hW]
      exact (uxG3 (sinc_ok rfl _) hI.2.2.2.2.2.2.2.2.2.2.2.2.2.2.2.2.2.1)
    have k_xG4 : xG4 W := by
      rw [hW]
      exact (uxG4 (sinc_ok rfl _) hI.2.2.2.2.2.2.2.2.2.2.2.2.2.2.2.2.2.2.1)
    have k_xG5 : xG5 W := by
      rw [hW]
      exact (uxG5 (sinc_ok rfl _) hI.2.2.2.2.2.2.2.2.2.2.2.2.2.2.2.2.2.2.2.1)
    have k_xG6 : xG6 W := by
      rw [hW]
      exact (uxG6 (sinc_ok rfl _) hI.2.2.2.2.2.2.2.2.2.2.2.2.2.2.2.2.2.2.2.2.1)
    have k_xS1 : xS1 W := by
      rw [hW]
      exact (uxS1 (sinc_ok rfl _) hI.2.2.2.2.2.2.2.2.2.2.2.2.2.2.2.2.2.2.2.2.2.1)
    have k_xS2 : xS2 W := by
      rw [hW]
      exact (uxS2 (sinc_ok rfl _) hI.2.2.2.2.2.2.2.2.2.2.2.2.2.2.2.2.2.2.2.2.2.2.1)
    have k_xS3 : xS3 W := by
      rw [hW]
      exact (uxS3 (sinc_ok rfl _) hI.2.2.2.2.2.2.2.2.2.2.2.2.2.2.2.2.2.2.2.2.2.2.2.1)
    have k_xS4 : xS4 W := by
      rw [hW]
      exact (uxS4 (sinc_ok rfl _) hI.2.2.2.2.2.2.2.2.2.2.2.2.2.2.2.2.2.2.2.2.2.2.2.2.1)
    have k_xS5 : xS5 W := by
      have r4_100 : W 4 100 = M 4 100 := by rw [hW, sU_ne (fun z => by omega)]
      have r4_104 : W 4 104 = M 4 104 := by rw [hW, sU_ne (fun z => by omega)]
      have r4_105 : W 4 105 = M 4 105 := by rw [hW, sU_ne (fun z => by omega)]
      have r4_106 : W 4 106 = M 4 106 := by rw [hW, sU_ne (fun z => by omega)]
      have c3 : ∀ k, W 3 k = M 3 k := fun k => by rw [hW, sU_ne (fun z => by omega)]
      have e3 : W 3 = M 3 := funext c3
      have c94 : ∀ k, W 94 k = M 94 k := fun k => by rw [hW, sU_ne (fun z => by omega)]
      have e94 : W 94 = M 94 := funext c94
      have c100 : ∀ k : Nat, k ≠ (1 * ρ 1 + 0).toNat → W 100 k = M 100 k := fun k hk => by rw [hW, sU_ne (fun z => by omega)]
      have a100 : W 100 (1 * ρ 1 + 0).toNat = 1 * ρ 2 + 0 := by rw [hW, sU_at]
      have c104 : ∀ k, W 104 k = M 104 k := fun k => by rw [hW, sU_ne (fun z => by omega)]
      have e104 : W 104 = M 104 := funext c104
      intro h
      rw [r4_100] at h
      obtain ⟨a0, a1, a2⟩ := gx_xS5 hI h
      rw [r4_104, r4_105, r4_106, e3]
      refine ⟨fun j hj ht => ?_, fun j hj ht => ?_, fun j hj ht => ?_⟩
      · rw [e94]
        exact a0 j hj (by omega)
      · rw [c100 _ (by omega)]
        exact a1 j hj (by omega)
      · rw [e104]
        exact a2 j hj (by omega)
    have k_xS6 : xS6 W := by
      rw [hW]
      exact (uxS6 (sinc_ok rfl _) hI.2.2.2.2.2.2.2.2.2.2.2.2.2.2.2.2.2.2.2.2.2.2.2.2.2.2.1)
    have k_xS7 : xS7 W := by
      rw [hW]
      exact (uxS7 (sinc_ok rfl _) hI.2.2.2.2.2.2.2.2.2.2.2.2.2.2.2.2.2.2.2.2.2.2.2.2.2.2.2.1)
    have k_xS8 : xS8 W := by
      rw [hW]
      exact (uxS8 (sinc_ok rfl _) hI.2.2.2.2.2.2.2.2.2.2.2.2.2.2.2.2.2.2.2.2.2.2.2.2.2.2.2.2.1)
    have k_xS9 : xS9 W := by
      rw [hW]
      exact (uxS9 (sinc_ok rfl _) hI.2.2.2.2.2.2.2.2.2.2.2.2.2.2.2.2.2.2.2.2.2.2.2.2.2.2.2.2.2.1)
    have k_xSA : xSA W := by
      rw [hW]
      exact (uxSA (sinc_ok rfl _) hI.2.2.2.2.2.2.2.2.2.2.2.2.2.2.2.2.2.2.2.2.2.2.2.2.2.2.2.2.2.2.1)
    have k_xSG : xSG W := by
      rw [hW]
      exact (uxSG (sinc_ok rfl _) hI.2.2.2.2.2.2.2.2.2.2.2.2.2.2.2.2.2.2.2.2.2.2.2.2.2.2.2.2.2.2.2.1)
    have k_xSF : xSF W := by
      rw [hW]
      exact (uxSF (sinc_ok rfl _) hI.2.2.2.2.2.2.2.2.2.2.2.2.2.2.2.2.2.2.2.2.2.2.2.2.2.2.2.2.2.2.2.2.1)
    have k_xSB : xSB W := by
      rw [hW]
      exact (uxSB (sinc_ok rfl _) hI.2.2.2.2.2.2.2.2.2.2.2.2.2.2.2.2.2.2.2.2.2.2.2.2.2.2.2.2.2.2.2.2.2.1)
    have k_xSC : xSC W := by
      rw [hW]
      exact (uxSC (sinc_ok rfl _) hI.2.2.2.2.2.2.2.2.2.2.2.2.2.2.2.2.2.2.2.2.2.2.2.2.2.2.2.2.2.2.2.2.2.2.1)
    have k_xSD : xSD W := by
      rw [hW]
      exact (uxSD (sinc_ok rfl _) hI.2.2.2.2.2.2.2.2.2.2.2.2.2.2.2.2.2.2.2.2.2.2.2.2.2.2.2.2.2.2.2.2.2.2.2.1)
    have k_xSE : xSE W := by
      rw [hW]
      exact (uxSE (sinc_ok rfl _) hI.2.2.2.2.2.2.2.2.2.2.2.2.2.2.2.2.2.2.2.2.2.2.2.2.2.2.2.2.2.2.2.2.2.2.2.2.1)
    have k_xSW : xSW W := by
      rw [hW]
      exact (uxSW (sinc_ok rfl _) hI.2.2.2.2.2.2.2.2.2.2.2.2.2.2.2.2.2.2.2.2.2.2.2.2.2.2.2.2.2.2.2.2.2.2.2.2.2.1)
    have k_xST : xST W := by
      rw [hW]
      exact (uxST (sinc_ok rfl _) hI.2.2.2.2.2.2.2.2.2.2.2.2.2.2.2.2.2.2.2.2.2.2.2.2.2.2.2.2.2.2.2.2.2.2.2.2.2.2.1)
    have k_xSP : xSP W := by
      rw [hW]
      exact (uxSP (sinc_ok rfl _) hI.2.2.2.2.2.2.2.2.2.2.2.2.2.2.2.2.2.2.2.2.2.2.2.2.2.2.2.2.2.2.2.2.2.2.2.2.2.2.2.1)
    have k_xSL : xSL W := by
      rw [hW]
      exact (uxSL (sinc_ok rfl _) hI.2.2.2.2.2.2.2.2.2.2.2.2.2.2.2.2.2.2.2.2.2.2.2.2.2.2.2.2.2.2.2.2.2.2.2.2.2.2.2.2.1)
    have k_xSM : xSM W := by
      rw [hW]
      exact (uxSM (sinc_ok rfl _) hI.2.2.2.2.2.2.2.2.2.2.2.2.2.2.2.2.2.2.2.2.2.2.2.2.2.2.2.2.2.2.2.2.2.2.2.2.2.2.2.2.2.1)
    have k_xSI : xSI W := by
      rw [hW]
      exact (uxSI (sinc_ok rfl _) hI.2.2.2.2.2.2.2.2.2.2.2.2.2.2.2.2.2.2.2.2.2.2.2.2.2.2.2.2.2.2.2.2.2.2.2.2.2.2.2.2.2.2)
    have k_XC : XC W := ⟨k_xS1, k_xS2, k_xS3, k_xS4, k_xS5, k_xS6, k_xS7, k_xS8, k_xS9, k_xSA, k_xSG, k_xSF, k_xSB, k_xSC, k_xSD, k_xSE, k_xSW, k_xST, k_xSP, k_xSL, k_xSM, k_xSI⟩
    have kXB : XB W := ⟨k_xN1, k_xN2, k_xN3, k_xN4, k_xN5, k_xN6, k_xH1, k_xK1, k_xC1, k_xRW, k_xWT, k_xCU, k_xG2, k_xG3, k_xG4, k_xG5, k_xG6, k_XC⟩
    exact ⟨base, k2, k3, kXA, kXB⟩
-- nmLR100
def xr_586 : qRu := (3, [[(1, 1)], [(5, 0), (-1, 1)], [(2147483648, 0), (1, 2)], [(2147483647, 0), (-1, 2)]], [], [(100, [(1, 1)], [(1, 2)])], [], [])
theorem xo_586 : qRok xr_586 := by
  intro ρ M h0 hf hm hI
  have f0 := hf [(1, 1)] (by decide)
  have f1 := hf [(5, 0), (-1, 1)] (by decide)
  have f2 := hf [(2147483648, 0), (1, 2)] (by decide)
  have f3 := hf [(2147483647, 0), (-1, 2)] (by decide)
  simp only [qD, h0] at f0 f1 f2 f3
  have qxS5 := hI.2.2.2.2.2.2.2.2.2.2.2.2.2.2.2.2.2.2.2.2.2.2.2.2.2.1
  refine ⟨ρ, fun _ _ => rfl, fun f h => ?_, ?_⟩
  · exact nomatch h
  · show sI (sU M 100 (1 * ρ 1 + 0 : Int).toNat (1 * ρ 2 + 0))
    obtain ⟨W, hW⟩ : ∃ W, W = (sU M 100 (1 * ρ 1 + 0).toNat (1 * ρ 2 + 0)) := ⟨_, rfl⟩
    rw [← hW]
    have base : sI0 W := by
      rw [hW]
      exact (si_u0 hI.1 (fun r hr => by rw [xt_100 hr]; exact ⟨by show (-2147483648 : Int) ≤ _; omega, by show _ ≤ (2147483647 : Int); omega⟩))
    have k2 : XI2 W := by
      rw [hW]
      exact (xi2_u (sinc_ok rfl _) hI.2.1)
    have k3 : XI3 W := by
      rw [hW]
      exact (xi3_u (sinc_ok rfl _) hI.2.2.1)
    have kXA : XA W := by
      rw [hW]
      exact (uXA (sinc_ok rfl _) hI.2.2.2.1)
    have k_xN1 : xN1 W := by
      rw [hW]
      exact (uxN1 (sinc_ok rfl _) hI.2.2.2.2.1)
    have k_xN2 : xN2 W := by
      rw [hW]
      exact (uxN2 (sinc_ok rfl _) hI.2.2.2.2.2.1)
    have k_xN3 : xN3 W := by
      rw [hW]
      exact (uxN3 (sinc_ok rfl _) hI.2.2.2.2.2.2.1)
    have k_xN4 : xN4 W := by
      rw [hW]
      exact (uxN4 (sinc_ok rfl _) hI.2.2.2.2.2.2.2.1)
    have k_xN5 : xN5 W := by
      rw [hW]
      exact (uxN5 (sinc_ok rfl _) hI.2.2.2.2.2.2.2.2.1)
    have k_xN6 : xN6 W := by
      rw [hW]
      exact (uxN6 (sinc_ok rfl _) hI.2.2.2.2.2.2.2.2.2.1)
    have k_xH1 : xH1 W := by
      rw [hW]
      exact (uxH1 (sinc_ok rfl _) hI.2.2.2.2.2.2.2.2.2.2.1)
    have k_xK1 : xK1 W := by
      rw [hW]
      exact (uxK1 (sinc_ok rfl _) hI.2.2.2.2.2.2.2.2.2.2.2.1)
    have k_xC1 : xC1 W := by
      rw [hW]
      exact (uxC1 (sinc_ok rfl _) hI.2.2.2.2.2.2.2.2.2.2.2.2.1)
    have k_xRW : xRW W := by
      rw [hW]
      exact (uxRW (sinc_ok rfl _) hI.2.2.2.2.2.2.2.2.2.2.2.2.2.1)
    have k_xWT : xWT W := by
      rw [hW]
      exact (uxWT (sinc_ok rfl _) hI.2.2.2.2.2.2.2.2.2.2.2.2.2.2.1)
    have k_xCU : xCU W := by
      rw [hW]
      exact (uxCU (sinc_ok rfl _) hI.2.2.2.2.2.2.2.2.2.2.2.2.2.2.2.1)
    have k_xG2 : xG2 W := by
      rw [hW]
      exact (uxG2 (sinc_ok rfl _) hI.2.2.2.2.2.2.2.2.2.2.2.2.2.2.2.2.1)
    have k_xG3 : xG3 W := by
      rw [hW]
      exact (uxG3 (sinc_ok rfl _) hI.2.2.2.2.2.2.2.2.2.2.2.2.2.2.2.2.2.1)
    have k_xG4 : xG4 W := by
      rw [hW]
      exact (uxG4 (sinc_ok rfl _) hI.2.2.2.2.2.2.2.2.2.2.2.2.2.2.2.2.2.2.1)
    have k_xG5 : xG5 W := by
      rw [hW]
      exact (uxG5 (sinc_ok rfl _) hI.2.2.2.2.2.2.2.2.2.2.2.2.2.2.2.2.2.2.2.1)
    have k_xG6 : xG6 W := by
      rw [hW]
      exact (uxG6 (sinc_ok rfl _) hI.2.2.2.2.2.2.2.2.2.2.2.2.2.2.2.2.2.2.2.2.1)
    have k_xS1 : xS1 W := by
      rw [hW]
      exact (uxS1 (sinc_ok rfl _) hI.2.2.2.2.2.2.2.2.2.2.2.2.2.2.2.2.2.2.2.2.2.1)
    have k_xS2 : xS2 W := by
      rw [hW]
      exact (uxS2 (sinc_ok rfl _) hI.2.2.2.2.2.2.2.2.2.2.2.2.2.2.2.2.2.2.2.2.2.2.1)
    have k_xS3 : xS3 W := by
      rw [hW]
      exact (uxS3 (sinc_ok rfl _) hI.2.2.2.2.2.2.2.2.2.2.2.2.2.2.2.2.2.2.2.2.2.2.2.1)
    have k_xS4 : xS4 W := by
      rw [hW]
      exact (uxS4 (sinc_ok rfl _) hI.2.2.2.2.2.2.2.2.2.2.2.2.2.2.2.2.2.2.2.2.2.2.2.2.1)
    have k_xS5 : xS5 W := by
      have r4_100 : W 4 100 = M 4 100 := by rw [hW, sU_ne (fun z => by omega)]
      have r4_104 : W 4 104 = M 4 104 := by rw [hW, sU_ne (fun z => by omega)]
      have r4_105 : W 4 105 = M 4 105 := by rw [hW, sU_ne (fun z => by omega)]
      have r4_106 : W 4 106 = M 4 106 := by rw [hW, sU_ne (fun z => by omega)]
      have c3 : ∀ k, W 3 k = M 3 k := fun k => by rw [hW, sU_ne (fun z => by omega)]
      have e3 : W 3 = M 3 := funext c3
      have c94 : ∀ k, W 94 k = M 94 k := fun k => by rw [hW, sU_ne (fun z => by omega)]
      have e94 : W 94 = M 94 := funext c94
      have c100 : ∀ k : Nat, k ≠ (1 * ρ 1 + 0).toNat → W 100 k = M 100 k := fun k hk => by rw [hW, sU_ne (fun z => by omega)]
      have a100 : W 100 (1 * ρ 1 + 0).toNat = 1 * ρ 2 + 0 := by rw [hW, sU_at]
      have c104 : ∀ k, W 104 k = M 104 k := fun k => by rw [hW, sU_ne (fun z => by omega)]
      have e104 : W 104 = M 104 := funext c104
      intro h
      rw [r4_100] at h
      obtain ⟨a0, a1, a2⟩ := gx_xS5 hI h
      rw [r4_104, r4_105, r4_106, e3]
      refine ⟨fun j hj ht => ?_, fun j hj ht => ?_, fun j hj ht => ?_⟩
      · rw [e94]
        exact a0 j hj (by omega)
      · rw [c100 _ (by omega)]
        exact a1 j hj (by omega)
      · rw [e104]
        exact a2 j hj (by omega)
    have k_xS6 : xS6 W := by
      rw [hW]
      exact (uxS6 (sinc_ok rfl _) hI.2.2.2.2.2.2.2.2.2.2.2.2.2.2.2.2.2.2.2.2.2.2.2.2.2.2.1)
    have k_xS7 : xS7 W := by
      rw [hW]
      exact (uxS7 (sinc_ok rfl _) hI.2.2.2.2.2.2.2.2.2.2.2.2.2.2.2.2.2.2.2.2.2.2.2.2.2.2.2.1)
    have k_xS8 : xS8 W := by
      rw [hW]
      exact (uxS8 (sinc_ok rfl _) hI.2.2.2.2.2.2.2.2.2.2.2.2.2.2.2.2.2.2.2.2.2.2.2.2.2.2.2.2.1)
    have k_xS9 : xS9 W := by
      rw [hW]
      exact (uxS9 (sinc_ok rfl _) hI.2.2.2.2.2.2.2.2.2.2.2.2.2.2.2.2.2.2.2.2.2.2.2.2.2.2.2.2.2.1)
    have k_xSA : xSA W := by
      rw [hW]
      exact (uxSA (sinc_ok rfl _) hI.2.2.2.2.2.2.2.2.2.2.2.2.2.2.2.2.2.2.2.2.2.2.2.2.2.2.2.2.2.2.1)
    have k_xSG : xSG W := by
      rw [hW]
      exact (uxSG (sinc_ok rfl _) hI.2.2.2.2.2.2.2.2.2.2.2.2.2.2.2.2.2.2.2.2.2.2.2.2.2.2.2.2.2.2.2.1)
    have k_xSF : xSF W := by
      rw [hW]
      exact (uxSF (sinc_ok rfl _) hI.2.2.2.2.2.2.2.2.2.2.2.2.2.2.2.2.2.2.2.2.2.2.2.2.2.2.2.2.2.2.2.2.1)
    have k_xSB : xSB W := by
      rw [hW]
      exact (uxSB (sinc_ok rfl _) hI.2.2.2.2.2.2.2.2.2.2.2.2.2.2.2.2.2.2.2.2.2.2.2.2.2.2.2.2.2.2.2.2.2.1)
    have k_xSC : xSC W := by
      rw [hW]
      exact (uxSC (sinc_ok rfl _) hI.2.2.2.2.2.2.2.2.2.2.2.2.2.2.2.2.2.2.2.2.2.2.2.2.2.2.2.2.2.2.2.2.2.2.1)
    have k_xSD : xSD W := by
      rw [hW]
      exact (uxSD (sinc_ok rfl _) hI.2.2.2.2.2.2.2.2.2.2.2.2.2.2.2.2.2.2.2.2.2.2.2.2.2.2.2.2.2.2.2.2.2.2.2.1)
    have k_xSE : xSE W := by
      rw [hW]
      exact (uxSE (sinc_ok rfl _) hI.2.2.2.2.2.2.2.2.2.2.2.2.2.2.2.2.2.2.2.2.2.2.2.2.2.2.2.2.2.2.2.2.2.2.2.2.1)
    have k_xSW : xSW W := by
      rw [hW]
      exact (uxSW (sinc_ok rfl _) hI.2.2.2.2.2.2.2.2.2.2.2.2.2.2.2.2.2.2.2.2.2.2.2.2.2.2.2.2.2.2.2.2.2.2.2.2.2.1)
    have k_xST : xST W := by
      rw [hW]
      exact (uxST (sinc_ok rfl _) hI.2.2.2.2.2.2.2.2.2.2.2.2.2.2.2.2.2.2.2.2.2.2.2.2.2.2.2.2.2.2.2.2.2.2.2.2.2.2.1)
    have k_xSP : xSP W := by
      rw [hW]
      exact (uxSP (sinc_ok rfl _) hI.2.2.2.2.2.2.2.2.2.2.2.2.2.2.2.2.2.2.2.2.2.2.2.2.2.2.2.2.2.2.2.2.2.2.2.2.2.2.2.1)
    have k_xSL : xSL W := by
      rw [hW]
      exact (uxSL (sinc_ok rfl _) hI.2.2.2.2.2.2.2.2.2.2.2.2.2.2.2.2.2.2.2.2.2.2.2.2.2.2.2.2.2.2.2.2.2.2.2.2.2.2.2.2.1)
    have k_xSM : xSM W := by
      rw [hW]
      exact (uxSM (sinc_ok rfl _) hI.2.2.2.2.2.2.2.2.2.2.2.2.2.2.2.2.2.2.2.2.2.2.2.2.2.2.2.2.2.2.2.2.2.2.2.2.2.2.2.2.2.1)
    have k_xSI : xSI W := by
      rw [hW]
      exact (uxSI (sinc_ok rfl _) hI.2.2.2.2.2.2.2.2.2.2.2.2.2.2.2.2.2.2.2.2.2.2.2.2.2.2.2.2.2.2.2.2.2.2.2.2.2.2.2.2.2.2)
    have k_XC : XC W := ⟨k_xS1, k_xS2, k_xS3, k_xS4, k_xS5, k_xS6, k_xS7, k_xS8, k_xS9, k_xSA, k_xSG, k_xSF, k_xSB, k_xSC, k_xSD, k_xSE, k_xSW, k_xST, k_xSP, k_xSL, k_xSM, k_xSI⟩
    have kXB : XB W := ⟨k_xN1, k_xN2, k_xN3, k_xN4, k_xN5, k_xN6, k_xH1, k_xK1, k_xC1, k_xRW, k_xWT, k_xCU, k_xG2, k_xG3, k_xG4, k_xG5, k_xG6, k_XC⟩
    exact ⟨base, k2, k3, kXA, kXB⟩
-- nm0R100
def xr_587 : qRu := (3, [[(1, 1)], [(11, 0), (-1, 1)], [(2147483648, 0), (1, 2)], [(2147483647, 0), (-1, 2)]], [(4, 100, [])], [(100, [(1, 1)], [(1, 2)])], [], [])
theorem xo_587 : qRok xr_587 := by
  intro ρ M h0 hf hm hI
  have f0 := hf [(1, 1)] (by decide)
  have f1 := hf [(11, 0), (-1, 1)] (by decide)
  have f2 := hf [(2147483648, 0), (1, 2)] (by decide)
  have f3 := hf [(2147483647, 0), (-1, 2)] (by decide)
  simp only [qD, h0] at f0 f1 f2 f3
  have m0 : M 4 100 = 0 := hm (4, 100, []) (by decide)
  refine ⟨ρ, fun _ _ => rfl, fun f h => ?_, ?_⟩
  · exact nomatch h
  · show sI (sU M 100 (1 * ρ 1 + 0 : Int).toNat (1 * ρ 2 + 0))
    obtain ⟨W, hW⟩ : ∃ W, W = (sU M 100 (1 * ρ 1 + 0).toNat (1 * ρ 2 + 0)) := ⟨_, rfl⟩
    rw [← hW]
    have base : sI0 W := by
      rw [hW]
      exact (si_u0 hI.1 (fun r hr => by rw [xt_100 hr]; exact ⟨by show (-2147483648 : Int) ≤ _; omega, by show _ ≤ (2147483647 : Int); omega⟩))
    have k2 : XI2 W := by
      rw [hW]
      exact (xi2_u (sinc_ok rfl _) hI.2.1)
    have k3 : XI3 W := by
      rw [hW]
      exact (xi3_u (sinc_ok rfl _) hI.2.2.1)
    have kXA : XA W := by
      rw [hW]
      exact (uXA (sinc_ok rfl _) hI.2.2.2.1)
    have k_xN1 : xN1 W := by
      rw [hW]
      exact (uxN1 (sinc_ok rfl _) hI.2.2.2.2.1)
    have k_xN2 : xN2 W := by
      rw [hW]
      exact (uxN2 (sinc_ok rfl _) hI.2.2.2.2.2.1)
    have k_xN3 : xN3 W := by
      rw [hW]
      exact (uxN3 (sinc_ok rfl _) hI.2.2.2.2.2.2.1)
    have k_xN4 : xN4 W := by
      rw [hW]
      exact (uxN4 (sinc_ok rfl _) hI.2.2.2.2.2.2.2.1)
    have k_xN5 : xN5 W := by
      rw [hW]
      exact (uxN5 (sinc_ok rfl _) hI.2.2.2.2.2.2.2.2.1)
    have k_xN6 : xN6 W := by
      rw [hW]
      exact (uxN6 (sinc_ok rfl _) hI.2.2.2.2.2.2.2.2.2.1)
    have k_xH1 : xH1 W := by
      rw [hW]
      exact (uxH1 (sinc_ok rfl _) hI.2.2.2.2.2.2.2.2.2.2.1)
    have k_xK1 : xK1 W := by
      rw [hW]
      exact (uxK1 (sinc_ok rfl _) hI.2.2.2.2.2.2.2.2.2.2.2.1)
    have k_xC1 : xC1 W := by
      rw [hW]
      exact (uxC1 (sinc_ok rfl _) hI.2.2.2.2.2.2.2.2.2.2.2.2.1)
    have k_xRW : xRW W := by
      rw [hW]
      exact (uxRW (sinc_ok rfl _) hI.2.2.2.2.2.2.2.2.2.2.2.2.2.1)
    have k_xWT : xWT W := by
      rw [hW]
      exact (uxWT (sinc_ok rfl _) hI.2.2.2.2.2.2.2.2.2.2.2.2.2.2.1)
    have k_xCU : xCU W := by
      rw [hW]
      exact (uxCU (sinc_ok rfl _) hI.2.2.2.2.2.2.2.2.2.2.2.2.2.2.2.1)
    have k_xG2 : xG2 W := by
      rw [hW]
      exact (uxG2 (sinc_ok rfl _) hI.2.2.2.2.2.2.2.2.2.2.2.2.2.2.2.2.1)
    have k_xG3 : xG3 W := by
      rw [hW]
      exact (uxG3 (sinc_ok rfl _) hI.2.2.2.2.2.2.2.2.2.2.2.2.2.2.2.2.2.1)
    have k_xG4 : xG4 W := by
      rw [hW]
      exact (uxG4 (sinc_ok rfl _) hI.2.2.2.2.2.2.2.2.2.2.2.2.2.2.2.2.2.2.1)
    have k_xG5 : xG5 W := by
      rw [hW]
      exact (uxG5 (sinc_ok rfl _) hI.2.2.2.2.2.2.2.2.2.2.2.2.2.2.2.2.2.2.2.1)
    have k_xG6 : xG6 W := by
      rw [hW]
      exact (uxG6 (sinc_ok rfl _) hI.2.2.2.2.2.2.2.2.2.2.2.2.2.2.2.2.2.2.2.2.1)
    have k_xS1 : xS1 W := by
      rw [hW]
      exact (uxS1 (sinc_ok rfl _) hI.2.2.2.2.2.2.2.2.2.2.2.2.2.2.2.2.2.2.2.2.2.1)
    have k_xS2 : xS2 W := by
      rw [hW]
      exact (uxS2 (sinc_ok rfl _) hI.2.2.2.2.2.2.2.2.2.2.2.2.2.2.2.2.2.2.2.2.2.2.1)
    have k_xS3 : xS3 W := by
      rw [hW]
      exact (uxS3 (sinc_ok rfl _) hI.2.2.2.2.2.2.2.2.2.2.2.2.2.2.2.2.2.2.2.2.2.2.2.1)
    have k_xS4 : xS4 W := by
      rw [hW]
      exact (uxS4 (sinc_ok rfl _) hI.2.2.2.2.2.2.2.2.2.2.2.2.2.2.2.2.2.2.2.2.2.2.2.2.1)
    have k_xS5 : xS5 W := by
      have r : W 4 100 = 0 := by
        have e := m0
        rw [hW, sU_ne (fun z => by omega)]
        omega
      intro h
      rw [r] at h
      omega
    have k_xS6 : xS6 W := by
      rw [hW]
      exact (uxS6 (sinc_ok rfl _) hI.2.2.2.2.2.2.2.2.2.2.2.2.2.2.2.2.2.2.2.2.2.2.2.2.2.2.1)
    have k_xS7 : xS7 W := by
      rw [hW]
      exact (uxS7 (sinc_ok rfl _) hI.2.2.2.2.2.2.2.2.2.2.2.2.2.2.2.2.2.2.2.2.2.2.2.2.2.2.2.1)
    have k_xS8 : xS8 W := by
      rw [hW]
      exact (uxS8 (sinc_ok rfl _) hI.2.2.2.2.2.2.2.2.2.2.2.2.2.2.2.2.2.2.2.2.2.2.2.2.2.2.2.2.1)
    have k_xS9 : xS9 W := by
      rw [hW]
      exact (uxS9 (sinc_ok rfl _) hI.2.2.2.2.2.2.2.2.2.2.2.2.2.2.2.2.2.2.2.2.2.2.2.2.2.2.2.2.2.1)
    have k_xSA : xSA W := by
      rw [hW]
      exact (uxSA (sinc_ok rfl _) hI.2.2.2.2.2.2.2.2.2.2.2.2.2.2.2.2.2.2.2.2.2.2.2.2.2.2.2.2.2.2.1)
    have k_xSG : xSG W := by
      rw [hW]
      exact (uxSG (sinc_ok rfl _) hI.2.2.2.2.2.2.2.2.2.2.2.2.2.2.2.2.2.2.2.2.2.2.2.2.2.2.2.2.2.2.2.1)
    have k_xSF : xSF W := by
      rw [hW]
      exact (uxSF (sinc_ok rfl _) hI.2.2.2.2.2.2.2.2.2.2.2.2.2.2.2.2.2.2.2.2.2.2.2.2.2.2.2.2.2.2.2.2.1)
    have k_xSB : xSB W := by
      rw [hW]
      exact (uxSB (sinc_ok rfl _) hI.2.2.2.2.2.2.2.2.2.2.2.2.2.2.2.2.2.2.2.2.2.2.2.2.2.2.2.2.2.2.2.2.2.1)
    have k_xSC : xSC W := by
      rw [hW]
      exact (uxSC (sinc_ok rfl _) hI.2.2.2.2.2.2.2.2.2.2.2.2.2.2.2.2.2.2.2.2.2.2.2.2.2.2.2.2.2.2.2.2.2.2.1)
    have k_xSD : xSD W := by
      rw [hW]
      exact (uxSD (sinc_ok rfl _) hI.2.2.2.2.2.2.2.2.2.2.2.2.2.2.2.2.2.2.2.2.2.2.2.2.2.2.2.2.2.2.2.2.2.2.2.1)
    have k_xSE : xSE W := by
      rw [hW]
      exact (uxSE (sinc_ok rfl _) hI.2.2.2.2.2.2.2.2.2.2.2.2.2.2.2.2.2.2.2.2.2.2.2.2.2.2.2.2.2.2.2.2.2.2.2.2.1)
    have k_xSW : xSW W := by
      rw [hW]
      exact (uxSW (sinc_ok rfl _) hI.2.2.2.2.2.2.2.2.2.2.2.2.2.2.2.2.2.2.2.2.2.2.2.2.2.2.2.2.2.2.2.2.2.2.2.2.2.1)
    have k_xST : xST W := by
      rw [hW]
      exact (uxST (sinc_ok rfl _) hI.2.2.2.2.2.2.2.2.2.2.2.2.2.2.2.2.2.2.2.2.2.2.2.2.2.2.2.2.2.2.2.2.2.2.2.2.2.2.1)
    have k_xSP : xSP W := by
      rw [hW]
      exact (uxSP (sinc_ok rfl _) hI.2.2.2.2.2.2.2.2.2.2.2.2.2.2.2.2.2.2.2.2.2.2.2.2.2.2.2.2.2.2.2.2.2.2.2.2.2.2.2.1)
    have k_xSL : xSL W := by
      rw [hW]
      exact (uxSL (sinc_ok rfl _) hI.2.2.2.2.2.2.2.2.2.2.2.2.2.2.2.2.2.2.2.2.2.2.2.2.2.2.2.2.2.2.2.2.2.2.2.2.2.2.2.2.1)
    have k_xSM : xSM W := by
      rw [hW]
      exact (uxSM (sinc_ok rfl _) hI.2.2.2.2.2.2.2.2.2.2.2.2.2.2.2.2.2.2.2.2.2.2.2.2.2.2.2.2.2.2.2.2.2.2.2.2.2.2.2.2.2.1)
    have k_xSI : xSI W := by
      rw [hW]
      exact (uxSI (sinc_ok rfl _) hI.2.2.2.2.2.2.2.2.2.2.2.2.2.2.2.2.2.2.2.2.2.2.2.2.2.2.2.2.2.2.2.2.2.2.2.2.2.2.2.2.2.2)
    have k_XC : XC W := ⟨k_xS1, k_xS2, k_xS3, k_xS4, k_xS5, k_xS6, k_xS7, k_xS8, k_xS9, k_xSA, k_xSG, k_xSF, k_xSB, k_xSC, k_xSD, k_xSE, k_xSW, k_xST, k_xSP, k_xSL, k_xSM, k_xSI⟩
    have kXB : XB W := ⟨k_xN1, k_xN2, k_xN3, k_xN4, k_xN5, k_xN6, k_xH1, k_xK1, k_xC1, k_xRW, k_xWT, k_xCU, k_xG2, k_xG3, k_xG4, k_xG5, k_xG6, k_XC⟩
    exact ⟨base, k2, k3, kXA, kXB⟩
-- nmTieR104_0
def xr_588 : qRu := (4, [[(-1, 0), (1, 3)]], [(4, 100, [(2, 0)]), (4, 106, [(1, 3)]), (104, 3, [(1, 1)]), (3, 80, [(1, 2)])], [], [], [[(1, 1), (-1, 2)], [(-1, 1), (1, 2)]])
theorem xo_588 : qRok xr_588 := by
  intro ρ M h0 hf hm hI
  have f0 := hf [(-1, 0), (1, 3)] (by decide)
  simp only [qD, h0] at f0
  have m0 : M 4 100 = 2 * ρ 0 + 0 := hm (4, 100, [(2, 0)]) (by decide)
  have m1 : M 4 106 = 1 * ρ 3 + 0 := hm (4, 106, [(1, 3)]) (by decide)
  have m2 : M 104 3 = 1 * ρ 1 + 0 := hm (104, 3, [(1, 1)]) (by decide)
  have m3 : M 3 80 = 1 * ρ 2 + 0 := hm (3, 80, [(1, 2)]) (by decide)
  simp only [h0] at m0
  obtain ⟨a0, a1, a2⟩ := gx_xS5 hI (by omega)
  have t := a2 0 (by omega) (by omega)
  have t : M 104 3 = M 3 80 := t
  refine ⟨ρ, fun _ _ => rfl, fun f h => ?_, ?_⟩
  · have h : f ∈ ([[(1, 1), (-1, 2)], [(-1, 1), (1, 2)]] : List qF) := h
    simp only [List.mem_cons, List.not_mem_nil, or_false] at h
    rcases h with rfl | rfl
    · show 0 ≤ 1 * ρ 1 + (-1 * ρ 2 + 0)
      (try rw [h0]); omega
    · show 0 ≤ -1 * ρ 1 + (1 * ρ 2 + 0)
      (try rw [h0]); omega
  · show sI M
    exact hI
-- nmUpR104_0
def xr_589 : qRu := (3, [[(1, 1), (-1, 2)], [(-1, 1), (1, 2)]], [(4, 100, [(2, 0)]), (4, 106, []), (104, 3, [(1, 1)]), (3, 80, [(1, 2)])], [], [(4, 106, [(1, 0)])], [])
theorem xo_589 : qRok xr_589 := by
  intro ρ M h0 hf hm hI
  have f0 := hf [(1, 1), (-1, 2)] (by decide)
  have f1 := hf [(-1, 1), (1, 2)] (by decide)
  simp only [qD, h0] at f0 f1
  have m0 : M 4 100 = 2 * ρ 0 + 0 := hm (4, 100, [(2, 0)]) (by decide)
  have m1 : M 4 106 = 0 := hm (4, 106, []) (by decide)
  have m2 : M 104 3 = 1 * ρ 1 + 0 := hm (104, 3, [(1, 1)]) (by decide)
  have m3 : M 3 80 = 1 * ρ 2 + 0 := hm (3, 80, [(1, 2)]) (by decide)
  simp only [h0] at m0
  have qxS5 := hI.2.2.2.2.2.2.2.2.2.2.2.2.2.2.2.2.2.2.2.2.2.2.2.2.2.1
  refine ⟨ρ, fun _ _ => rfl, fun f h => ?_, ?_⟩
  · exact nomatch h
  · show sI (sU M 4 106 (1 * ρ 0 + 0))
    obtain ⟨W, hW⟩ : ∃ W, W = (sU M 4 106 (1 * ρ 0 + 0)) := ⟨_, rfl⟩
    rw [← hW]
    have base : sI0 W := by
      rw [hW]
      exact (si_u0 hI.1 (fun r hr => by cases hr))
    have k2 : XI2 W := by
      rw [hW]
      exact (xi2_u rfl hI.2.1)
    have k3 : XI3 W := by
      rw [hW]
      exact (xi3_u rfl hI.2.2.1)
    have kXA : XA W := by
      rw [hW]
      exact (uXA rfl hI.2.2.2.1)
    have k_xN1 : xN1 W := by
      rw [hW]
      exact (uxN1 rfl hI.2.2.2.2.1)
    have k_xN2 : xN2 W := by
      rw [hW]
      exact (uxN2 rfl hI.2.2.2.2.2.1)
    have k_xN3 : xN3 W := by
      rw [hW]
      exact (uxN3 rfl hI.2.2.2.2.2.2.1)
    have k_xN4 : xN4 W := by
      rw [hW]
      exact (uxN4 rfl hI.2.2.2.2.2.2.2.1)
    have k_xN5 : xN5 W := by
      rw [hW]
      exact (uxN5 rfl hI.2.2.2.2.2.2.2.2.1)
    have k_xN6 : xN6 W := by
      rw [hW]
      exact (uxN6 rfl hI.2.2.2.2.2.2.2.2.2.1)
    have k_xH1 : xH1 W := by
      rw [hW]
      exact (uxH1 rfl hI.2.2.2.2.2.2.2.2.2.2.1)
    have k_xK1 : xK1 W := by
      rw [hW]
      exact (uxK1 rfl hI.2.2.2.2.2.2.2.2.2.2.2.1)
    have k_xC1 : xC1 W := by
      rw [hW]
      exact (uxC1 rfl hI.2.2.2.2.2.2.2.2.2.2.2.2.1)
    have k_xRW : xRW W := by
      rw [hW]
      exact (uxRW rfl hI.2.2.2.2.2.2.2.2.2.2.2.2.2.1)
    have k_xWT : xWT W := by
      rw [hW]
      exact (uxWT rfl hI.2.2.2.2.2.2.2.2.2.2.2.2.2.2.1)
    have k_xCU : xCU W := by
      rw [hW]
      exact (uxCU rfl hI.2.2.2.2.2.2.2.2.2.2.2.2.2.2.2.1)
    have k_xG2 : xG2 W := by
      rw [hW]
      exact (uxG2 rfl hI.2.2.2.2.2.2.2.2.2.2.2.2.2.2.2.2.1)
    have k_xG3 : xG3 W := by
      rw [hW]
      exact (uxG3 rfl hI.2.2.2.2.2.2.2.2.2.2.2.2.2.2.2.2.2.1)
    have k_xG4 : xG4 W := by
      rw [hW]
      exact (uxG4 rfl hI.2.2.2.2.2.2.2.2.2.2.2.2.2.2.2.2.2.2.1)
    have k_xG5 : xG5 W := by
      rw [hW]
      exact (uxG5 rfl hI.2.2.2.2.2.2.2.2.2.2.2.2.2.2.2.2.2.2.2.1)
    have k_xG6 : xG6 W := by
      rw [hW]
      exact (uxG6 rfl hI.2.2.2.2.2.2.2.2.2.2.2.2.2.2.2.2.2.2.2.2.1)
    have k_xS1 : xS1 W := by
      rw [hW]
      exact (uxS1 rfl hI.2.2.2.2.2.2.2.2.2.2.2.2.2.2.2.2.2.2.2.2.2.1)
    have k_xS2 : xS2 W := by
      rw [hW]
      exact (uxS2 rfl hI.2.2.2.2.2.2.2.2.2.2.2.2.2.2.2.2.2.2.2.2.2.2.1)
    have k_xS3 : xS3 W := by
      rw [hW]
      exact (uxS3 rfl hI.2.2.2.2.2.2.2.2.2.2.2.2.2.2.2.2.2.2.2.2.2.2.2.1)
    have k_xS4 : xS4 W := by
      have r : W 4 100 = 2 := by
        have e := m0
        rw [hW, sU_ne (fun z => by omega)]
        omega
      intro h
      rw [r] at h
      omega
    have k_xS5 : xS5 W := by
      have r4_100 : W 4 100 = M 4 100 := by rw [hW, sU_ne (fun z => by omega)]
      have r4_104 : W 4 104 = M 4 104 := by rw [hW, sU_ne (fun z => by omega)]
      have r4_105 : W 4 105 = M 4 105 := by rw [hW, sU_ne (fun z => by omega)]
      have r4_106 : W 4 106 = 1 * ρ 0 + 0 := by rw [hW, sU_at]
      have c3 : ∀ k, W 3 k = M 3 k := fun k => by rw [hW, sU_ne (fun z => by omega)]
      have e3 : W 3 = M 3 := funext c3
      have c94 : ∀ k, W 94 k = M 94 k := fun k => by rw [hW, sU_ne (fun z => by omega)]
      have e94 : W 94 = M 94 := funext c94
      have c100 : ∀ k, W 100 k = M 100 k := fun k => by rw [hW, sU_ne (fun z => by omega)]
      have e100 : W 100 = M 100 := funext c100
      have c104 : ∀ k, W 104 k = M 104 k := fun k => by rw [hW, sU_ne (fun z => by omega)]
      have e104 : W 104 = M 104 := funext c104
      intro h
      obtain ⟨a0, a1, a2⟩ := gx_xS5 hI (by omega)
      rw [r4_104, r4_105, r4_106, e3, e94, e100, e104]
      refine ⟨fun j hj ht => ?_, fun j hj ht => ?_, fun j hj ht => ?_⟩
      · exact a0 j hj (by omega)
      · exact a1 j hj (by omega)
      · by_cases hJ : j = 0
        · subst hJ
          show M 104 3 = M 3 80
          omega
        · exact a2 j hj (by (try rw [h0] at ht); omega)
    have k_xS6 : xS6 W := by
      rw [hW]
      exact (uxS6 rfl hI.2.2.2.2.2.2.2.2.2.2.2.2.2.2.2.2.2.2.2.2.2.2.2.2.2.2.1)
    have k_xS7 : xS7 W := by
      rw [hW]
      exact (uxS7 rfl hI.2.2.2.2.2.2.2.2.2.2.2.2.2.2.2.2.2.2.2.2.2.2.2.2.2.2.2.1)
    have k_xS8 : xS8 W := by
      rw [hW]
      exact (uxS8 rfl hI.2.2.2.2.2.2.2.2.2.2.2.2.2.2.2.2.2.2.2.2.2.2.2.2.2.2.2.2.1)
    have k_xS9 : xS9 W := by
      rw [hW]
      exact (uxS9 rfl hI.2.2.2.2.2.2.2.2.2.2.2.2.2.2.2.2.2.2.2.2.2.2.2.2.2.2.2.2.2.1)
    have k_xSA : xSA W := by
      rw [hW]
      exact (uxSA rfl hI.2.2.2.2.2.2.2.2.2.2.2.2.2.2.2.2.2.2.2.2.2.2.2.2.2.2.2.2.2.2.1)
    have k_xSG : xSG W := by
      rw [hW]
      exact (uxSG rfl hI.2.2.2.2.2.2.2.2.2.2.2.2.2.2.2.2.2.2.2.2.2.2.2.2.2.2.2.2.2.2.2.1)
    have k_xSF : xSF W := by
      rw [hW]
      exact (uxSF rfl hI.2.2.2.2.2.2.2.2.2.2.2.2.2.2.2.2.2.2.2.2.2.2.2.2.2.2.2.2.2.2.2.2.1)
    have k_xSB : xSB W := by
      rw [hW]
      exact (uxSB rfl hI.2.2.2.2.2.2.2.2.2.2.2.2.2.2.2.2.2.2.2.2.2.2.2.2.2.2.2.2.2.2.2.2.2.1)
    have k_xSC : xSC W := by
      rw [hW]
      exact (uxSC rfl hI.2.2.2.2.2.2.2.2.2.2.2.2.2.2.2.2.2.2.2.2.2.2.2.2.2.2.2.2.2.2.2.2.2.2.1)
    have k_xSD : xSD W := by
      rw [hW]
      exact (uxSD rfl hI.2.2.2.2.2.2.2.2.2.2.2.2.2.2.2.2.2.2.2.2.2.2.2.2.2.2.2.2.2.2.2.2.2.2.2.1)
    have k_xSE : xSE W := by
      rw [hW]
      exact (uxSE rfl hI.2.2.2.2.2.2.2.2.2.2.2.2.2.2.2.2.2.2.2.2.2.2.2.2.2.2.2.2.2.2.2.2.2.2.2.2.1)
    have k_xSW : xSW W := by
      rw [hW]
      exact (uxSW rfl hI.2.2.2.2.2.2.2.2.2.2.2.2.2.2.2.2.2.2.2.2.2.2.2.2.2.2.2.2.2.2.2.2.2.2.2.2.2.1)
    have k_xST : xST W := by
      rw [hW]
      exact (uxST rfl hI.2.2.2.2.2.2.2.2.2.2.2.2.2.2.2.2.2.2.2.2.2.2.2.2.2.2.2.2.2.2.2.2.2.2.2.2.2.2.1)
    have k_xSP : xSP W := by
      rw [hW]
      exact (uxSP rfl hI.2.2.2.2.2.2.2.2.2.2.2.2.2.2.2.2.2.2.2.2.2.2.2.2.2.2.2.2.2.2.2.2.2.2.2.2.2.2.2.1)
    have k_xSL : xSL W := by
      rw [hW]
      exact (uxSL rfl hI.2.2.2.2.2.2.2.2.2.2.2.2.2.2.2.2.2.2.2.2.2.2.2.2.2.2.2.2.2.2.2.2.2.2.2.2.2.2.2.2.1)
    have k_xSM : xSM W := by
      rw [hW]
      exact (uxSM rfl hI.2.2.2.2.2.2.2.2.2.2.2.2.2.2.2.2.2.2.2.2.2.2.2.2.2.2.2.2.2.2.2.2.2.2.2.2.2.2.2.2.2.1)
    have k_xSI : xSI W := by
      rw [hW]
      exact (uxSI rfl hI.2.2.2.2.2.2.2.2.2.2.2.2.2.2.2.2.2.2.2.2.2.2.2.2.2.2.2.2.2.2.2.2.2.2.2.2.2.2.2.2.2.2)
    have k_XC : XC W := ⟨k_xS1, k_xS2, k_xS3, k_xS4, k_xS5, k_xS6, k_xS7, k_xS8, k_xS9, k_xSA, k_xSG, k_xSF, k_xSB, k_xSC, k_xSD, k_xSE, k_xSW, k_xST, k_xSP, k_xSL, k_xSM, k_xSI⟩
    have kXB : XB W := ⟨k_xN1, k_xN2, k_xN3, k_xN4, k_xN5, k_xN6, k_xH1, k_xK1, k_xC1, k_xRW, k_xWT, k_xCU, k_xG2, k_xG3, k_xG4, k_xG5, k_xG6, k_XC⟩
    exact ⟨base, k2, k3, kXA, kXB⟩
-- nmTieR104_1
def xr_590 : qRu := (4, [[(-2, 0), (1, 3)]], [(4, 100, [(2, 0)]), (4, 106, [(1, 3)]), (104, 4, [(1, 1)]), (3, 81, [(1, 2)])], [], [], [[(1, 1), (-1, 2)], [(-1, 1), (1, 2)]])
theorem xo_590 : qRok xr_590 := by
  intro ρ M h0 hf hm hI
  have f0 := hf [(-2, 0), (1, 3)] (by decide)
  simp only [qD, h0] at f0
  have m0 : M 4 100 = 2 * ρ 0 + 0 := hm (4, 100, [(2, 0)]) (by decide)
  have m1 : M 4 106 = 1 * ρ 3 + 0 := hm (4, 106, [(1, 3)]) (by decide)
  have m2 : M 104 4 = 1 * ρ 1 + 0 := hm (104, 4, [(1, 1)]) (by decide)
  have m3 : M 3 81 = 1 * ρ 2 + 0 := hm (3, 81, [(1, 2)]) (by decide)
  simp only [h0] at m0
  obtain ⟨a0, a1, a2⟩ := gx_xS5 hI (by omega)
  have t := a2 1 (by omega) (by omega)
  have t : M 104 4 = M 3 81 := t
  refine ⟨ρ, fun _ _ => rfl, fun f h => ?_, ?_⟩
  · have h : f ∈ ([[(1, 1), (-1, 2)], [(-1, 1), (1, 2)]] : List qF) := h
    simp only [List.mem_cons, List.not_mem_nil, or_false] at h
    rcases h with rfl | rfl
    · show 0 ≤ 1 * ρ 1 + (-1 * ρ 2 + 0)
      (try rw [h0]); omega
    · show 0 ≤ -1 * ρ 1 + (1 * ρ 2 + 0)
      (try rw [h0]); omega
  · show sI M
    exact hI
-- nmUpR104_1
def xr_591 : qRu := (3, [[(1, 1), (-1, 2)], [(-1, 1), (1, 2)]], [(4, 100, [(2, 0)]), (4, 106, [(1, 0)]), (104, 4, [(1, 1)]), (3, 81, [(1, 2)])], [], [(4, 106, [(2, 0)])], [])
theorem xo_591 : qRok xr_591 := by
  intro ρ M h0 hf hm hI
  have f0 := hf [(1, 1), (-1, 2)] (by decide)
  have f1 := hf [(-1, 1), (1, 2)] (by decide)
  simp only [qD, h0] at f0 f1
  have m0 : M 4 100 = 2 * ρ 0 + 0 := hm (4, 100, [(2, 0)]) (by decide)
  have m1 : M 4 106 = 1 * ρ 0 + 0 := hm (4, 106, [(1, 0)]) (by decide)
  have m2 : M 104 4 = 1 * ρ 1 + 0 := hm (104, 4, [(1, 1)]) (by decide)
  have m3 : M 3 81 = 1 * ρ 2 + 0 := hm (3, 81, [(1, 2)]) (by decide)
  simp only [h0] at m0 m1
  have qxS5 := hI.2.2.2.2.2.2.2.2.2.2.2.2.2.2.2.2.2.2.2.2.2.2.2.2.2.1
  refine ⟨ρ, fun _ _ => rfl, fun f h => ?_, ?_⟩
  · exact nomatch h
  · show sI (sU M 4 106 (2 * ρ 0 + 0))
    obtain ⟨W, hW⟩ : ∃ W, W = (sU M 4 106 (2 * ρ 0 + 0)) := ⟨_, rfl⟩
    rw [← hW]
    have base : sI0 W := by
      rw [hW]
      exact (si_u0 hI.1 (fun r hr => by cases hr))
    have k2 : XI2 W := by
      rw [hW]
      exact (xi2_u rfl hI.2.1)
    have k3 : XI3 W := by
      rw [hW]
      exact (xi3_u rfl hI.2.2.1)
    have kXA : XA W := by
      rw [hW]
      exact (uXA rfl hI.2.2.2.1)
    have k_xN1 : xN1 W := by
      rw [hW]
      exact (uxN1 rfl hI.2.2.2.2.1)
    have k_xN2 : xN2 W := by
      rw [hW]
      exact (uxN2 rfl hI.2.2.2.2.2.1)
    have k_xN3 : xN3 W := by
      rw [hW]
      exact (uxN3 rfl hI.2.2.2.2.2.2.1)
    have k_xN4 : xN4 W := by
      rw [hW]
      exact (uxN4 rfl hI.2.2.2.2.2.2.2.1)
    have k_xN5 : xN5 W := by
      rw [hW]
      exact (uxN5 rfl hI.2.2.2.2.2.2.2.2.1)
    have k_xN6 : xN6 W := by
      rw [hW]
      exact (uxN6 rfl hI.2.2.2.2.2.2.2.2.2.1)
    have k_xH1 : xH1 W := by
      rw [hW]
      exact (uxH1 rfl hI.2.2.2.2.2.2.2.2.2.2.1)
    have k_xK1 : xK1 W := by
      rw [hW]
      exact (uxK1 rfl hI.2.2.2.2.2.2.2.2.2.2.2.1)
    have k_xC1 : xC1 W := by
      rw [hW]
      exact (uxC1 rfl hI.2.2.2.2.2.2.2.2.2.2.2.2.1)
    have k_xRW : xRW W := by
      rw [hW]
      exact (uxRW rfl hI.2.2.2.2.2.2.2.2.2.2.2.2.2.1)
    have k_xWT : xWT W := by
      rw [hW]
      exact (uxWT rfl hI.2.2.2.2.2.2.2.2.2.2.2.2.2.2.1)
    have k_xCU : xCU W := by
      rw [hW]
      exact (uxCU rfl hI.2.2.2.2.2.2.2.2.2.2.2.2.2.2.2.1)
    have k_xG2 : xG2 W := by
      rw [hW]
      exact (uxG2 rfl hI.2.2.2.2.2.2.2.2.2.2.2.2.2.2.2.2.1)
    have k_xG3 : xG3 W := by
      rw [hW]
      exact (uxG3 rfl hI.2.2.2.2.2.2.2.2.2.2.2.2.2.2.2.2.2.1)
    have k_xG4 : xG4 W := by
      rw [hW]
      exact (uxG4 rfl hI.2.2.2.2.2.2.2.2.2.2.2.2.2.2.2.2.2.2.1)
    have k_xG5 : xG5 W := by
      rw [hW]
      exact (uxG5 rfl hI.2.2.2.2.2.2.2.2.2.2.2.2.2.2.2.2.2.2.2.1)
    have k_xG6 : xG6 W := by
      rw [hW]
      exact (uxG6 rfl hI.2.2.2.2.2.2.2.2.2.2.2.2.2.2.2.2.2.2.2.2.1)
    have k_xS1 : xS1 W := by
      rw [hW]
      exact (uxS1 rfl hI.2.2.2.2.2.2.2.2.2.2.2.2.2.2.2.2.2.2.2.2.2.1)
    have k_xS2 : xS2 W := by
      rw [hW]
      exact (uxS2 rfl hI.2.2.2.2.2.2.2.2.2.2.2.2.2.2.2.2.2.2.2.2.2.2.1)
    have k_xS3 : xS3 W := by
      rw [hW]
      exact (uxS3 rfl hI.2.2.2.2.2.2.2.2.2.2.2.2.2.2.2.2.2.2.2.2.2.2.2.1)
    have k_xS4 : xS4 W := by
      have r : W 4 100 = 2 := by
        have e := m0
        rw [hW, sU_ne (fun z => by omega)]
        omega
      intro h
      rw [r] at h
      omega
    have k_xS5 : xS5 W := by
      have r4_100 : W 4 100 = M 4 100 := by rw [hW, sU_ne (fun z => by omega)]
      have r4_104 : W 4 104 = M 4 104 := by rw [hW, sU_ne (fun z => by omega)]
      have r4_105 : W 4 105 = M 4 105 := by rw [hW, sU_ne (fun z => by omega)]
      have r4_106 : W 4 106 = 2 * ρ 0 + 0 := by rw [hW, sU_at]
      have c3 : ∀ k, W 3 k = M 3 k := fun k => by rw [hW, sU_ne (fun z => by omega)]
      have e3 : W 3 = M 3 := funext c3
      have c94 : ∀ k, W 94 k = M 94 k := fun k => by rw [hW, sU_ne (fun z => by omega)]
      have e94 : W 94 = M 94 := funext c94
      have c100 : ∀ k, W 100 k = M 100 k := fun k => by rw [hW, sU_ne (fun z => by omega)]
      have e100 : W 100 = M 100 := funext c100
      have c104 : ∀ k, W 104 k = M 104 k := fun k => by rw [hW, sU_ne (fun z => by omega)]
      have e104 : W 104 = M 104 := funext c104
      intro h
      obtain ⟨a0, a1, a2⟩ := gx_xS5 hI (by omega)
      rw [r4_104, r4_105, r4_106, e3, e94, e100, e104]
      refine ⟨fun j hj ht => ?_, fun j hj ht => ?_, fun j hj ht => ?_⟩
      · exact a0 j hj (by omega)
      · exact a1 j hj (by omega)
      · by_cases hJ : j = 1
        · subst hJ
          show M 104 4 = M 3 81
          omega
        · exact a2 j hj (by (try rw [h0] at ht); omega)
    have k_xS6 : xS6 W := by
      rw [hW]
      exact (uxS6 rfl hI.2.2.2.2.2.2.2.2.2.2.2.2.2.2.2.2.2.2.2.2.2.2.2.2.2.2.1)
    have k_xS7 : xS7 W := by
      rw [hW]
      exact (uxS7 rfl hI.2.2.2.2.2.2.2.2.2.2.2.2.2.2.2.2.2.2.2.2.2.2.2.2.2.2.2.1)
    have k_xS8 : xS8 W := by
      rw [hW]
      exact (uxS8 rfl hI.2.2.2.2.2.2.2.2.2.2.2.2.2.2.2.2.2.2.2.2.2.2.2.2.2.2.2.2.1)
    have k_xS9 : xS9 W := by
      rw [hW]
      exact (uxS9 rfl hI.2.2.2.2.2.2.2.2.2.2.2.2.2.2.2.2.2.2.2.2.2.2.2.2.2.2.2.2.2.1)
    have k_xSA : xSA W := by
      rw [hW]
      exact (uxSA rfl hI.2.2.2.2.2.2.2.2.2.2.2.2.2.2.2.2.2.2.2.2.2.2.2.2.2.2.2.2.2.2.1)
    have k_xSG : xSG W := by
      rw [hW]
      exact (uxSG rfl hI.2.2.2.2.2.2.2.2.2.2.2.2.2.2.2.2.2.2.2.2.2.2.2.2.2.2.2.2.2.2.2.1)
    have k_xSF : xSF W := by
      rw [hW]
      exact (uxSF rfl hI.2.2.2.2.2.2.2.2.2.2.2.2.2.2.2.2.2.2.2.2.2.2.2.2.2.2.2.2.2.2.2.2.1)
    have k_xSB : xSB W := by
      rw [hW]
      exact (uxSB rfl hI.2.2.2.2.2.2.2.2.2.2.2.2.2.2.2.2.2.2.2.2.2.2.2.2.2.2.2.2.2.2.2.2.2.1)
    have k_xSC : xSC W := by
      rw [hW]
      exact (uxSC rfl hI.2.2.2.2.2.2.2.2.2.2.2.2.2.2.2.2.2.2.2.2.2.2.2.2.2.2.2.2.2.2.2.2.2.2.1)
    have k_xSD : xSD W := by
      rw [hW]
      exact (uxSD rfl hI.2.2.2.2.2.2.2.2.2.2.2.2.2.2.2.2.2.2.2.2.2.2.2.2.2.2.2.2.2.2.2.2.2.2.2.1)
    have k_xSE : xSE W := by
      rw [hW]
      exact (uxSE rfl hI.2.2.2.2.2.2.2.2.2.2.2.2.2.2.2.2.2.2.2.2.2.2.2.2.2.2.2.2.2.2.2.2.2.2.2.2.1)
    have k_xSW : xSW W := by
      rw [hW]
      exact (uxSW rfl hI.2.2.2.2.2.2.2.2.2.2.2.2.2.2.2.2.2.2.2.2.2.2.2.2.2.2.2.2.2.2.2.2.2.2.2.2.2.1)
    have k_xST : xST W := by
      rw [hW]
      exact (uxST rfl hI.2.2.2.2.2.2.2.2.2.2.2.2.2.2.2.2.2.2.2.2.2.2.2.2.2.2.2.2.2.2.2.2.2.2.2.2.2.2.1)
    have k_xSP : xSP W := by
      rw [hW]
      exact (uxSP rfl hI.2.2.2.2.2.2.2.2.2.2.2.2.2.2.2.2.2.2.2.2.2.2.2.2.2.2.2.2.2.2.2.2.2.2.2.2.2.2.2.1)
    have k_xSL : xSL W := by
      rw [hW]
      exact (uxSL rfl hI.2.2.2.2.2.2.2.2.2.2.2.2.2.2.2.2.2.2.2.2.2.2.2.2.2.2.2.2.2.2.2.2.2.2.2.2.2.2.2.2.1)
    have k_xSM : xSM W := by
      rw [hW]
      exact (uxSM rfl hI.2.2.2.2.2.2.2.2.2.2.2.2.2.2.2.2.2.2.2.2.2.2.2.2.2.2.2.2.2.2.2.2.2.2.2.2.2.2.2.2.2.1)
    have k_xSI : xSI W := by
      rw [hW]
      exact (uxSI rfl hI.2.2.2.2.2.2.2.2.2.2.2.2.2.2.2.2.2.2.2.2.2.2.2.2.2.2.2.2.2.2.2.2.2.2.2.2.2.2.2.2.2.2)
    have k_XC : XC W := ⟨k_xS1, k_xS2, k_xS3, k_xS4, k_xS5, k_xS6, k_xS7, k_xS8, k_xS9, k_xSA, k_xSG, k_xSF, k_xSB, k_xSC, k_xSD, k_xSE, k_xSW, k_xST, k_xSP, k_xSL, k_xSM, k_xSI⟩
    have kXB : XB W := ⟨k_xN1, k_xN2, k_xN3, k_xN4, k_xN5, k_xN6, k_xH1, k_xK1, k_xC1, k_xRW, k_xWT, k_xCU, k_xG2, k_xG3, k_xG4, k_xG5, k_xG6, k_XC⟩
    exact ⟨base, k2, k3, kXA, kXB⟩
-- nmTieR104_2
def xr_592 : qRu := (4, [[(-3, 0), (1, 3)]], [(4, 100, [(2, 0)]), (4, 106, [(1, 3)]), (104, 5, [(1, 1)]), (3, 82, [(1, 2)])], [], [], [[(1, 1), (-1, 2)], [(-1, 1), (1, 2)]])
theorem xo_592 : qRok xr_592 := by
  intro ρ M h0 hf hm hI
  have f0 := hf [(-3, 0), (1, 3)] (by decide)
  simp only [qD, h0] at f0
  have m0 : M 4 100 = 2 * ρ 0 + 0 := hm (4, 100, [(2, 0)]) (by decide)
  have m1 : M 4 106 = 1 * ρ 3 + 0 := hm (4, 106, [(1, 3)]) (by decide)
  have m2 : M 104 5 = 1 * ρ 1 + 0 := hm (104, 5, [(1, 1)]) (by decide)
  have m3 : M 3 82 = 1 * ρ 2 + 0 := hm (3, 82, [(1, 2)]) (by decide)
  simp only [h0] at m0
  obtain ⟨a0, a1, a2⟩ := gx_xS5 hI (by omega)
  have t := a2 2 (by omega) (by omega)
  have t : M 104 5 = M 3 82 := t
  refine ⟨ρ, fun _ _ => rfl, fun f h => ?_, ?_⟩
  · have h : f ∈ ([[(1, 1), (-1, 2)], [(-1, 1), (1, 2)]] : List qF) := h
    simp only [List.mem_cons, List.not_mem_nil, or_false] at h
    rcases h with rfl | rfl
    · show 0 ≤ 1 * ρ 1 + (-1 * ρ 2 + 0)
      (try rw [h0]); omega
    · show 0 ≤ -1 * ρ 1 + (1 * ρ 2 + 0)
      (try rw [h0]); omega
  · show sI M
    exact hI
-- nmUpR104_2
def xr_593 : qRu := (3, [[(1, 1), (-1, 2)], [(-1, 1), (1, 2)]], [(4, 100, [(2, 0)]), (4, 106, [(2, 0)]), (104, 5, [(1, 1)]), (3, 82, [(1, 2)])], [], [(4, 106, [(3, 0)])], [])
theorem xo_593 : qRok xr_593 := by
  intro ρ M h0 hf hm hI
  have f0 := hf [(1, 1), (-1, 2)] (by decide)
  have f1 := hf [(-1, 1), (1, 2)] (by decide)
  simp only [qD, h0] at f0 f1
  have m0 : M 4 100 = 2 * ρ 0 + 0 := hm (4, 100, [(2, 0)]) (by decide)
  have m1 : M 4 106 = 2 * ρ 0 + 0 := hm (4, 106, [(2, 0)]) (by decide)
  have m2 : M 104 5 = 1 * ρ 1 + 0 := hm (104, 5, [(1, 1)]) (by decide)
  have m3 : M 3 82 = 1 * ρ 2 + 0 := hm (3, 82, [(1, 2)]) (by decide)
  simp only [h0] at m0 m1
  have qxS5 := hI.2.2.2.2.2.2.2.2.2.2.2.2.2.2.2.2.2.2.2.2.2.2.2.2.2.1
  refine ⟨ρ, fun _ _ => rfl, fun f h => ?_, ?_⟩
  · exact nomatch h
  · show sI (sU M 4 106 (3 * ρ 0 + 0))
    obtain ⟨W, hW⟩ : ∃ W, W = (sU M 4 106 (3 * ρ 0 + 0)) := ⟨_, rfl⟩
    rw [← hW]
    have base : sI0 W := by
      rw [hW]
      exact (si_u0 hI.1 (fun r hr => by cases hr))
    have k2 : XI2 W := by
      rw [hW]
      exact (xi2_u rfl hI.2.1)
    have k3 : XI3 W := by
      rw [hW]
      exact (xi3_u rfl hI.2.2.1)
    have kXA : XA W := by
      rw [hW]
      exact (uXA rfl hI.2.2.2.1)
    have k_xN1 : xN1 W := by
      rw [hW]
      exact (uxN1 rfl hI.2.2.2.2.1)
    have k_xN2 : xN2 W := by
      rw [hW]
      exact (uxN2 rfl hI.2.2.2.2.2.1)
    have k_xN3 : xN3 W := by
      rw [hW]
      exact (uxN3 rfl hI.2.2.2.2.2.2.1)
    have k_xN4 : xN4 W := by
      rw [hW]
      exact (uxN4 rfl hI.2.2.2.2.2.2.2.1)
    have k_xN5 : xN5 W := by
      rw [hW]
      exact (uxN5 rfl hI.2.2.2.2.2.2.2.2.1)
    have k_xN6 : xN6 W := by
      rw [hW]
      exact (uxN6 rfl hI.2.2.2.2.2.2.2.2.2.1)
    have k_xH1 : xH1 W := by
      rw [hW]
      exact (uxH1 rfl hI.2.2.2.2.2.2.2.2.2.2.1)
    have k_xK1 : xK1 W := by
      rw [hW]
      exact (uxK1 rfl hI.2.2.2.2.2.2.2.2.2.2.2.1)
    have k_xC1 : xC1 W := by
      rw [hW]
      exact (uxC1 rfl hI.2.2.2.2.2.2.2.2.2.2.2.2.1)
    have k_xRW : xRW W := by
      rw [hW]
      exact (uxRW rfl hI.2.2.2.2.2.2.2.2.2.2.2.2.2.1)
    have k_xWT : xWT W := by
      rw [hW]
      exact (uxWT rfl hI.2.2.2.2.2.2.2.2.2.2.2.2.2.2.1)
    have k_xCU : xCU W := by
      rw [hW]
      exact (uxCU rfl hI.2.2.2.2.2.2.2.2.2.2.2.2.2.2.2.1)
    have k_xG2 : xG2 W := by
      rw [hW]
      exact (uxG2 rfl hI.2.2.2.2.2.2.2.2.2.2.2.2.2.2.2.2.1)
    have k_xG3 : xG3 W := by
      rw [hW]
      exact (uxG3 rfl hI.2.2.2.2.2.2.2.2.2.2.2.2.2.2.2.2.2.1)
    have k_xG4 : xG4 W := by
      rw [hW]
      exact (uxG4 rfl hI.2.2.2.2.2.2.2.2.2.2.2.2.2.2.2.2.2.2.1)
    have k_xG5 : xG5 W := by
      rw [hW]
      exact (uxG5 rfl hI.2.2.2.2.2.2.2.2.2.2.2.2.2.2.2.2.2.2.2.1)
    have k_xG6 : xG6 W := by
      rw [hW]
      exact (uxG6 rfl hI.2.2.2.2.2.2.2.2.2.2.2.2.2.2.2.2.2.2.2.2.1)
    have k_xS1 : xS1 W := by
      rw [hW]
      exact (uxS1 rfl hI.2.2.2.2.2.2.2.2.2.2.2.2.2.2.2.2.2.2.2.2.2.1)
    have k_xS2 : xS2 W := by
      rw [hW]
      exact (uxS2 rfl hI.2.2.2.2.2.2.2.2.2.2.2.2.2.2.2.2.2.2.2.2.2.2.1)
    have k_xS3 : xS3 W := by
      rw [hW]
      exact (uxS3 rfl hI.2.2.2.2.2.2.2.2.2.2.2.2.2.2.2.2.2.2.2.2.2.2.2.1)
    have k_xS4 : xS4 W := by
      have r : W 4 100 = 2 := by
        have e := m0
        rw [hW, sU_ne (fun z => by omega)]
        omega
      intro h
      rw [r] at h
      omega
    have k_xS5 : xS5 W := by
      have r4_100 : W 4 100 = M 4 100 := by rw [hW, sU_ne (fun z => by omega)]
      have r4_104 : W 4 104 = M 4 104 := by rw [hW, sU_ne (fun z => by omega)]
      have r4_105 : W 4 105 = M 4 105 := by rw [hW, sU_ne (fun z => by omega)]
      have r4_106 : W 4 106 = 3 * ρ 0 + 0 := by rw [hW, sU_at]
      have c3 : ∀ k, W 3 k = M 3 k := fun k => by rw [hW, sU_ne (fun z => by omega)]
      have e3 : W 3 = M 3 := funext c3
      have c94 : ∀ k, W 94 k = M 94 k := fun k => by rw [hW, sU_ne (fun z => by omega)]
      have e94 : W 94 = M 94 := funext c94
      have c100 : ∀ k, W 100 k = M 100 k := fun k => by rw [hW, sU_ne (fun z => by omega)]
      have e100 : W 100 = M 100 := funext c100
      have c104 : ∀ k, W 104 k = M 104 k := fun k => by rw [hW, sU_ne (fun z => by omega)]
      have e104 : W 104 = M 104 := funext c104
      intro h
      obtain ⟨a0, a1, a2⟩ := gx_xS5 hI (by omega)
      rw [r4_104, r4_105, r4_106, e3, e94, e100, e104]
      refine ⟨fun j hj ht => ?_, fun j hj ht => ?_, fun j hj ht => ?_⟩
      · exact a0 j hj (by omega)
      · exact a1 j hj (by omega)
      · by_cases hJ : j = 2
        · subst hJ
          show M 104 5 = M 3 82
          omega
        · exact a2 j hj (by (try rw [h0] at ht); omega)
    have k_xS6 : xS6 W := by
      rw [hW]
      exact (uxS6 rfl hI.2.2.2.2.2.2.2.2.2.2.2.2.2.2.2.2.2.2.2.2.2.2.2.2.2.2.1)
    have k_xS7 : xS7 W := by
      rw [hW]
      exact (uxS7 rfl hI.2.2.2.2.2.2.2.2.2.2.2.2.2.2.2.2.2.2.2.2.2.2.2.2.2.2.2.1)
    have k_xS8 : xS8 W := by
      rw [hW]
      exact (uxS8 rfl hI.2.2.2.2.2.2.2.2.2.2.2.2.2.2.2.2.2.2.2.2.2.2.2.2.2.2.2.2.1)
    have k_xS9 : xS9 W := by
      rw [hW]
      exact (uxS9 rfl hI.2.2.2.2.2.2.2.2.2.2.2.2.2.2.2.2.2.2.2.2.2.2.2.2.2.2.2.2.2.1)
    have k_xSA : xSA W := by
      rw [hW]
      exact (uxSA rfl hI.2.2.2.2.2.2.2.2.2.2.2.2.2.2.2.2.2.2.2.2.2.2.2.2.2.2.2.2.2.2.1)
    have k_xSG : xSG W := by
      rw [hW]
      exact (uxSG rfl hI.2.2.2.2.2.2.2.2.2.2.2.2.2.2.2.2.2.2.2.2.2.2.2.2.2.2.2.2.2.2.2.1)
    have k_xSF : xSF W := by
      rw [hW]
      exact (uxSF rfl hI.2.2.2.2.2.2.2.2.2.2.2.2.2.2.2.2.2.2.2.2.2.2.2.2.2.2.2.2.2.2.2.2.1)
    have k_xSB : xSB W := by
      rw [hW]
      exact (uxSB rfl hI.2.2.2.2.2.2.2.2.2.2.2.2.2.2.2.2.2.2.2.2.2.2.2.2.2.2.2.2.2.2.2.2.2.1)
    have k_xSC : xSC W := by
      rw [hW]
      exact (uxSC rfl hI.2.2.2.2.2.2.2.2.2.2.2.2.2.2.2.2.2.2.2.2.2.2.2.2.2.2.2.2.2.2.2.2.2.2.1)
    have k_xSD : xSD W := by
      rw [hW]
      exact (uxSD rfl hI.2.2.2.2.2.2.2.2.2.2.2.2.2.2.2.2.2.2.2.2.2.2.2.2.2.2.2.2.2.2.2.2.2.2.2.1)
    have k_xSE : xSE W := by
      rw [hW]
      exact (uxSE rfl hI.2.2.2.2.2.2.2.2.2.2.2.2.2.2.2.2.2.2.2.2.2.2.2.2.2.2.2.2.2.2.2.2.2.2.2.2.1)
    have k_xSW : xSW W := by
      rw [hW]
      exact (uxSW rfl hI.2.2.2.2.2.2.2.2.2.2.2.2.2.2.2.2.2.2.2.2.2.2.2.2.2.2.2.2.2.2.2.2.2.2.2.2.2.1)
    have k_xST : xST W := by
      rw [hW]
      exact (uxST rfl hI.2.2.2.2.2.2.2.2.2.2.2.2.2.2.2.2.2.2.2.2.2.2.2.2.2.2.2.2.2.2.2.2.2.2.2.2.2.2.1)
    have k_xSP : xSP W := by
      rw [hW]
      exact (uxSP rfl hI.2.2.2.2.2.2.2.2.2.2.2.2.2.2.2.2.2.2.2.2.2.2.2.2.2.2.2.2.2.2.2.2.2.2.2.2.2.2.2.1)
    have k_xSL : xSL W := by
      rw [hW]
      exact (uxSL rfl hI.2.2.2.2.2.2.2.2.2.2.2.2.2.2.2.2.2.2.2.2.2.2.2.2.2.2.2.2.2.2.2.2.2.2.2.2.2.2.2.2.1)
    have k_xSM : xSM W := by
      rw [hW]
      exact (uxSM rfl hI.2.2.2.2.2.2.2.2.2.2.2.2.2.2.2.2.2.2.2.2.2.2.2.2.2.2.2.2.2.2.2.2.2.2.2.2.2.2.2.2.2.1)
    have k_xSI : xSI W := by
      rw [hW]
      exact (uxSI rfl hI.2.2.2.2.2.2.2.2.2.2.2.2.2.2.2.2.2.2.2.2.2.2.2.2.2.2.2.2.2.2.2.2.2.2.2.2.2.2.2.2.2.2)
    have k_XC : XC W := ⟨k_xS1, k_xS2, k_xS3, k_xS4, k_xS5, k_xS6, k_xS7, k_xS8, k_xS9, k_xSA, k_xSG, k_xSF, k_xSB, k_xSC, k_xSD, k_xSE, k_xSW, k_xST, k_xSP, k_xSL, k_xSM, k_xSI⟩
    have kXB : XB W := ⟨k_xN1, k_xN2, k_xN3, k_xN4, k_xN5, k_xN6, k_xH1, k_xK1, k_xC1, k_xRW, k_xWT, k_xCU, k_xG2, k_xG3, k_xG4, k_xG5, k_xG6, k_XC⟩
    exact ⟨base, k2, k3, kXA, kXB⟩
-- nmWR104
def xr_594 : qRu := (4, [[(-3, 0), (1, 1), (-1, 3)], [(5, 0), (-1, 1)], [(1, 3)], [(2147483648, 0), (1, 2)], [(2147483647, 0), (-1, 2)]], [(4, 106, [(1, 3)])], [(104, [(1, 1)], [(1, 2)])], [], [])
theorem xo_594 : qRok xr_594 := by
  intro ρ M h0 hf hm hI
  have f0 := hf [(-3, 0), (1, 1), (-1, 3)] (by decide)
  have f1 := hf [(5, 0), (-1, 1)] (by decide)
  have f2 := hf [(1, 3)] (by decide)
  have f3 := hf [(2147483648, 0), (1, 2)] (by decide)
  have f4 := hf [(2147483647, 0), (-1, 2)] (by decide)
  simp only [qD, h0] at f0 f1 f2 f3 f4
  have m0 : M 4 106 = 1 * ρ 3 + 0 := hm (4, 106, [(1, 3)]) (by decide)
  have qxS5 := hI.2.2.2.2.2.2.2.2.2.2.2.2.2.2.2.2.2.2.2.2.2.2.2.2.2.1
  refine ⟨ρ, fun _ _ => rfl, fun f h => ?_, ?_⟩
  · exact nomatch h
  · show sI (sU M 104 (1 * ρ 1 + 0 : Int).toNat (1 * ρ 2 + 0))
    obtain ⟨W, hW⟩ : ∃ W, W = (sU M 104 (1 * ρ 1 + 0).toNat (1 * ρ 2 + 0)) := ⟨_, rfl⟩
    rw [← hW]
    have base : sI0 W := by
      rw [hW]
      exact (si_u0 hI.1 (fun r hr => by rw [xt_104 hr]; exact ⟨by show (-2147483648 : Int) ≤ _; omega, by show _ ≤ (2147483647 : Int); omega⟩))
    have k2 : XI2 W := by
      rw [hW]
      exact (xi2_u (sinc_ok rfl _) hI.2.1)
    have k3 : XI3 W := by
      rw [hW]
      exact (xi3_u (sinc_ok rfl _) hI.2.2.1)
    have kXA : XA W := by
      rw [hW]
      exact (uXA (sinc_ok rfl _) hI.2.2.2.1)
    have k_xN1 : xN1 W := by
      rw [hW]
      exact (uxN1 (sinc_ok rfl _) hI.2.2.2.2.1)
    have k_xN2 : xN2 W := by
      rw [hW]
      exact (uxN2 (sinc_ok rfl _) hI.2.2.2.2.2.1)
    have k_xN3 : xN3 W := by
      rw [hW]
      exact (uxN3 (sinc_ok rfl _) hI.2.2.2.2.2.2.1)
    have k_xN4 : xN4 W := by
      rw [hW]
      exact (uxN4 (sinc_ok rfl _) hI.2.2.2.2.2.2.2.1)
    have k_xN5 : xN5 W := by
      rw [hW]
      exact (uxN5 (sinc_ok rfl _) hI.2.2.2.2.2.2.2.2.1)
    have k_xN6 : xN6 W := by
      rw [hW]
      exact (uxN6 (sinc_ok rfl _) hI.2.2.2.2.2.2.2.2.2.1)
    have k_xH1 : xH1 W := by
      rw [hW]
      exact (uxH1 (sinc_ok rfl _) hI.2.2.2.2.2.2.2.2.2.2.1)
    have k_xK1 : xK1 W := by
      rw [hW]
      exact (uxK1 (sinc_ok rfl _) hI.2.2.2.2.2.2.2.2.2.2.2.1)
    have k_xC1 : xC1 W := by
      rw [hW]
      exact (uxC1 (sinc_ok rfl _) hI.2.2.2.2.2.2.2.2.2.2.2.2.1)
    have k_xRW : xRW W := by
      rw [hW]
      exact (uxRW (sinc_ok rfl _) hI.2.2.2.2.2.2.2.2.2.2.2.2.2.1)
    have k_xWT : xWT W := by
      rw [hW]
      exact (uxWT (sinc_ok rfl _) hI.2.2.2.2.2.2.2.2.2.2.2.2.2.2.1)
    have k_xCU : xCU W := by
      rw [hW]
      exact (uxCU (sinc_ok rfl _) hI.2.2.2.2.2.2.2.2.2.2.2.2.2.2.2.1)
    have k_xG2 : xG2 W := by
      rw [hW]
      exact (uxG2 (sinc_ok rfl _) hI.2.2.2.2.2.2.2.2.2.2.2.2.2.2.2.2.1)
    have k_xG3 : xG3 W := by
      rw [hW]
      exact (uxG3 (sinc_ok rfl _) hI.2.2.2.2.2.2.2.2.2.2.2.2.2.2.2.2.2.1)
    have k_xG4 : xG4 W := by
      rw [hW]
      exact (uxG4 (sinc_ok rfl _) hI.2.2.2.2.2.2.2.2.2.2.2.2.2.2.2.2.2.2.1)
    have k_xG5 : xG5 W := by
      rw [hW]
      exact (uxG5 (sinc_ok rfl _) hI.2.2.2.2.2.2.2.2.2.2.2.2.2.2.2.2.2.2.2.1)
    have k_xG6 : xG6 W := by
      rw [hW]
      exact (uxG6 (sinc_ok rfl _) hI.2.2.2.2.2.2.2.2.2.2.2.2.2.2.2.2.2.2.2.2.1)
    have k_xS1 : xS1 W := by
      rw [hW]
      exact (uxS1 (sinc_ok rfl _) hI.2.2.2.2.2.2.2.2.2.2.2.2.2.2.2.2.2.2.2.2.2.1)
    have k_xS2 : xS2 W := by
      rw [hW]
      exact (uxS2 (sinc_ok rfl _) hI.2.2.2.2.2.2.2.2.2.2.2.2.2.2.2.2.2.2.2.2.2.2.1)
    have k_xS3 : xS3 W := by
      rw [hW]
      exact (uxS3 (sinc_ok rfl _) hI.2.2.2.2.2.2.2.2.2.2.2.2.2.2.2.2.2.2.2.2.2.2.2.1)
    have k_xS4 : xS4 W := by
      rw [hW]
      exact (uxS4 (sinc_ok rfl _) hI.2.2.2.2.2.2.2.2.2.2.2.2.2.2.2.2.2.2.2.2.2.2.2.2.1)
    have k_xS5 : xS5 W := by
      have r4_100 : W 4 100 = M 4 100 := by rw [hW, sU_ne (fun z => by omega)]
      have r4_104 : W 4 104 = M 4 104 := by rw [hW, sU_ne (fun z => by omega)]
      have r4_105 : W 4 105 = M 4 105 := by rw [hW, sU_ne (fun z => by omega)]
      have r4_106 : W 4 106 = M 4 106 := by rw [hW, sU_ne (fun z => by omega)]
      have c3 : ∀ k, W 3 k = M 3 k := fun k => by rw [hW, sU_ne (fun z => by omega)]
      have e3 : W 3 = M 3 := funext c3
      have c94 : ∀ k, W 94 k = M 94 k := fun k => by rw [hW, sU_ne (fun z => by omega)]
      have e94 : W 94 = M 94 := funext c94
      have c100 : ∀ k, W 100 k = M 100 k := fun k => by rw [hW, sU_ne (fun z => by omega)]
      have e100 : W 100 = M 100 := funext c100
      have c104 : ∀ k : Nat, k ≠ (1 * ρ 1 + 0).toNat → W 104 k = M 104 k := fun k hk => by rw [hW, sU_ne (fun z => by omega)]
      have a104 : W 104 (1 * ρ 1 + 0).toNat = 1 * ρ 2 + 0 := by rw [hW, sU_at]
      intro h
      rw [r4_100] at h
      obtain ⟨a0, a1, a2⟩ := gx_xS5 hI h
      rw [r4_104, r4_105, r4_106, e3]
      refine ⟨fun j hj ht => ?_, fun j hj ht => ?_, fun j hj ht => ?_⟩
      · rw [e94]
        exact a0 j hj (by omega)
      · rw [e100]
        exact a1 j hj (by omega)
      · rw [c104 _ (by omega)]
        exact a2 j hj (by omega)
    have k_xS6 : xS6 W := by
      rw [hW]
      exact (uxS6 (sinc_ok rfl _) hI.2.2.2.2.2.2.2.2.2.2.2.2.2.2.2.2.2.2.2.2.2.2.2.2.2.2.1)
    have k_xS7 : xS7 W := by
      rw [hW]
      exact (uxS7 (sinc_ok rfl _) hI.2.2.2.2.2.2.2.2.2.2.2.2.2.2.2.2.2.2.2.2.2.2.2.2.2.2.2.1)
    have k_xS8 : xS8 W := by
      rw [hW]
      exact (uxS8 (sinc_ok rfl _) hI.2.2.2.2.2.2.2.2.2.2.2.2.2.2.2.2.2.2.2.2.2.2.2.2.2.2.2.2.1)
    have k_xS9 : xS9 W := by
      rw [hW]
      exact (uxS9 (sinc_ok rfl _) hI.2.2.2.2.2.2.2.2.2.2.2.2.2.2.2.2.2.2.2.2.2.2.2.2.2.2.2.2.2.1)
    have k_xSA : xSA W := by
      rw [hW]
      exact (uxSA (sinc_ok rfl _) hI.2.2.2.2.2.2.2.2.2.2.2.2.2.2.2.2.2.2.2.2.2.2.2.2.2.2.2.2.2.2.1)
    have k_xSG : xSG W := by
      rw [hW]
      exact (uxSG (sinc_ok rfl _) hI.2.2.2.2.2.2.2.2.2.2.2.2.2.2.2.2.2.2.2.2.2.2.2.2.2.2.2.2.2.2.2.1)
    have k_xSF : xSF W := by
      rw [hW]
      exact (uxSF (sinc_ok rfl _) hI.2.2.2.2.2.2.2.2.2.2.2.2.2.2.2.2.2.2.2.2.2.2.2.2.2.2.2.2.2.2.2.2.1)
    have k_xSB : xSB W := by
      rw [hW]
      exact (uxSB (sinc_ok rfl _) hI.2.2.2.2.2.2.2.2.2.2.2.2.2.2.2.2.2.2.2.2.2.2.2.2.2.2.2.2.2.2.2.2.2.1)
    have k_xSC : xSC W := by
      rw [hW]
      exact (uxSC (sinc_ok rfl _) hI.2.2.2.2.2.2.2.2.2.2.2.2.2.2.2.2.2.2.2.2.2.2.2.2.2.2.2.2.2.2.2.2.2.2.1)
    have k_xSD : xSD W := by
      rw [hW]
      exact (uxSD (sinc_ok rfl _) hI.2.2.2.2.2.2.2.2.2.2.2.2.2.2.2.2.2.2.2.2.2.2.2.2.2.2.2.2.2.2.2.2.2.2.2.1)
    have k_xSE : xSE W := by
      rw [hW]
      exact (uxSE (sinc_ok rfl _) hI.2.2.2.2.2.2.2.2.2.2.2.2.2.2.2.2.2.2.2.2.2.2.2.2.2.2.2.2.2.2.2.2.2.2.2.2.1)
    have k_xSW : xSW W := by
      rw [hW]
      exact (uxSW (sinc_ok rfl _) hI.2.2.2.2.2.2.2.2.2.2.2.2.2.2.2.2.2.2.2.2.2.2.2.2.2.2.2.2.2.2.2.2.2.2.2.2.2.1)
    have k_xST : xST W := by
      rw [hW]
      exact (uxST (sinc_ok rfl _) hI.2.2.2.2.2.2.2.2.2.2.2.2.2.2.2.2.2.2.2.2.2.2.2.2.2.2.2.2.2.2.2.2.2.2.2.2.2.2.1)
    have k_xSP : xSP W := by
      rw [hW]
      exact (uxSP (sinc_ok rfl _) hI.2.2.2.2.2.2.2.2.2.2.2.2.2.2.2.2.2.2.2.2.2.2.2.2.2.2.2.2.2.2.2.2.2.2.2.2.2.2.2.1)
    have k_xSL : xSL W := by
      rw [hW]
      exact (uxSL (sinc_ok rfl _) hI.2.2.2.2.2.2.2.2.2.2.2.2.2.2.2.2.2.2.2.2.2.2.2.2.2.2.2.2.2.2.2.2.2.2.2.2.2.2.2.2.1)
    have k_xSM : xSM W := by
      rw [hW]
      exact (uxSM (sinc_ok rfl _) hI.2.2.2.2.2.2.2.2.2.2.2.2.2.2.2.2.2.2.2.2.2.2.2.2.2.2.2.2.2.2.2.2.2.2.2.2.2.2.2.2.2.1)
    have k_xSI : xSI W := by
      rw [hW]
      exact (uxSI (sinc_ok rfl _) hI.2.2.2.2.2.2.2.2.2.2.2.2.2.2.2.2.2.2.2.2.2.2.2.2.2.2.2.2.2.2.2.2.2.2.2.2.2.2.2.2.2.2)
    have k_XC : XC W := ⟨k_xS1, k_xS2, k_xS3, k_xS4, k_xS5, k_xS6, k_xS7, k_xS8, k_xS9, k_xSA, k_xSG, k_xSF, k_xSB, k_xSC, k_xSD, k_xSE, k_xSW, k_xST, k_xSP, k_xSL, k_xSM, k_xSI⟩
    have kXB : XB W := ⟨k_xN1, k_xN2, k_xN3, k_xN4, k_xN5, k_xN6, k_xH1, k_xK1, k_xC1, k_xRW, k_xWT, k_xCU, k_xG2, k_xG3, k_xG4, k_xG5, k_xG6, k_XC⟩
    exact ⟨base, k2, k3, kXA, kXB⟩
-- nmLR104
def xr_595 : qRu := (3, [[(1, 1)], [(2, 0), (-1, 1)], [(2147483648, 0), (1, 2)], [(2147483647, 0), (-1, 2)]], [], [(104, [(1, 1)], [(1, 2)])], [], [])
theorem xo_595 : qRok xr_595 := by
  intro ρ M h0 hf hm hI
  have f0 := hf [(1, 1)] (by decide)
  have f1 := hf [(2, 0), (-1, 1)] (by decide)
  have f2 := hf [(2147483648, 0), (1, 2)] (by decide)
  have f3 := hf [(2147483647, 0), (-1, 2)] (by decide)
  simp only [qD, h0] at f0 f1 f2 f3
  have qxS5 := hI.2.2.2.2.2.2.2.2.2.2.2.2.2.2.2.2.2.2.2.2.2.2.2.2.2.1
  refine ⟨ρ, fun _ _ => rfl, fun f h => ?_, ?_⟩
  · exact nomatch h
  · show sI (sU M 104 (1 * ρ 1 + 0 : Int).toNat (1 * ρ 2 + 0))
    obtain ⟨W, hW⟩ : ∃ W, W = (sU M 104 (1 * ρ 1 + 0).toNat (1 * ρ 2 + 0)) := ⟨_, rfl⟩
    rw [← hW]
    have base : sI0 W := by
      rw [hW]
      exact (si_u0 hI.1 (fun r hr => by rw [xt_104 hr]; exact ⟨by show (-2147483648 : Int) ≤ _; omega, by show _ ≤ (2147483647 : Int); omega⟩))
    have k2 : XI2 W := by
      rw [hW]
      exact (xi2_u (sinc_ok rfl _) hI.2.1)
    have k3 : XI3 W := by
      rw [hW]
      exact (xi3_u (sinc_ok rfl _) hI.2.2.1)
    have kXA : XA W := by
      rw [hW]
      exact (uXA (sinc_ok rfl _) hI.2.2.2.1)
    have k_xN1 : xN1 W := by
      rw [hW]
      exact (uxN1 (sinc_ok rfl _) hI.2.2.2.2.1)
    have k_xN2 : xN2 W := by
      rw [hW]
      exact (uxN2 (sinc_ok rfl _) hI.2.2.2.2.2.1)
    have k_xN3 : xN3 W := by
      rw [hW]
      exact (uxN3 (sinc_ok rfl _) hI.2.2.2.2.2.2.1)
    have k_xN4 : xN4 W := by
      rw [hW]
      exact (uxN4 (sinc_ok rfl _) hI.2.2.2.2.2.2.2.1)
    have k_xN5 : xN5 W := by
      rw [hW]
      exact (uxN5 (sinc_ok rfl _) hI.2.2.2.2.2.2.2.2.1)
    have k_xN6 : xN6 W := by
      rw [hW]
      exact (uxN6 (sinc_ok rfl _) hI.2.2.2.2.2.2.2.2.2.1)
    have k_xH1 : xH1 W := by
      rw [hW]
      exact (uxH1 (sinc_ok rfl _) hI.2.2.2.2.2.2.2.2.2.2.1)
    have k_xK1 : xK1 W := by
      rw [hW]
      exact (uxK1 (sinc_ok rfl _) hI.2.2.2.2.2.2.2.2.2.2.2.1)
    have k_xC1 : xC1 W := by
      rw [hW]
      exact (uxC1 (sinc_ok rfl _) hI.2.2.2.2.2.2.2.2.2.2.2.2.1)
    have k_xRW : xRW W := by
      rw [hW]
      exact (uxRW (sinc_ok rfl _) hI.2.2.2.2.2.2.2.2.2.2.2.2.2.1)
    have k_xWT : xWT W := by
      rw [hW]
      exact (uxWT (sinc_ok rfl _) hI.2.2.2.2.2.2.2.2.2.2.2.2.2.2.1)
    have k_xCU : xCU W := by
      rw [hW]
      exact (uxCU (sinc_ok rfl _) hI.2.2.2.2.2.2.2.2.2.2.2.2.2.2.2.1)
    have k_xG2 : xG2 W := by
      rw [hW]
      exact (uxG2 (sinc_ok rfl _) hI.2.2.2.2.2.2.2.2.2.2.2.2.2.2.2.2.1)
    have k_xG3 : xG3 W := by
      rw [hW]
      exact (uxG3 (sinc_ok rfl _) hI.2.2.2.2.2.2.2.2.2.2.2.2.2.2.2.2.2.1)
    have k_xG4 : xG4 W := by
      rw [hW]
      exact (uxG4 (sinc_ok rfl _) hI.2.2.2.2.2.2.2.2.2.2.2.2.2.2.2.2.2.2.1)
    have k_xG5 : xG5 W := by
      rw [hW]
      exact (uxG5 (sinc_ok rfl _) hI.2.2.2.2.2.2.2.2.2.2.2.2.2.2.2.2.2.2.2.1)
    have k_xG6 : xG6 W := by
      rw [hW]
      exact (uxG6 (sinc_ok rfl _) hI.2.2.2.2.2.2.2.2.2.2.2.2.2.2.2.2.2.2.2.2.1)
    have k_xS1 : xS1 W := by
      rw [hW]
      exact (uxS1 (sinc_ok rfl _) hI.2.2.2.2.2.2.2.2.2.2.2.2.2.2.2.2.2.2.2.2.2.1)
    have k_xS2 : xS2 W := by
      rw [hW]
      exact (uxS2 (sinc_ok rfl _) hI.2.2.2.2.2.2.2.2.2.2.2.2.2.2.2.2.2.2.2.2.2.2.1)
    have k_xS3 : xS3 W := by
      rw [hW]
      exact (uxS3 (sinc_ok rfl _) hI.2.2.2.2.2.2.2.2.2.2.2.2.2.2.2.2.2.2.2.2.2.2.2.1)
    have k_xS4 : xS4 W := by
      rw [hW]
      exact (uxS4 (sinc_ok rfl _) hI.2.2.2.2.2.2.2.2.2.2.2.2.2.2.2.2.2.2.2.2.2.2.2.2.1)
    have k_xS5 : xS5 W := by
      have r4_100 : W 4 100 = M 4 100 := by rw [hW, sU_ne (fun z => by omega)]
      have r4_104 : W 4 104 = M 4 104 := by rw [hW, sU_ne (fun z => by omega)]
      have r4_105 : W 4 105 = M 4 105 := by rw [hW, sU_ne (fun z => by omega)]
      have r4_106 : W 4 106 = M 4 106 := by rw [hW, sU_ne (fun z => by omega)]
      have c3 : ∀ k, W 3 k = M 3 k := fun k => by rw [hW, sU_ne (fun z => by omega)]
      have e3 : W 3 = M 3 := funext c3
      have c94 : ∀ k, W 94 k = M 94 k := fun k => by rw [hW, sU_ne (fun z => by omega)]
      have e94 : W 94 = M 94 := funext c94
      have c100 : ∀ k, W 100 k = M 100 k := fun k => by rw [hW, sU_ne (fun z => by omega)]
      have e100 : W 100 = M 100 := funext c100
      have c104 : ∀ k : Nat, k ≠ (1 * ρ 1 + 0).toNat → W 104 k = M 104 k := fun k hk => by rw [hW, sU_ne (fun z => by omega)]
      have a104 : W 104 (1 * ρ 1 + 0).toNat = 1 * ρ 2 + 0 := by rw [hW, sU_at]
      intro h
      rw [r4_100] at h
      obtain ⟨a0, a1, a2⟩ := gx_xS5 hI h
      rw [r4_104, r4_105, r4_106, e3]
      refine ⟨fun j hj ht => ?_, fun j hj ht => ?_, fun j hj ht => ?_⟩
      · rw [e94]
        exact a0 j hj (by omega)
      · rw [e100]
        exact a1 j hj (by omega)
      · rw [c104 _ (by omega)]
        exact a2 j hj (by omega)
    have k_xS6 : xS6 W := by
      rw [hW]
      exact (uxS6 (sinc_ok rfl _) hI.2.2.2.2.2.2.2.2.2.2.2.2.2.2.2.2.2.2.2.2.2.2.2.2.2.2.1)
    have k_xS7 : xS7 W := by
      rw [hW]
      exact (uxS7 (sinc_ok rfl _) hI.2.2.2.2.2.2.2.2.2.2.2.2.2.2.2.2.2.2.2.2.2.2.2.2.2.2.2.1)
    have k_xS8 : xS8 W := by
      rw [hW]
      exact (uxS8 (sinc_ok rfl _) hI.2.2.2.2.2.2.2.2.2.2.2.2.2.2.2.2.2.2.2.2.2.2.2.2.2.2.2.2.1)
    have k_xS9 : xS9 W := by
      rw [hW]
      exact (uxS9 (sinc_ok rfl _) hI.2.2.2.2.2.2.2.2.2.2.2.2.2.2.2.2.2.2.2.2.2.2.2.2.2.2.2.2.2.1)
    have k_xSA : xSA W := by
      rw [hW]
      exact (uxSA (sinc_ok rfl _) hI.2.2.2.2.2.2.2.2.2.2.2.2.2.2.2.2.2.2.2.2.2.2.2.2.2.2.2.2.2.2.1)
    have k_xSG : xSG W := by
      rw [hW]
      exact (uxSG (sinc_ok rfl _) hI.2.2.2.2.2.2.2.2.2.2.2.2.2.2.2.2.2.2.2.2.2.2.2.2.2.2.2.2.2.2.2.1)
    have k_xSF : xSF W := by
      rw [hW]
      exact (uxSF (sinc_ok rfl _) hI.2.2.2.2.2.2.2.2.2.2.2.2.2.2.2.2.2.2.2.2.2.2.2.2.2.2.2.2.2.2.2.2.1)
    have k_xSB : xSB W := by
      rw [hW]
      exact (uxSB (sinc_ok rfl _) hI.2.2.2.2.2.2.2.2.2.2.2.2.2.2.2.2.2.2.2.2.2.2.2.2.2.2.2.2.2.2.2.2.2.1)
    have k_xSC : xSC W := by
      rw [hW]
      exact (uxSC (sinc_ok rfl _) hI.2.2.2.2.2.2.2.2.2.2.2.2.2.2.2.2.2.2.2.2.2.2.2.2.2.2.2.2.2.2.2.2.2.2.1)
    have k_xSD : xSD W := by
      rw [hW]
      exact (uxSD (sinc_ok rfl _) hI.2.2.2.2.2.2.2.2.2.2.2.2.2.2.2.2.2.2.2.2.2.2.2.2.2.2.2.2.2.2.2.2.2.2.2.1)
    have k_xSE : xSE W := by
      rw [hW]
      exact (uxSE (sinc_ok rfl _) hI.2.2.2.2.2.2.2.2.2.2.2.2.2.2.2.2.2.2.2.2.2.2.2.2.2.2.2.2.2.2.2.2.2.2.2.2.1)
    have k_xSW : xSW W := by
      rw [hW]
      exact (uxSW (sinc_ok rfl _) hI.2.2.2.2.2.2.2.2.2.2.2.2.2.2.2.2.2.2.2.2.2.2.2.2.2.2.2.2.2.2.2.2.2.2.2.2.2.1)
    have k_xST : xST W := by
      rw [hW]
      exact (uxST (sinc_ok rfl _) hI.2.2.2.2.2.2.2.2.2.2.2.2.2.2.2.2.2.2.2.2.2.2.2.2.2.2.2.2.2.2.2.2.2.2.2.2.2.2.1)
    have k_xSP : xSP W := by
      rw [hW]
      exact (uxSP (sinc_ok rfl _) hI.2.2.2.2.2.2.2.2.2.2.2.2.2.2.2.2.2.2.2.2.2.2.2.2.2.2.2.2.2.2.2.2.2.2.2.2.2.2.2.1)
    have k_xSL : xSL W := by
      rw [hW]
      exact (uxSL (sinc_ok rfl _) hI.2.2.2.2.2.2.2.2.2.2.2.2.2.2.2.2.2.2.2.2.2.2.2.2.2.2.2.2.2.2.2.2.2.2.2.2.2.2.2.2.1)
    have k_xSM : xSM W := by
      rw [hW]
      exact (uxSM (sinc_ok rfl _) hI.2.2.2.2.2.2.2.2.2.2.2.2.2.2.2.2.2.2.2.2.2.2.2.2.2.2.2.2.2.2.2.2.2.2.2.2.2.2.2.2.2.1)
    have k_xSI : xSI W := by
      rw [hW]
      exact (uxSI (sinc_ok rfl _) hI.2.2.2.2.2.2.2.2.2.2.2.2.2.2.2.2.2.2.2.2.2.2.2.2.2.2.2.2.2.2.2.2.2.2.2.2.2.2.2.2.2.2)
    have k_XC : XC W := ⟨k_xS1, k_xS2, k_xS3, k_xS4, k_xS5, k_xS6, k_xS7, k_xS8, k_xS9, k_xSA, k_xSG, k_xSF, k_xSB, k_xSC, k_xSD, k_xSE, k_xSW, k_xST, k_xSP, k_xSL, k_xSM, k_xSI⟩
    have kXB : XB W := ⟨k_xN1, k_xN2, k_xN3, k_xN4, k_xN5, k_xN6, k_xH1, k_xK1, k_xC1, k_xRW, k_xWT, k_xCU, k_xG2, k_xG3, k_xG4, k_xG5, k_xG6, k_XC⟩
    exact ⟨base, k2, k3, kXA, kXB⟩
-- nm0R104
def xr_596 : qRu := (3, [[(1, 1)], [(5, 0), (-1, 1)], [(2147483648, 0), (1, 2)], [(2147483647, 0), (-1, 2)]], [(4, 100, [])], [(104, [(1, 1)], [(1, 2)])], [], [])
theorem xo_596 : qRok xr_596 := by
  intro ρ M h0 hf hm hI
  have f0 := hf [(1, 1)] (by decide)
  have f1 := hf [(5, 0), (-1, 1)] (by decide)
  have f2 := hf [(2147483648, 0), (1, 2)] (by decide)
  have f3 := hf [(2147483647, 0), (-1, 2)] (by decide)
  simp only [qD, h0] at f0 f1 f2 f3
  have m0 : M 4 100 = 0 := hm (4, 100, []) (by decide)
  refine ⟨ρ, fun _ _ => rfl, fun f h => ?_, ?_⟩
  · exact nomatch h
  · show sI (sU M 104 (1 * ρ 1 + 0 : Int).toNat (1 * ρ 2 + 0))
    obtain ⟨W, hW⟩ : ∃ W, W = (sU M 104 (1 * ρ 1 + 0).toNat (1 * ρ 2 + 0)) := ⟨_, rfl⟩
    rw [← hW]
    have base : sI0 W := by
      rw [hW]
      exact (si_u0 hI.1 (fun r hr => by rw [xt_104 hr]; exact ⟨by show (-2147483648 : Int) ≤ _; omega, by show _ ≤ (2147483647 : Int); omega⟩))
    have k2 : XI2 W := by
      rw [hW]
      exact (xi2_u (sinc_ok rfl _) hI.2.1)
    have k3 : XI3 W := by
      rw [hW]
      exact (xi3_u (sinc_ok rfl _) hI.2.2.1)
    have kXA : XA W := by
      rw [hW]
      exact (uXA (sinc_ok rfl _) hI.2.2.2.1)
    have k_xN1 : xN1 W := by
      rw [hW]
      exact (uxN1 (sinc_ok rfl _) hI.2.2.2.2.1)
    have k_xN2 : xN2 W := by
      rw [hW]
      exact (uxN2 (sinc_ok rfl _) hI.2.2.2.2.2.1)
    have k_xN3 : xN3 W := by
      rw [hW]
      exact (uxN3 (sinc_ok rfl _) hI.2.2.2.2.2.2.1)
    have k_xN4 : xN4 W := by
      rw [hW]
      exact (uxN4 (sinc_ok rfl _) hI.2.2.2.2.2.2.2.1)
    have k_xN5 : xN5 W := by
      rw [hW]
      exact (uxN5 (sinc_ok rfl _) hI.2.2.2.2.2.2.2.2.1)
    have k_xN6 : xN6 W := by
      rw [hW]
      exact (uxN6 (sinc_ok rfl _) hI.2.2.2.2.2.2.2.2.2.1)
    have k_xH1 : xH1 W := by
      rw [hW]
      exact (uxH1 (sinc_ok rfl _) hI.2.2.2.2.2.2.2.2.2.2.1)
    have k_xK1 : xK1 W := by
      rw [hW]
      exact (uxK1 (sinc_ok rfl _) hI.2.2.2.2.2.2.2.2.2.2.2.1)
    have k_xC1 : xC1 W := by
      rw [hW]
      exact (uxC1 (sinc_ok rfl _) hI.2.2.2.2.2.2.2.2.2.2.2.2.1)
    have k_xRW : xRW W := by
      rw [hW]
      exact (uxRW (sinc_ok rfl _) hI.2.2.2.2.2.2.2.2.2.2.2.2.2.1)
    have k_xWT : xWT W := by
      rw [hW]
      exact (uxWT (sinc_ok rfl _) hI.2.2.2.2.2.2.2.2.2.2.2.2.2.2.1)
    have k_xCU : xCU W := by
      rw [hW]
      exact (uxCU (sinc_ok rfl _) hI.2.2.2.2.2.2.2.2.2.2.2.2.2.2.2.1)
    have k_xG2 : xG2 W := by
      rw [hW]
      exact (uxG2 (sinc_ok rfl _) hI.2.2.2.2.2.2.2.2.2.2.2.2.2.2.2.2.1)
    have k_xG3 : xG3 W := by
      rw [hW]
      exact (uxG3 (sinc_ok rfl _) hI.2.2.2.2.2.2.2.2.2.2.2.2.2.2.2.2.2.1)
    have k_xG4 : xG4 W := by
      rw [hW]
      exact (uxG4 (sinc_ok rfl _) hI.2.2.2.2.2.2.2.2.2.2.2.2.2.2.2.2.2.2.1)
    have k_xG5 : xG5 W := by
      rw [hW]
      exact (uxG5 (sinc_ok rfl _) hI.2.2.2.2.2.2.2.2.2.2.2.2.2.2.2.2.2.2.2.1)
    have k_xG6 : xG6 W := by
      rw [hW]
      exact (uxG6 (sinc_ok rfl _) hI.2.2.2.2.2.2.2.2.2.2.2.2.2.2.2.2.2.2.2.2.1)
    have k_xS1 : xS1 W := by
      rw [hW]
      exact (uxS1 (sinc_ok rfl _) hI.2.2.2.2.2.2.2.2.2.2.2.2.2.2.2.2.2.2.2.2.2.1)
    have k_xS2 : xS2 W := by
      rw [hW]
      exact (uxS2 (sinc_ok rfl _) hI.2.2.2.2.2.2.2.2.2.2.2.2.2.2.2.2.2.2.2.2.2.2.1)
    have k_xS3 : xS3 W := by
      rw [hW]
      exact (uxS3 (sinc_ok rfl _) hI.2.2.2.2.2.2.2.2.2.2.2.2.2.2.2.2.2.2.2.2.2.2.2.1)
    have k_xS4 : xS4 W := by
      rw [hW]
      exact (uxS4 (sinc_ok rfl _) hI.2.2.2.2.2.2.2.2.2.2.2.2.2.2.2.2.2.2.2.2.2.2.2.2.1)
    have k_xS5 : xS5 W := by
      have r : W 4 100 = 0 := by
        have e := m0
        rw [hW, sU_ne (fun z => by omega)]
        omega
      intro h
      rw [r] at h
      omega
    have k_xS6 : xS6 W := by
      rw [hW]
      exact (uxS6 (sinc_ok rfl _) hI.2.2.2.2.2.2.2.2.2.2.2.2.2.2.2.2.2.2.2.2.2.2.2.2.2.2.1)
    have k_xS7 : xS7 W := by
      rw [hW]
      exact (uxS7 (sinc_ok rfl _) hI.2.2.2.2.2.2.2.2.2.2.2.2.2.2.2.2.2.2.2.2.2.2.2.2.2.2.2.1)
    have k_xS8 : xS8 W := by
      rw [hW]
      exact (uxS8 (sinc_ok rfl _) hI.2.2.2.2.2.2.2.2.2.2.2.2.2.2.2.2.2.2.2.2.2.2.2.2.2.2.2.2.1)
    have k_xS9 : xS9 W := by
      rw [hW]
      exact (uxS9 (sinc_ok rfl _) hI.2.2.2.2.2.2.2.2.2.2.2.2.2.2.2.2.2.2.2.2.2.2.2.2.2.2.2.2.2.1)
    have k_xSA : xSA W := by
      rw [hW]
      exact (uxSA (sinc_ok rfl _) hI.2.2.2.2.2.2.2.2.2.2.2.2.2.2.2.2.2.2.2.2.2.2.2.2.2.2.2.2.2.2.1)
    have k_xSG : xSG W := by
      rw [hW]
      exact (uxSG (sinc_ok rfl _) hI.2.2.2.2.2.2.2.2.2.2.2.2.2.2.2.2.2.2.2.2.2.2.2.2.2.2.2.2.2.2.2.1)
    have k_xSF : xSF W := by
      rw [hW]
      exact (uxSF (sinc_ok rfl _) hI.2.2.2.2.2.2.2.2.2.2.2.2.2.2.2.2.2.2.2.2.2.2.2.2.2.2.2.2.2.2.2.2.1)
    have k_xSB : xSB W := by
      rw [hW]
      exact (uxSB (sinc_ok rfl _) hI.2.2.2.2.2.2.2.2.2.2.2.2.2.2.2.2.2.2.2.2.2.2.2.2.2.2.2.2.2.2.2.2.2.1)
    have k_xSC : xSC W := by
      rw [hW]
      exact (uxSC (sinc_ok rfl _) hI.2.2.2.2.2.2.2.2.2.2.2.2.2.2.2.2.2.2.2.2.2.2.2.2.2.2.2.2.2.2.2.2.2.2.1)
    have k_xSD : xSD W := by
      rw [hW]
      exact (uxSD (sinc_ok rfl _) hI.2.2.2.2.2.2.2.2.2.2.2.2.2.2.2.2.2.2.2.2.2.2.2.2.2.2.2.2.2.2.2.2.2.2.2.1)
    have k_xSE : xSE W := by
      rw [hW]
      exact (uxSE (sinc_ok rfl _) hI.2.2.2.2.2.2.2.2.2.2.2.2.2.2.2.2.2.2.2.2.2.2.2.2.2.2.2.2.2.2.2.2.2.2.2.2.1)
    have k_xSW : xSW W := by
      rw [hW]
      exact (uxSW (sinc_ok rfl _) hI.2.2.2.2.2.2.2.2.2.2.2.2.2.2.2.2.2.2.2.2.2.2.2.2.2.2.2.2.2.2.2.2.2.2.2.2.2.1)
    have k_xST : xST W := by
      rw [hW]
      exact (uxST (sinc_ok rfl _) hI.2.2.2.2.2.2.2.2.2.2.2.2.2.2.2.2.2.2.2.2.2.2.2.2.2.2.2.2.2.2.2.2.2.2.2.2.2.2.1)
    have k_xSP : xSP W := by
      rw [hW]
      exact (uxSP (sinc_ok rfl _) hI.2.2.2.2.2.2.2.2.2.2.2.2.2.2.2.2.2.2.2.2.2.2.2.2.2.2.2.2.2.2.2.2.2.2.2.2.2.2.2.1)
    have k_xSL : xSL W := by
      rw [hW]
      exact (uxSL (sinc_ok rfl _) hI.2.2.2.2.2.2.2.2.2.2.2.2.2.2.2.2.2.2.2.2.2.2.2.2.2.2.2.2.2.2.2.2.2.2.2.2.2.2.2.2.1)
    have k_xSM : xSM W := by
      rw [hW]
      exact (uxSM (sinc_ok rfl _) hI.2.2.2.2.2.2.2.2.2.2.2.2.2.2.2.2.2.2.2.2.2.2.2.2.2.2.2.2.2.2.2.2.2.2.2.2.2.2.2.2.2.1)
    have k_xSI : xSI W := by
      rw [hW]
      exact (uxSI (sinc_ok rfl _) hI.2.2.2.2.2.2.2.2.2.2.2.2.2.2.2.2.2.2.2.2.2.2.2.2.2.2.2.2.2.2.2.2.2.2.2.2.2.2.2.2.2.2)
    have k_XC : XC W := ⟨k_xS1, k_xS2, k_xS3, k_xS4, k_xS5, k_xS6, k_xS7, k_xS8, k_xS9, k_xSA, k_xSG, k_xSF, k_xSB, k_xSC, k_xSD, k_xSE, k_xSW, k_xST, k_xSP, k_xSL, k_xSM, k_xSI⟩
    have kXB : XB W := ⟨k_xN1, k_xN2, k_xN3, k_xN4, k_xN5, k_xN6, k_xH1, k_xK1, k_xC1, k_xRW, k_xWT, k_xCU, k_xG2, k_xG3, k_xG4, k_xG5, k_xG6, k_XC⟩
    exact ⟨base, k2, k3, kXA, kXB⟩
-- g290_0
def xr_597 : qRu := (1, [], [], [], [(4, 290, [])], [])
theorem xo_597 : qRok xr_597 := by
  intro ρ M h0 hf hm hI
  refine ⟨ρ, fun _ _ => rfl, fun f h => ?_, ?_⟩
  · exact nomatch h
  · show sI (sU M 4 290 (0))
    obtain ⟨W, hW⟩ : ∃ W, W = (sU M 4 290 (0)) := ⟨_, rfl⟩
    rw [← hW]
    have base : sI0 W := by
      rw [hW]
      exact (si_u0 hI.1 (fun r hr => by cases hr))
    have k2 : XI2 W := by
      rw [hW]
      exact (xi2_u rfl hI.2.1)
    have k3 : XI3 W := by
      rw [hW]
      exact (xi3_u rfl hI.2.2.1)
    have kXA : XA W := by
      rw [hW]
      exact (uXA rfl hI.2.2.2.1)
    have k_xN1 : xN1 W := by
      rw [hW]
      exact (uxN1 rfl hI.2.2.2.2.1)
    have k_xN2 : xN2 W := by
      rw [hW]
      exact (uxN2 rfl hI.2.2.2.2.2.1)
    have k_xN3 : xN3 W := by
      rw [hW]
      exact (uxN3 rfl hI.2.2.2.2.2.2.1)
    have k_xN4 : xN4 W := by
      rw [hW]
      exact (uxN4 rfl hI.2.2.2.2.2.2.2.1)
    have k_xN5 : xN5 W := by
      rw [hW]
      exact (uxN5 rfl hI.2.2.2.2.2.2.2.2.1)
    have k_xN6 : xN6 W := by
      rw [hW]
      exact (uxN6 rfl hI.2.2.2.2.2.2.2.2.2.1)
    have k_xH1 : xH1 W := by
      rw [hW]
      exact (uxH1 rfl hI.2.2.2.2.2.2.2.2.2.2.1)
    have k_xK1 : xK1 W := by
      rw [hW]
      exact (uxK1 rfl hI.2.2.2.2.2.2.2.2.2.2.2.1)
    have k_xC1 : xC1 W := by
      rw [hW]
      exact (uxC1 rfl hI.2.2.2.2.2.2.2.2.2.2.2.2.1)
    have k_xRW : xRW W := by
      rw [hW]
      exact (uxRW rfl hI.2.2.2.2.2.2.2.2.2.2.2.2.2.1)
    have k_xWT : xWT W := by
      rw [hW]
      exact (uxWT rfl hI.2.2.2.2.2.2.2.2.2.2.2.2.2.2.1)
    have k_xCU : xCU W := by
      rw [hW]
      exact (uxCU rfl hI.2.2.2.2.2.2.2.2.2.2.2.2.2.2.2.1)
    have k_xG2 : xG2 W := by
      rw [hW]
      exact (uxG2 rfl hI.2.2.2.2.2.2.2.2.2.2.2.2.2.2.2.2.1)
    have k_xG3 : xG3 W := by
      rw [hW]
      exact (uxG3 rfl hI.2.2.2.2.2.2.2.2.2.2.2.2.2.2.2.2.2.1)
    have k_xG4 : xG4 W := by
      rw [hW]
      exact (uxG4 rfl hI.2.2.2.2.2.2.2.2.2.2.2.2.2.2.2.2.2.2.1)
    have k_xG5 : xG5 W := by
      rw [hW]
      exact (uxG5 rfl hI.2.2.2.2.2.2.2.2.2.2.2.2.2.2.2.2.2.2.2.1)
    have k_xG6 : xG6 W := by
      rw [hW]
      exact (uxG6 rfl hI.2.2.2.2.2.2.2.2.2.2.2.2.2.2.2.2.2.2.2.2.1)
    have k_xS1 : xS1 W := by
      rw [hW]
      exact (uxS1 rfl hI.2.2.2.2.2.2.2.2.2.2.2.2.2.2.2.2.2.2.2.2.2.1)
    have k_xS2 : xS2 W := by
      rw [hW]
      exact (uxS2 rfl hI.2.2.2.2.2.2.2.2.2.2.2.2.2.2.2.2.2.2.2.2.2.2.1)
    have k_xS3 : xS3 W := by
      rw [hW]
      exact (uxS3 rfl hI.2.2.2.2.2.2.2.2.2.2.2.2.2.2.2.2.2.2.2.2.2.2.2.1)
    have k_xS4 : xS4 W := by
      rw [hW]
      exact (uxS4 rfl hI.2.2.2.2.2.2.2.2.2.2.2.2.2.2.2.2.2.2.2.2.2.2.2.2.1)
    have k_xS5 : xS5 W := by
      rw [hW]
      exact (uxS5 rfl hI.2.2.2.2.2.2.2.2.2.2.2.2.2.2.2.2.2.2.2.2.2.2.2.2.2.1)
    have k_xS6 : xS6 W := by
      rw [hW]
      exact (uxS6 rfl hI.2.2.2.2.2.2.2.2.2.2.2.2.2.2.2.2.2.2.2.2.2.2.2.2.2.2.1)
    have k_xS7 : xS7 W := by
      rw [hW]
      exact (uxS7 rfl hI.2.2.2.2.2.2.2.2.2.2.2.2.2.2.2.2.2.2.2.2.2.2.2.2.2.2.2.1)
    have k_xS8 : xS8 W := by
      rw [hW]
      exact (uxS8 rfl hI.2.2.2.2.2.2.2.2.2.2.2.2.2.2.2.2.2.2.2.2.2.2.2.2.2.2.2.2.1)
    have k_xS9 : xS9 W := by
      rw [hW]
      exact (uxS9 rfl hI.2.2.2.2.2.2.2.2.2.2.2.2.2.2.2.2.2.2.2.2.2.2.2.2.2.2.2.2.2.1)
    have k_xSA : xSA W := by
      rw [hW]
      exact (uxSA rfl hI.2.2.2.2.2.2.2.2.2.2.2.2.2.2.2.2.2.2.2.2.2.2.2.2.2.2.2.2.2.2.1)
    have k_xSG : xSG W := by
      rw [hW]
      exact (uxSG rfl hI.2.2.2.2.2.2.2.2.2.2.2.2.2.2.2.2.2.2.2.2.2.2.2.2.2.2.2.2.2.2.2.1)
    have k_xSF : xSF W := by
      rw [hW]
      exact (uxSF rfl hI.2.2.2.2.2.2.2.2.2.2.2.2.2.2.2.2.2.2.2.2.2.2.2.2.2.2.2.2.2.2.2.2.1)
    have k_xSB : xSB W := by
      rw [hW]
      exact (uxSB rfl hI.2.2.2.2.2.2.2.2.2.2.2.2.2.2.2.2.2.2.2.2.2.2.2.2.2.2.2.2.2.2.2.2.2.1)
    have k_xSC : xSC W := by
      rw [hW]
      exact (uxSC rfl hI.2.2.2.2.2.2.2.2.2.2.2.2.2.2.2.2.2.2.2.2.2.2.2.2.2.2.2.2.2.2.2.2.2.2.1)
    have k_xSD : xSD W := by
      rw [hW]
      exact (uxSD rfl hI.2.2.2.2.2.2.2.2.2.2.2.2.2.2.2.2.2.2.2.2.2.2.2.2.2.2.2.2.2.2.2.2.2.2.2.1)
    have k_xSE : xSE W := by
      rw [hW]
      exact (uxSE rfl hI.2.2.2.2.2.2.2.2.2.2.2.2.2.2.2.2.2.2.2.2.2.2.2.2.2.2.2.2.2.2.2.2.2.2.2.2.1)
    have k_xSW : xSW W := by
      rw [hW]
      exact (uxSW rfl hI.2.2.2.2.2.2.2.2.2.2.2.2.2.2.2.2.2.2.2.2.2.2.2.2.2.2.2.2.2.2.2.2.2.2.2.2.2.1)
    have k_xST : xST W := by
      rw [hW]
      exact (uxST rfl hI.2.2.2.2.2.2.2.2.2.2.2.2.2.2.2.2.2.2.2.2.2.2.2.2.2.2.2.2.2.2.2.2.2.2.2.2.2.2.1)
    have k_xSP : xSP W := by
      rw [hW]
      exact (uxSP rfl hI.2.2.2.2.2.2.2.2.2.2.2.2.2.2.2.2.2.2.2.2.2.2.2.2.2.2.2.2.2.2.2.2.2.2.2.2.2.2.2.1)
    have k_xSL : xSL W := by
      rw [hW]
      exact (uxSL rfl hI.2.2.2.2.2.2.2.2.2.2.2.2.2.2.2.2.2.2.2.2.2.2.2.2.2.2.2.2.2.2.2.2.2.2.2.2.2.2.2.2.1)
    have k_xSM : xSM W := by
      rw [hW]
      exact (uxSM rfl hI.2.2.2.2.2.2.2.2.2.2.2.2.2.2.2.2.2.2.2.2.2.2.2.2.2.2.2.2.2.2.2.2.2.2.2.2.2.2.2.2.2.1)
    have k_xSI : xSI W := by
      rw [hW]
      exact (uxSI rfl hI.2.2.2.2.2.2.2.2.2.2.2.2.2.2.2.2.2.2.2.2.2.2.2.2.2.2.2.2.2.2.2.2.2.2.2.2.2.2.2.2.2.2)
    have k_XC : XC W := ⟨k_xS1, k_xS2, k_xS3, k_xS4, k_xS5, k_xS6, k_xS7, k_xS8, k_xS9, k_xSA, k_xSG, k_xSF, k_xSB, k_xSC, k_xSD, k_xSE, k_xSW, k_xST, k_xSP, k_xSL, k_xSM, k_xSI⟩
    have kXB : XB W := ⟨k_xN1, k_xN2, k_xN3, k_xN4, k_xN5, k_xN6, k_xH1, k_xK1, k_xC1, k_xRW, k_xWT, k_xCU, k_xG2, k_xG3, k_xG4, k_xG5, k_xG6, k_XC⟩
    exact ⟨base, k2, k3, kXA, kXB⟩
-- g290_1
def xr_598 : qRu := (1, [], [], [], [(4, 290, [(1, 0)])], [])
theorem xo_598 : qRok xr_598 := by
  intro ρ M h0 hf hm hI
  refine ⟨ρ, fun _ _ => rfl, fun f h => ?_, ?_⟩
  · exact nomatch h
  · show sI (sU M 4 290 (1 * ρ 0 + 0))
    obtain ⟨W, hW⟩ : ∃ W, W = (sU M 4 290 (1 * ρ 0 + 0)) := ⟨_, rfl⟩
    rw [← hW]
    have base : sI0 W := by
      rw [hW]
      exact (si_u0 hI.1 (fun r hr => by cases hr))
    have k2 : XI2 W := by
      rw [hW]
      exact (xi2_u rfl hI.2.1)
    have k3 : XI3 W := by
      rw [hW]
      exact (xi3_u rfl hI.2.2.1)
    have kXA : XA W := by
      rw [hW]
      exact (uXA rfl hI.2.2.2.1)
    have k_xN1 : xN1 W := by
      rw [hW]
      exact (uxN1 rfl hI.2.2.2.2.1)
    have k_xN2 : xN2 W := by
      rw [hW]
      exact (uxN2 rfl hI.2.2.2.2.2.1)
    have k_xN3 : xN3 W := by
      rw [hW]
      exact (uxN3 rfl hI.2.2.2.2.2.2.1)
    have k_xN4 : xN4 W := by
      rw [hW]
      exact (uxN4 rfl hI.2.2.2.2.2.2.2.1)
    have k_xN5 : xN5 W := by
      rw [hW]
      exact (uxN5 rfl hI.2.2.2.2.2.2.2.2.1)
    have k_xN6 : xN6 W := by
      rw [hW]
      exact (uxN6 rfl hI.2.2.2.2.2.2.2.2.2.1)
    have k_xH1 : xH1 W := by
      rw [hW]
      exact (uxH1 rfl hI.2.2.2.2.2.2.2.2.2.2.1)
    have k_xK1 : xK1 W := by
      rw [hW]
      exact (uxK1 rfl hI.2.2.2.2.2.2.2.2.2.2.2.1)
    have k_xC1 : xC1 W := by
      rw [hW]
      exact (uxC1 rfl hI.2.2.2.2.2.2.2.2.2.2.2.2.1)
    have k_xRW : xRW W := by
      rw [hW]
      exact (uxRW rfl hI.2.2.2.2.2.2.2.2.2.2.2.2.2.1)
    have k_xWT : xWT W := by
      rw [hW]
      exact (uxWT rfl hI.2.2.2.2.2.2.2.2.2.2.2.2.2.2.1)
    have k_xCU : xCU W := by
      rw [hW]
      exact (uxCU rfl hI.2.2.2.2.2.2.2.2.2.2.2.2.2.2.2.1)
    have k_xG2 : xG2 W := by
      rw [hW]
      exact (uxG2 rfl hI.2.2.2.2.2.2.2.2.2.2.2.2.2.2.2.2.1)
    have k_xG3 : xG3 W := by
      rw [hW]
      exact (uxG3 rfl hI.2.2.2.2.2.2.2.2.2.2.2.2.2.2.2.2.2.1)
    have k_xG4 : xG4 W := by
      rw [hW]
      exact (uxG4 rfl hI.2.2.2.2.2.2.2.2.2.2.2.2.2.2.2.2.2.2.1)
    have k_xG5 : xG5 W := by
      rw [hW]
      exact (uxG5 rfl hI.2.2.2.2.2.2.2.2.2.2.2.2.2.2.2.2.2.2.2.1)
    have k_xG6 : xG6 W := by
      rw [hW]
      exact (uxG6 rfl hI.2.2.2.2.2.2.2.2.2.2.2.2.2.2.2.2.2.2.2.2.1)
    have k_xS1 : xS1 W := by
      rw [hW]
      exact (uxS1 rfl hI.2.2.2.2.2.2.2.2.2.2.2.2.2.2.2.2.2.2.2.2.2.1)
    have k_xS2 : xS2 W := by
      rw [hW]
      exact (uxS2 rfl hI.2.2.2.2.2.2.2.2.2.2.2.2.2.2.2.2.2.2.2.2.2.2.1)
    have k_xS3 : xS3 W := by
      rw [hW]
      exact (uxS3 rfl hI.2.2.2.2.2.2.2.2.2.2.2.2.2.2.2.2.2.2.2.2.2.2.2.1)
    have k_xS4 : xS4 W := by
      rw [hW]
      exact (uxS4 rfl hI.2.2.2.2.2.2.2.2.2.2.2.2.2.2.2.2.2.2.2.2.2.2.2.2.1)
    have k_xS5 : xS5 W := by
      rw [hW]
      exact (uxS5 rfl hI.2.2.2.2.2.2.2.2.2.2.2.2.2.2.2.2.2.2.2.2.2.2.2.2.2.1)
    have k_xS6 : xS6 W := by
      rw [hW]
      exact (uxS6 rfl hI.2.2.2.2.2.2.2.2.2.2.2.2.2.2.2.2.2.2.2.2.2.2.2.2.2.2.1)
    have k_xS7 : xS7 W := by
      rw [hW]
      exact (uxS7 rfl hI.2.2.2.2.2.2.2.2.2.2.2.2.2.2.2.2.2.2.2.2.2.2.2.2.2.2.2.1)
    have k_xS8 : xS8 W := by
      rw [hW]
      exact (uxS8 rfl hI.2.2.2.2.2.2.2.2.2.2.2.2.2.2.2.2.2.2.2.2.2.2.2.2.2.2.2.2.1)
    have k_xS9 : xS9 W := by
      rw [hW]
      exact (uxS9 rfl hI.2.2.2.2.2.2.2.2.2.2.2.2.2.2.2.2.2.2.2.2.2.2.2.2.2.2.2.2.2.1)
    have k_xSA : xSA W := by
      rw [hW]
      exact (uxSA rfl hI.2.2.2.2.2.2.2.2.2.2.2.2.2.2.2.2.2.2.2.2.2.2.2.2.2.2.2.2.2.2.1)
    have k_xSG : xSG W := by
      rw [hW]
      exact (uxSG rfl hI.2.2.2.2.2.2.2.2.2.2.2.2.2.2.2.2.2.2.2.2.2.2.2.2.2.2.2.2.2.2.2.1)
    have k_xSF : xSF W := by
      rw [hW]
      exact (uxSF rfl hI.2.2.2.2.2.2.2.2.2.2.2.2.2.2.2.2.2.2.2.2.2.2.2.2.2.2.2.2.2.2.2.2.1)
    have k_xSB : xSB W := by
      rw [hW]
      exact (uxSB rfl hI.2.2.2.2.2.2.2.2.2.2.2.2.2.2.2.2.2.2.2.2.2.2.2.2.2.2.2.2.2.2.2.2.2.1)
    have k_xSC : xSC W := by
      rw [hW]
      exact (uxSC rfl hI.2.2.2.2.2.2.2.2.2.2.2.2.2.2.2.2.2.2.2.2.2.2.2.2.2.2.2.2.2.2.2.2.2.2.1)
    have k_xSD : xSD W := by
      rw [hW]
      exact (uxSD rfl hI.2.2.2.2.2.2.2.2.2.2.2.2.2.2.2.2.2.2.2.2.2.2.2.2.2.2.2.2.2.2.2.2.2.2.2.1)
    have k_xSE : xSE W := by
      rw [hW]
      exact (uxSE rfl hI.2.2.2.2.2.2.2.2.2.2.2.2.2.2.2.2.2.2.2.2.2.2.2.2.2.2.2.2.2.2.2.2.2.2.2.2.1)
    have k_xSW : xSW W := by
      rw [hW]
      exact (uxSW rfl hI.2.2.2.2.2.2.2.2.2.2.2.2.2.2.2.2.2.2.2.2.2.2.2.2.2.2.2.2.2.2.2.2.2.2.2.2.2.1)
    have k_xST : xST W := by
      rw [hW]
      exact (uxST rfl hI.2.2.2.2.2.2.2.2.2.2.2.2.2.2.2.2.2.2.2.2.2.2.2.2.2.2.2.2.2.2.2.2.2.2.2.2.2.2.1)
    have k_xSP : xSP W := by
      rw [hW]
      exact (uxSP rfl hI.2.2.2.2.2.2.2.2.2.2.2.2.2.2.2.2.2.2.2.2.2.2.2.2.2.2.2.2.2.2.2.2.2.2.2.2.2.2.2.1)
    have k_xSL : xSL W := by
      rw [hW]
      exact (uxSL rfl hI.2.2.2.2.2.2.2.2.2.2.2.2.2.2.2.2.2.2.2.2.2.2.2.2.2.2.2.2.2.2.2.2.2.2.2.2.2.2.2.2.1)
    have k_xSM : xSM W := by
      rw [hW]
      exact (uxSM rfl hI.2.2.2.2.2.2.2.2.2.2.2.2.2.2.2.2.2.2.2.2.2.2.2.2.2.2.2.2.2.2.2.2.2.2.2.2.2.2.2.2.2.1)
    have k_xSI : xSI W := by
      rw [hW]
      exact (uxSI rfl hI.2.2.2.2.2.2.2.2.2.2.2.2.2.2.2.2.2.2.2.2.2.2.2.2.2.2.2.2.2.2.2.2.2.2.2.2.2.2.2.2.2.2)
    have k_XC : XC W := ⟨k_xS1, k_xS2, k_xS3, k_xS4, k_xS5, k_xS6, k_xS7, k_xS8, k_xS9, k_xSA, k_xSG, k_xSF, k_xSB, k_xSC, k_xSD, k_xSE, k_xSW, k_xST, k_xSP, k_xSL, k_xSM, k_xSI⟩
    have kXB : XB W := ⟨k_xN1, k_xN2, k_xN3, k_xN4, k_xN5, k_xN6, k_xH1, k_xK1, k_xC1, k_xRW, k_xWT, k_xCU, k_xG2, k_xG3, k_xG4, k_xG5, k_xG6, k_XC⟩
    exact ⟨base, k2, k3, kXA, kXB⟩
-- verOff
def xr_599 : qRu := (1, [], [], [], [(4, 200, [])], [])
theorem xo_599 : qRok xr_599 := by
  intro ρ M h0 hf hm hI
  refine ⟨ρ, fun _ _ => rfl, fun f h => ?_, ?_⟩
  · exact nomatch h
  · show sI (sU M 4 200 (0))
    obtain ⟨W, hW⟩ : ∃ W, W = (sU M 4 200 (0)) := ⟨_, rfl⟩
    rw [← hW]
    have base : sI0 W := by
      rw [hW]
      exact (si_u0 hI.1 (fun r hr => by cases hr))
    have k2 : XI2 W := by
      rw [hW]
      exact (xi2_u rfl hI.2.1)
    have k3 : XI3 W := by
      rw [hW]
      exact (xi3_u rfl hI.2.2.1)
    have kXA : XA W := by
      rw [hW]
      exact (uXA rfl hI.2.2.2.1)
    have k_xN1 : xN1 W := by
      rw [hW]
      exact (uxN1 rfl hI.2.2.2.2.1)
    have k_xN2 : xN2 W := by
      rw [hW]
      exact (uxN2 rfl hI.2.2.2.2.2.1)
    have k_xN3 : xN3 W := by
      rw [hW]
      exact (uxN3 rfl hI.2.2.2.2.2.2.1)
    have k_xN4 : xN4 W := by
      rw [hW]
      exact (uxN4 rfl hI.2.2.2.2.2.2.2.1)
    have k_xN5 : xN5 W := by
      rw [hW]
      exact (uxN5 rfl hI.2.2.2.2.2.2.2.2.1)
    have k_xN6 : xN6 W := by
      rw [hW]
      exact (uxN6 rfl hI.2.2.2.2.2.2.2.2.2.1)
    have k_xH1 : xH1 W := by
      rw [hW]
      exact (uxH1 rfl hI.2.2.2.2.2.2.2.2.2.2.1)
    have k_xK1 : xK1 W := by
      rw [hW]
      exact (uxK1 rfl hI.2.2.2.2.2.2.2.2.2.2.2.1)
    have k_xC1 : xC1 W := by
      rw [hW]
      exact (uxC1 rfl hI.2.2.2.2.2.2.2.2.2.2.2.2.1)
    have k_xRW : xRW W := by
      rw [hW]
      exact (uxRW rfl hI.2.2.2.2.2.2.2.2.2.2.2.2.2.1)
    have k_xWT : xWT W := by
      rw [hW]
      exact (uxWT rfl hI.2.2.2.2.2.2.2.2.2.2.2.2.2.2.1)
    have k_xCU : xCU W := by
      rw [hW]
      exact (uxCU rfl hI.2.2.2.2.2.2.2.2.2.2.2.2.2.2.2.1)
    have k_xG2 : xG2 W := by
      rw [hW]
      exact (uxG2 rfl hI.2.2.2.2.2.2.2.2.2.2.2.2.2.2.2.2.1)
    have k_xG3 : xG3 W := by
      rw [hW]
      exact (uxG3 rfl hI.2.2.2.2.2.2.2.2.2.2.2.2.2.2.2.2.2.1)
    have k_xG4 : xG4 W := by
      rw [hW]
      exact (uxG4 rfl hI.2.2.2.2.2.2.2.2.2.2.2.2.2.2.2.2.2.2.1)
    have k_xG5 : xG5 W := by
      rw [hW]
      exact (uxG5 rfl hI.2.2.2.2.2.2.2.2.2.2.2.2.2.2.2.2.2.2.2.1)
    have k_xG6 : xG6 W := by
      rw [hW]
      exact (uxG6 rfl hI.2.2.2.2.2.2.2.2.2.2.2.2.2.2.2.2.2.2.2.2.1)
    have k_xS1 : xS1 W := by
      rw [hW]
      exact (uxS1 rfl hI.2.2.2.2.2.2.2.2.2.2.2.2.2.2.2.2.2.2.2.2.2.1)
    have k_xS2 : xS2 W := by
      rw [hW]
      exact (uxS2 rfl hI.2.2.2.2.2.2.2.2.2.2.2.2.2.2.2.2.2.2.2.2.2.2.1)
    have k_xS3 : xS3 W := by
      rw [hW]
      exact (uxS3 rfl hI.2.2.2.2.2.2.2.2.2.2.2.2.2.2.2.2.2.2.2.2.2.2.2.1)
    have k_xS4 : xS4 W := by
      rw [hW]
      exact (uxS4 rfl hI.2.2.2.2.2.2.2.2.2.2.2.2.2.2.2.2.2.2.2.2.2.2.2.2.1)
    have k_xS5 : xS5 W := by
      rw [hW]
      exact (uxS5 rfl hI.2.2.2.2.2.2.2.2.2.2.2.2.2.2.2.2.2.2.2.2.2.2.2.2.2.1)
    have k_xS6 : xS6 W := by
      rw [hW]
      exact (uxS6 rfl hI.2.2.2.2.2.2.2.2.2.2.2.2.2.2.2.2.2.2.2.2.2.2.2.2.2.2.1)
    have k_xS7 : xS7 W := by
      have r : W 4 200 = 0 := by rw [hW, sU_at]
      intro h
      rw [r] at h
      omega
    have k_xS8 : xS8 W := by
      rw [hW]
      exact (uxS8 rfl hI.2.2.2.2.2.2.2.2.2.2.2.2.2.2.2.2.2.2.2.2.2.2.2.2.2.2.2.2.1)
    have k_xS9 : xS9 W := by
      rw [hW]
      exact (uxS9 rfl hI.2.2.2.2.2.2.2.2.2.2.2.2.2.2.2.2.2.2.2.2.2.2.2.2.2.2.2.2.2.1)
    have k_xSA : xSA W := by
      rw [hW]
      exact (uxSA rfl hI.2.2.2.2.2.2.2.2.2.2.2.2.2.2.2.2.2.2.2.2.2.2.2.2.2.2.2.2.2.2.1)
    have k_xSG : xSG W := by
      rw [hW]
      exact (uxSG rfl hI.2.2.2.2.2.2.2.2.2.2.2.2.2.2.2.2.2.2.2.2.2.2.2.2.2.2.2.2.2.2.2.1)
    have k_xSF : xSF W := by
      rw [hW]
      exact (uxSF rfl hI.2.2.2.2.2.2.2.2.2.2.2.2.2.2.2.2.2.2.2.2.2.2.2.2.2.2.2.2.2.2.2.2.1)
    have k_xSB : xSB W := by
      rw [hW]
      exact (uxSB rfl hI.2.2.2.2.2.2.2.2.2.2.2.2.2.2.2.2.2.2.2.2.2.2.2.2.2.2.2.2.2.2.2.2.2.1)
    have k_xSC : xSC W := by
      rw [hW]
      exact (uxSC rfl hI.2.2.2.2.2.2.2.2.2.2.2.2.2.2.2.2.2.2.2.2.2.2.2.2.2.2.2.2.2.2.2.2.2.2.1)
    have k_xSD : xSD W := by
      rw [hW]
      exact (uxSD rfl hI.2.2.2.2.2.2.2.2.2.2.2.2.2.2.2.2.2.2.2.2.2.2.2.2.2.2.2.2.2.2.2.2.2.2.2.1)
    have k_xSE : xSE W := by
      rw [hW]
      exact (uxSE rfl hI.2.2.2.2.2.2.2.2.2.2.2.2.2.2.2.2.2.2.2.2.2.2.2.2.2.2.2.2.2.2.2.2.2.2.2.2.1)
    have k_xSW : xSW W := by
      rw [hW]
      exact (uxSW rfl hI.2.2.2.2.2.2.2.2.2.2.2.2.2.2.2.2.2.2.2.2.2.2.2.2.2.2.2.2.2.2.2.2.2.2.2.2.2.1)
    have k_xST : xST W := by
      rw [hW]
      exact (uxST rfl hI.2.2.2.2.2.2.2.2.2.2.2.2.2.2.2.2.2.2.2.2.2.2.2.2.2.2.2.2.2.2.2.2.2.2.2.2.2.2.1)
    have k_xSP : xSP W := by
      rw [hW]
      exact (uxSP rfl hI.2.2.2.2.2.2.2.2.2.2.2.2.2.2.2.2.2.2.2.2.2.2.2.2.2.2.2.2.2.2.2.2.2.2.2.2.2.2.2.1)
    have k_xSL : xSL W := by
      rw [hW]
      exact (uxSL rfl hI.2.2.2.2.2.2.2.2.2.2.2.2.2.2.2.2.2.2.2.2.2.2.2.2.2.2.2.2.2.2.2.2.2.2.2.2.2.2.2.2.1)
    have k_xSM : xSM W := by
      rw [hW]
      exact (uxSM rfl hI.2.2.2.2.2.2.2.2.2.2.2.2.2.2.2.2.2.2.2.2.2.2.2.2.2.2.2.2.2.2.2.2.2.2.2.2.2.2.2.2.2.1)
    have k_xSI : xSI W := by
      rw [hW]
      exact (uxSI rfl hI.2.2.2.2.2.2.2.2.2.2.2.2.2.2.2.2.2.2.2.2.2.2.2.2.2.2.2.2.2.2.2.2.2.2.2.2.2.2.2.2.2.2)
    have k_XC : XC W := ⟨k_xS1, k_xS2, k_xS3, k_xS4, k_xS5, k_xS6, k_xS7, k_xS8, k_xS9, k_xSA, k_xSG, k_xSF, k_xSB, k_xSC, k_xSD, k_xSE, k_xSW, k_xST, k_xSP, k_xSL, k_xSM, k_xSI⟩
    have kXB : XB W := ⟨k_xN1, k_xN2, k_xN3, k_xN4, k_xN5, k_xN6, k_xH1, k_xK1, k_xC1, k_xRW, k_xWT, k_xCU, k_xG2, k_xG3, k_xG4, k_xG5, k_xG6, k_XC⟩
    exact ⟨base, k2, k3, kXA, kXB⟩
-- rtStart
def xr_600 : qRu := (1, [], [], [], [(4, 291, []), (4, 292, [])], [])
theorem xo_600 : qRok xr_600 := by
  intro ρ M h0 hf hm hI
  refine ⟨ρ, fun _ _ => rfl, fun f h => ?_, ?_⟩
  · exact nomatch h
  · show sI (sU (sU M 4 291 (0)) 4 292 (0))
    obtain ⟨W, hW⟩ : ∃ W, W = (sU (sU M 4 291 (0)) 4 292 (0)) := ⟨_, rfl⟩
    rw [← hW]
    have base : sI0 W := by
      rw [hW]
      exact (si_u0 (si_u0 hI.1 (fun r hr => by cases hr)) (fun r hr => by cases hr))
    have k2 : XI2 W := by
      rw [hW]
      exact (xi2_u rfl (xi2_u rfl hI.2.1))
    have k3 : XI3 W := by
      rw [hW]
      exact (xi3_u rfl (xi3_u rfl hI.2.2.1))
    have kXA : XA W := by
      rw [hW]
      exact (uXA rfl (uXA rfl hI.2.2.2.1))
    have k_xN1 : xN1 W := by
      rw [hW]
      exact (uxN1 rfl (uxN1 rfl hI.2.2.2.2.1))
    have k_xN2 : xN2 W := by
      rw [hW]
      exact (uxN2 rfl (uxN2 rfl hI.2.2.2.2.2.1))
    have k_xN3 : xN3 W := by
      rw [hW]
      exact (uxN3 rfl (uxN3 rfl hI.2.2.2.2.2.2.1))
    have k_xN4 : xN4 W := by
      rw [hW]
      exact (uxN4 rfl (uxN4 rfl hI.2.2.2.2.2.2.2.1))
    have k_xN5 : xN5 W := by
      rw [hW]
      exact (uxN5 rfl (uxN5 rfl hI.2.2.2.2.2.2.2.2.1))
    have k_xN6 : xN6 W := by
      rw [hW]
      exact (uxN6 rfl (uxN6 rfl hI.2.2.2.2.2.2.2.2.2.1))
    have k_xH1 : xH1 W := by
      rw [hW]
      exact (uxH1 rfl (uxH1 rfl hI.2.2.2.2.2.2.2.2.2.2.1))
    have k_xK1 : xK1 W := by
      rw [hW]
      exact (uxK1 rfl (uxK1 rfl hI.2.2.2.2.2.2.2.2.2.2.2.1))
    have k_xC1 : xC1 W := by
      rw [hW]
      exact (uxC1 rfl (uxC1 rfl hI.2.2.2.2.2.2.2.2.2.2.2.2.1))
    have k_xRW : xRW W := by
      rw [hW]
      exact (uxRW rfl (uxRW rfl hI.2.2.2.2.2.2.2.2.2.2.2.2.2.1))
    have k_xWT : xWT W := by
      rw [hW]
      exact (uxWT rfl (uxWT rfl hI.2.2.2.2.2.2.2.2.2.2.2.2.2.2.1))
    have k_xCU : xCU W := by
      rw [hW]
      exact (uxCU rfl (uxCU rfl hI.2.2.2.2.2.2.2.2.2.2.2.2.2.2.2.1))
    have k_xG2 : xG2 W := by
      rw [hW]
      exact (uxG2 rfl (uxG2 rfl hI.2.2.2.2.2.2.2.2.2.2.2.2.2.2.2.2.1))
    have k_xG3 : xG3 W := by
      rw [hW]
      exact (uxG3 rfl (uxG3 rfl hI.2.2.2.2.2.2.2.2.2.2.2.2.2.2.2.2.2.1))
    have k_xG4 : xG4 W := by
      rw [hW]
      exact (uxG4 rfl (uxG4 rfl hI.2.2.2.2.2.2.2.2.2.2.2.2.2.2.2.2.2.2.1))
    have k_xG5 : xG5 W := by
      rw [hW]
      exact (uxG5 rfl (uxG5 rfl hI.2.2.2.2.2.2.2.2.2.2.2.2.2.2.2.2.2.2.2.1))
    have k_xG6 : xG6 W := by
      rw [hW]
      exact (uxG6 rfl (uxG6 rfl hI.2.2.2.2.2.2.2.2.2.2.2.2.2.2.2.2.2.2.2.2.1))
    have k_xS1 : xS1 W := by
      rw [hW]
      exact (uxS1 rfl (uxS1 rfl hI.2.2.2.2.2.2.2.2.2.2.2.2.2.2.2.2.2.2.2.2.2.1))
    have k_xS2 : xS2 W := by
      rw [hW]
      exact (uxS2 rfl (uxS2 rfl hI.2.2.2.2.2.2.2.2.2.2.2.2.2.2.2.2.2.2.2.2.2.2.1))
    have k_xS3 : xS3 W := by
      rw [hW]
      exact (uxS3 rfl (uxS3 rfl hI.2.2.2.2.2.2.2.2.2.2.2.2.2.2.2.2.2.2.2.2.2.2.2.1))
    have k_xS4 : xS4 W := by
      rw [hW]
      exact (uxS4 rfl (uxS4 rfl hI.2.2.2.2.2.2.2.2.2.2.2.2.2.2.2.2.2.2.2.2.2.2.2.2.1))
    have k_xS5 : xS5 W := by
      rw [hW]
      exact (uxS5 rfl (uxS5 rfl hI.2.2.2.2.2.2.2.2.2.2.2.2.2.2.2.2.2.2.2.2.2.2.2.2.2.1))
    have k_xS6 : xS6 W := by
      rw [hW]
      exact (uxS6 rfl (uxS6 rfl hI.2.2.2.2.2.2.2.2.2.2.2.2.2.2.2.2.2.2.2.2.2.2.2.2.2.2.1))
    have k_xS7 : xS7 W := by
      rw [hW]
      exact (uxS7 rfl (uxS7 rfl hI.2.2.2.2.2.2.2.2.2.2.2.2.2.2.2.2.2.2.2.2.2.2.2.2.2.2.2.1))
    have k_xS8 : xS8 W := by
      rw [hW]
      exact (uxS8 rfl (uxS8 rfl hI.2.2.2.2.2.2.2.2.2.2.2.2.2.2.2.2.2.2.2.2.2.2.2.2.2.2.2.2.1))
    have k_xS9 : xS9 W := by
      rw [hW]
      exact (uxS9 rfl (uxS9 rfl hI.2.2.2.2.2.2.2.2.2.2.2.2.2.2.2.2.2.2.2.2.2.2.2.2.2.2.2.2.2.1))
    have k_xSA : xSA W := by
      rw [hW]
      exact (uxSA rfl (uxSA rfl hI.2.2.2.2.2.2.2.2.2.2.2.2.2.2.2.2.2.2.2.2.2.2.2.2.2.2.2.2.2.2.1))
    have k_xSG : xSG W := by
      rw [hW]
      exact (uxSG rfl (uxSG rfl hI.2.2.2.2.2.2.2.2.2.2.2.2.2.2.2.2.2.2.2.2.2.2.2.2.2.2.2.2.2.2.2.1))
    have k_xSF : xSF W := by
      rw [hW]
      exact (uxSF rfl (uxSF rfl hI.2.2.2.2.2.2.2.2.2.2.2.2.2.2.2.2.2.2.2.2.2.2.2.2.2.2.2.2.2.2.2.2.1))
    have k_xSB : xSB W := by
      rw [hW]
      exact (uxSB rfl (uxSB rfl hI.2.2.2.2.2.2.2.2.2.2.2.2.2.2.2.2.2.2.2.2.2.2.2.2.2.2.2.2.2.2.2.2.2.1))
    have k_xSC : xSC W := by
      rw [hW]
      exact (uxSC rfl (uxSC rfl hI.2.2.2.2.2.2.2.2.2.2.2.2.2.2.2.2.2.2.2.2.2.2.2.2.2.2.2.2.2.2.2.2.2.2.1))
    have k_xSD : xSD W := by
      rw [hW]
      exact (uxSD rfl (uxSD rfl hI.2.2.2.2.2.2.2.2.2.2.2.2.2.2.2.2.2.2.2.2.2.2.2.2.2.2.2.2.2.2.2.2.2.2.2.1))
    have k_xSE : xSE W := by
      rw [hW]
      exact (uxSE rfl (uxSE rfl hI.2.2.2.2.2.2.2.2.2.2.2.2.2.2.2.2.2.2.2.2.2.2.2.2.2.2.2.2.2.2.2.2.2.2.2.2.1))
    have k_xSW : xSW W := by
      rw [hW]
      exact (uxSW rfl (uxSW rfl hI.2.2.2.2.2.2.2.2.2.2.2.2.2.2.2.2.2.2.2.2.2.2.2.2.2.2.2.2.2.2.2.2.2.2.2.2.2.1))
    have k_xST : xST W := by
      rw [hW]
      exact (uxST rfl (uxST rfl hI.2.2.2.2.2.2.2.2.2.2.2.2.2.2.2.2.2.2.2.2.2.2.2.2.2.2.2.2.2.2.2.2.2.2.2.2.2.2.1))
    have k_xSP : xSP W := by
      rw [hW]
      exact (uxSP rfl (uxSP rfl hI.2.2.2.2.2.2.2.2.2.2.2.2.2.2.2.2.2.2.2.2.2.2.2.2.2.2.2.2.2.2.2.2.2.2.2.2.2.2.2.1))
    have k_xSL : xSL W := by
      rw [hW]
      exact (uxSL rfl (uxSL rfl hI.2.2.2.2.2.2.2.2.2.2.2.2.2.2.2.2.2.2.2.2.2.2.2.2.2.2.2.2.2.2.2.2.2.2.2.2.2.2.2.2.1))
    have k_xSM : xSM W := by
      rw [hW]
      exact (uxSM rfl (uxSM rfl hI.2.2.2.2.2.2.2.2.2.2.2.2.2.2.2.2.2.2.2.2.2.2.2.2.2.2.2.2.2.2.2.2.2.2.2.2.2.2.2.2.2.1))
    have k_xSI : xSI W := by
      rw [hW]
      exact (uxSI rfl (uxSI rfl hI.2.2.2.2.2.2.2.2.2.2.2.2.2.2.2.2.2.2.2.2.2.2.2.2.2.2.2.2.2.2.2.2.2.2.2.2.2.2.2.2.2.2))
    have k_XC : XC W := ⟨k_xS1, k_xS2, k_xS3, k_xS4, k_xS5, k_xS6, k_xS7, k_xS8, k_xS9, k_xSA, k_xSG, k_xSF, k_xSB, k_xSC, k_xSD, k_xSE, k_xSW, k_xST, k_xSP, k_xSL, k_xSM, k_xSI⟩
    have kXB : XB W := ⟨k_xN1, k_xN2, k_xN3, k_xN4, k_xN5, k_xN6, k_xH1, k_xK1, k_xC1, k_xRW, k_xWT, k_xCU, k_xG2, k_xG3, k_xG4, k_xG5, k_xG6, k_XC⟩
    exact ⟨base, k2, k3, kXA, kXB⟩
-- tapeOff
def xr_601 : qRu := (1, [], [], [], [(4, 261, [])], [])
theorem xo_601 : qRok xr_601 := by
  intro ρ M h0 hf hm hI
  have qxST := hI.2.2.2.2.2.2.2.2.2.2.2.2.2.2.2.2.2.2.2.2.2.2.2.2.2.2.2.2.2.2.2.2.2.2.2.2.2.2.1
  refine ⟨ρ, fun _ _ => rfl, fun f h => ?_, ?_⟩
  · exact nomatch h
  · show sI (sU M 4 261 (0))
    obtain ⟨W, hW⟩ : ∃ W, W = (sU M 4 261 (0)) := ⟨_, rfl⟩
    rw [← hW]
    have base : sI0 W := by
      rw [hW]
      exact (si_u0 hI.1 (fun r hr => by cases hr))
    have k2 : XI2 W := by
      rw [hW]
      exact (xi2_u rfl hI.2.1)
    have k3 : XI3 W := by
      rw [hW]
      exact (xi3_u rfl hI.2.2.1)
    have kXA : XA W := by
      rw [hW]
      exact (uXA rfl hI.2.2.2.1)
    have k_xN1 : xN1 W := by
      rw [hW]
      exact (uxN1 rfl hI.2.2.2.2.1)
    have k_xN2 : xN2 W := by
      rw [hW]
      exact (uxN2 rfl hI.2.2.2.2.2.1)
    have k_xN3 : xN3 W := by
      rw [hW]
      exact (uxN3 rfl hI.2.2.2.2.2.2.1)
    have k_xN4 : xN4 W := by
      rw [hW]
      exact (uxN4 rfl hI.2.2.2.2.2.2.2.1)
    have k_xN5 : xN5 W := by
      rw [hW]
      exact (uxN5 rfl hI.2.2.2.2.2.2.2.2.1)
    have k_xN6 : xN6 W := by
      rw [hW]
      exact (uxN6 rfl hI.2.2.2.2.2.2.2.2.2.1)
    have k_xH1 : xH1 W := by
      rw [hW]
      exact (uxH1 rfl hI.2.2.2.2.2.2.2.2.2.2.1)
    have k_xK1 : xK1 W := by
      rw [hW]
      exact (uxK1 rfl hI.2.2.2.2.2.2.2.2.2.2.2.1)
    have k_xC1 : xC1 W := by
      rw [hW]
      exact (uxC1 rfl hI.2.2.2.2.2.2.2.2.2.2.2.2.1)
    have k_xRW : xRW W := by
      rw [hW]
      exact (uxRW rfl hI.2.2.2.2.2.2.2.2.2.2.2.2.2.1)
    have k_xWT : xWT W := by
      rw [hW]
      exact (uxWT rfl hI.2.2.2.2.2.2.2.2.2.2.2.2.2.2.1)
    have k_xCU : xCU W := by
      rw [hW]
      exact (uxCU rfl hI.2.2.2.2.2.2.2.2.2.2.2.2.2.2.2.1)
    have k_xG2 : xG2 W := by
      rw [hW]
      exact (uxG2 rfl hI.2.2.2.2.2.2.2.2.2.2.2.2.2.2.2.2.1)
    have k_xG3 : xG3 W := by
      rw [hW]
      exact (uxG3 rfl hI.2.2.2.2.2.2.2.2.2.2.2.2.2.2.2.2.2.1)
    have k_xG4 : xG4 W := by
      rw [hW]
      exact (uxG4 rfl hI.2.2.2.2.2.2.2.2.2.2.2.2.2.2.2.2.2.2.1)
    have k_xG5 : xG5 W := by
      rw [hW]
      exact (uxG5 rfl hI.2.2.2.2.2.2.2.2.2.2.2.2.2.2.2.2.2.2.2.1)
    have k_xG6 : xG6 W := by
      rw [hW]
      exact (uxG6 rfl hI.2.2.2.2.2.2.2.2.2.2.2.2.2.2.2.2.2.2.2.2.1)
    have k_xS1 : xS1 W := by
      rw [hW]
      exact (uxS1 rfl hI.2.2.2.2.2.2.2.2.2.2.2.2.2.2.2.2.2.2.2.2.2.1)
    have k_xS2 : xS2 W := by
      rw [hW]
      exact (uxS2 rfl hI.2.2.2.2.2.2.2.2.2.2.2.2.2.2.2.2.2.2.2.2.2.2.1)
    have k_xS3 : xS3 W := by
      rw [hW]
      exact (uxS3 rfl hI.2.2.2.2.2.2.2.2.2.2.2.2.2.2.2.2.2.2.2.2.2.2.2.1)
    have k_xS4 : xS4 W := by
      rw [hW]
      exact (uxS4 rfl hI.2.2.2.2.2.2.2.2.2.2.2.2.2.2.2.2.2.2.2.2.2.2.2.2.1)
    have k_xS5 : xS5 W := by
      rw [hW]
      exact (uxS5 rfl hI.2.2.2.2.2.2.2.2.2.2.2.2.2.2.2.2.2.2.2.2.2.2.2.2.2.1)
    have k_xS6 : xS6 W := by
      rw [hW]
      exact (uxS6 rfl hI.2.2.2.2.2.2.2.2.2.2.2.2.2.2.2.2.2.2.2.2.2.2.2.2.2.2.1)
    have k_xS7 : xS7 W := by
      rw [hW]
      exact (uxS7 rfl hI.2.2.2.2.2.2.2.2.2.2.2.2.2.2.2.2.2.2.2.2.2.2.2.2.2.2.2.1)
    have k_xS8 : xS8 W := by
      rw [hW]
      exact (uxS8 rfl hI.2.2.2.2.2.2.2.2.2.2.2.2.2.2.2.2.2.2.2.2.2.2.2.2.2.2.2.2.1)
    have k_xS9 : xS9 W := by
      rw [hW]
      exact (uxS9 rfl hI.2.2.2.2.2.2.2.2.2.2.2.2.2.2.2.2.2.2.2.2.2.2.2.2.2.2.2.2.2.1)
    have k_xSA : xSA W := by
      rw [hW]
      exact (uxSA rfl hI.2.2.2.2.2.2.2.2.2.2.2.2.2.2.2.2.2.2.2.2.2.2.2.2.2.2.2.2.2.2.1)
    have k_xSG : xSG W := by
      rw [hW]
      exact (uxSG rfl hI.2.2.2.2.2.2.2.2.2.2.2.2.2.2.2.2.2.2.2.2.2.2.2.2.2.2.2.2.2.2.2.1)
    have k_xSF : xSF W := by
      rw [hW]
      exact (uxSF rfl hI.2.2.2.2.2.2.2.2.2.2.2.2.2.2.2.2.2.2.2.2.2.2.2.2.2.2.2.2.2.2.2.2.1)
    have k_xSB : xSB W := by
      rw [hW]
      exact (uxSB rfl hI.2.2.2.2.2.2.2.2.2.2.2.2.2.2.2.2.2.2.2.2.2.2.2.2.2.2.2.2.2.2.2.2.2.1)
    have k_xSC : xSC W := by
      rw [hW]
      exact (uxSC rfl hI.2.2.2.2.2.2.2.2.2.2.2.2.2.2.2.2.2.2.2.2.2.2.2.2.2.2.2.2.2.2.2.2.2.2.1)
    have k_xSD : xSD W := by
      rw [hW]
      exact (uxSD rfl hI.2.2.2.2.2.2.2.2.2.2.2.2.2.2.2.2.2.2.2.2.2.2.2.2.2.2.2.2.2.2.2.2.2.2.2.1)
    have k_xSE : xSE W := by
      rw [hW]
      exact (uxSE rfl hI.2.2.2.2.2.2.2.2.2.2.2.2.2.2.2.2.2.2.2.2.2.2.2.2.2.2.2.2.2.2.2.2.2.2.2.2.1)
    have k_xSW : xSW W := by
      rw [hW]
      exact (uxSW rfl hI.2.2.2.2.2.2.2.2.2.2.2.2.2.2.2.2.2.2.2.2.2.2.2.2.2.2.2.2.2.2.2.2.2.2.2.2.2.1)
    have k_xST : xST W := by
      have r4_261 : W 4 261 = 0 := by rw [hW, sU_at]
      have c1 : ∀ k, W 1 k = M 1 k := fun k => by rw [hW, sU_ne (fun z => by omega)]
      have e1 : W 1 = M 1 := funext c1
      have c92 : ∀ k, W 92 k = M 92 k := fun k => by rw [hW, sU_ne (fun z => by omega)]
      have e92 : W 92 = M 92 := funext c92
      intro i hi
      rw [r4_261] at hi
      omega
    have k_xSP : xSP W := by
      rw [hW]
      exact (uxSP rfl hI.2.2.2.2.2.2.2.2.2.2.2.2.2.2.2.2.2.2.2.2.2.2.2.2.2.2.2.2.2.2.2.2.2.2.2.2.2.2.2.1)
    have k_xSL : xSL W := by
      rw [hW]
      exact (uxSL rfl hI.2.2.2.2.2.2.2.2.2.2.2.2.2.2.2.2.2.2.2.2.2.2.2.2.2.2.2.2.2.2.2.2.2.2.2.2.2.2.2.2.1)
    have k_xSM : xSM W := by
      rw [hW]
      exact (uxSM rfl hI.2.2.2.2.2.2.2.2.2.2.2.2.2.2.2.2.2.2.2.2.2.2.2.2.2.2.2.2.2.2.2.2.2.2.2.2.2.2.2.2.2.1)
    have k_xSI : xSI W := by
      rw [hW]
      exact (uxSI rfl hI.2.2.2.2.2.2.2.2.2.2.2.2.2.2.2.2.2.2.2.2.2.2.2.2.2.2.2.2.2.2.2.2.2.2.2.2.2.2.2.2.2.2)
    have k_XC : XC W := ⟨k_xS1, k_xS2, k_xS3, k_xS4, k_xS5, k_xS6, k_xS7, k_xS8, k_xS9, k_xSA, k_xSG, k_xSF, k_xSB, k_xSC, k_xSD, k_xSE, k_xSW, k_xST, k_xSP, k_xSL, k_xSM, k_xSI⟩
    have kXB : XB W := ⟨k_xN1, k_xN2, k_xN3, k_xN4, k_xN5, k_xN6, k_xH1, k_xK1, k_xC1, k_xRW, k_xWT, k_xCU, k_xG2, k_xG3, k_xG4, k_xG5, k_xG6, k_XC⟩
    exact ⟨base, k2, k3, kXA, kXB⟩
-- fdBegin
def xr_602 : qRu := (7, [[(1, 1)]], [(4, 261, [(1, 1)])], [], [(4, 262, []), (4, 263, [(1, 1)]), (4, 264, []), (4, 265, [(1, 2)]), (4, 266, [(1, 3)]), (4, 267, [(1, 4)]), (4, 268, [(1, 5)]), (4, 269, [(1, 6)])], [])
theorem xo_602 : qRok xr_602 := by
  intro ρ M h0 hf hm hI
  have f0 := hf [(1, 1)] (by decide)
  simp only [qD, h0] at f0
  have m0 : M 4 261 = 1 * ρ 1 + 0 := hm (4, 261, [(1, 1)]) (by decide)
  have qxSP := hI.2.2.2.2.2.2.2.2.2.2.2.2.2.2.2.2.2.2.2.2.2.2.2.2.2.2.2.2.2.2.2.2.2.2.2.2.2.2.2.1
  refine ⟨ρ, fun _ _ => rfl, fun f h => ?_, ?_⟩
  · exact nomatch h
  · show sI (sU (sU (sU (sU (sU (sU (sU (sU M 4 262 (0)) 4 263 (1 * ρ 1 + 0)) 4 264 (0)) 4 265 (1 * ρ 2 + 0)) 4 266 (1 * ρ 3 + 0)) 4 267 (1 * ρ 4 + 0)) 4 268 (1 * ρ 5 + 0)) 4 269 (1 * ρ 6 + 0))
    obtain ⟨W, hW⟩ : ∃ W, W = (sU (sU (sU (sU (sU (sU (sU (sU M 4 262 (0)) 4 263 (1 * ρ 1 + 0)) 4 264 (0)) 4 265 (1 * ρ 2 + 0)) 4 266 (1 * ρ 3 + 0)) 4 267 (1 * ρ 4 + 0)) 4 268 (1 * ρ 5 + 0)) 4 269 (1 * ρ 6 + 0)) := ⟨_, rfl⟩
    rw [← hW]
    have base : sI0 W := by
      rw [hW]
      exact (si_u0 (si_u0 (si_u0 (si_u0 (si_u0 (si_u0 (si_u0 (si_u0 hI.1 (fun r hr => by cases hr)) (fun r hr => by cases hr)) (fun r hr => by cases hr)) (fun r hr => by cases hr)) (fun r hr => by cases hr)) (fun r hr => by cases hr)) (fun r hr => by cases hr)) (fun r hr => by cases hr))
    have k2 : XI2 W := by
      rw [hW]
      exact (xi2_u rfl (xi2_u rfl (xi2_u rfl (xi2_u rfl (xi2_u rfl (xi2_u rfl (xi2_u rfl (xi2_u rfl hI.2.1))))))))
    have k3 : XI3 W := by
      rw [hW]
      exact (xi3_u rfl (xi3_u rfl (xi3_u rfl (xi3_u rfl (xi3_u rfl (xi3_u rfl (xi3_u rfl (xi3_u rfl hI.2.2.1))))))))
    have kXA : XA W := by
      rw [hW]
      exact (uXA rfl (uXA rfl (uXA rfl (uXA rfl (uXA rfl (uXA rfl (uXA rfl (uXA rfl hI.2.2.2.1))))))))
    have k_xN1 : xN1 W := by
      rw [hW]
      exact (uxN1 rfl (uxN1 rfl (uxN1 rfl (uxN1 rfl (uxN1 rfl (uxN1 rfl (uxN1 rfl (uxN1 rfl hI.2.2.2.2.1))))))))
    have k_xN2 : xN2 W := by
      rw [hW]
      exact (uxN2 rfl (uxN2 rfl (uxN2 rfl (uxN2 rfl (uxN2 rfl (uxN2 rfl (uxN2 rfl (uxN2 rfl hI.2.2.2.2.2.1))))))))
    have k_xN3 : xN3 W := by
      rw [hW]
      exact (uxN3 rfl (uxN3 rfl (uxN3 rfl (uxN3 rfl (uxN3 rfl (uxN3 rfl (uxN3 rfl (uxN3 rfl hI.2.2.2.2.2.2.1))))))))
    have k_xN4 : xN4 W := by
      rw [hW]
      exact (uxN4 rfl (uxN4 rfl (uxN4 rfl (uxN4 rfl (uxN4 rfl (uxN4 rfl (uxN4 rfl (uxN4 rfl hI.2.2.2.2.2.2.2.1))))))))
    have k_xN5 : xN5 W := by
      rw [hW]
      exact (uxN5 rfl (uxN5 rfl (uxN5 rfl (uxN5 rfl (uxN5 rfl (uxN5 rfl (uxN5 rfl (uxN5 rfl hI.2.2.2.2.2.2.2.2.1))))))))
    have k_xN6 : xN6 W := by
      rw [hW]
      exact (uxN6 rfl (uxN6 rfl (uxN6 rfl (uxN6 rfl (uxN6 rfl (uxN6 rfl (uxN6 rfl (uxN6 rfl hI.2.2.2.2.2.2.2.2.2.1))))))))
    have k_xH1 : xH1 W := by
      rw [hW]
      exact (uxH1 rfl (uxH1 rfl (uxH1 rfl (uxH1 rfl (uxH1 rfl (uxH1 rfl (uxH1 rfl (uxH1 rfl hI.2.2.2.2.2.2.2.2.2.2.1))))))))
    have k_xK1 : xK1 W := by
      rw [hW]
      exact (uxK1 rfl (uxK1 rfl (uxK1 rfl (uxK1 rfl (uxK1 rfl (uxK1 rfl (uxK1 rfl (uxK1 rfl hI.2.2.2.2.2.2.2.2.2.2.2.1))))))))
    have k_xC1 : xC1 W := by
      rw [hW]
      exact (uxC1 rfl (uxC1 rfl (uxC1 rfl (uxC1 rfl (uxC1 rfl (uxC1 rfl (uxC1 rfl (uxC1 rfl hI.2.2.2.2.2.2.2.2.2.2.2.2.1))))))))
    have k_xRW : xRW W := by
      rw [hW]
      exact (uxRW rfl (uxRW rfl (uxRW rfl (uxRW rfl (uxRW rfl (uxRW rfl (uxRW rfl (uxRW rfl hI.2.2.2.2.2.2.2.2.2.2.2.2.2.1))))))))
    have k_xWT : xWT W := by
      rw [hW]
      exact (uxWT rfl (uxWT rfl (uxWT rfl (uxWT rfl (uxWT rfl (uxWT rfl (uxWT rfl (uxWT rfl hI.2.2.2.2.2.2.2.2.2.2.2.2.2.2.1))))))))
    have k_xCU : xCU W := by
      rw [hW]
      exact (uxCU rfl (uxCU rfl (uxCU rfl (uxCU rfl (uxCU rfl (uxCU rfl (uxCU rfl (uxCU rfl hI.2.2.2.2.2.2.2.2.2.2.2.2.2.2.2.1))))))))
    have k_xG2 : xG2 W := by
      rw [hW]
      exact (uxG2 rfl (uxG2 rfl (uxG2 rfl (uxG2 rfl (uxG2 rfl (uxG2 rfl (uxG2 rfl (uxG2 rfl hI.2.2.2.2.2.2.2.2.2.2.2.2.2.2.2.2.1))))))))
    have k_xG3 : xG3 W := by
      rw [hW]
      exact (uxG3 rfl (uxG3 rfl (uxG3 rfl (uxG3 rfl (uxG3 rfl (uxG3 rfl (uxG3 rfl (uxG3 rfl hI.2.2.2.2.2.2.2.2.2.2.2.2.2.2.2.2.2.1))))))))
    have k_xG4 : xG4 W := by
      rw [hW]
      exact (uxG4 rfl (uxG4 rfl (uxG4 rfl (uxG4 rfl (uxG4 rfl (uxG4 rfl (uxG4 rfl (uxG4 rfl hI.2.2.2.2.2.2.2.2.2.2.2.2.2.2.2.2.2.2.1))))))))
    have k_xG5 : xG5 W := by
      rw [hW]
      exact (uxG5 rfl (uxG5 rfl (uxG5 rfl (uxG5 rfl (uxG5 rfl (uxG5 rfl (uxG5 rfl (uxG5 rfl hI.2.2.2.2.2.2.2.2.2.2.2.2.2.2.2.2.2.2.2.1))))))))
    have k_xG6 : xG6 W := by
      rw [hW]
      exact (uxG6 rfl (uxG6 rfl (uxG6 rfl (uxG6 rfl (uxG6 rfl (uxG6 rfl (uxG6 rfl (uxG6 rfl hI.2.2.2.2.2.2.2.2.2.2.2.2.2.2.2.2.2.2.2.2.1))))))))
    have k_xS1 : xS1 W := by
      rw [hW]
      exact (uxS1 rfl (uxS1 rfl (uxS1 rfl (uxS1 rfl (uxS1 rfl (uxS1 rfl (uxS1 rfl (uxS1 rfl hI.2.2.2.2.2.2.2.2.2.2.2.2.2.2.2.2.2.2.2.2.2.1))))))))
    have k_xS2 : xS2 W := by
      rw [hW]
      exact (uxS2 rfl (uxS2 rfl (uxS2 rfl (uxS2 rfl (uxS2 rfl (uxS2 rfl (uxS2 rfl (uxS2 rfl hI.2.2.2.2.2.2.2.2.2.2.2.2.2.2.2.2.2.2.2.2.2.2.1))))))))
    have k_xS3 : xS3 W := by
      rw [hW]
      exact (uxS3 rfl (uxS3 rfl (uxS3 rfl (uxS3 rfl (uxS3 rfl (uxS3 rfl (uxS3 rfl (uxS3 rfl hI.2.2.2.2.2.2.2.2.2.2.2.2.2.2.2.2.2.2.2.2.2.2.2.1))))))))
    have k_xS4 : xS4 W := by
      rw [hW]
      exact (uxS4 rfl (uxS4 rfl (uxS4 rfl (uxS4 rfl (uxS4 rfl (uxS4 rfl (uxS4 rfl (uxS4 rfl hI.2.2.2.2.2.2.2.2.2.2.2.2.2.2.2.2.2.2.2.2.2.2.2.2.1))))))))
    have k_xS5 : xS5 W := by
      rw [hW]
      exact (uxS5 rfl (uxS5 rfl (uxS5 rfl (uxS5 rfl (uxS5 rfl (uxS5 rfl (uxS5 rfl (uxS5 rfl hI.2.2.2.2.2.2.2.2.2.2.2.2.2.2.2.2.2.2.2.2.2.2.2.2.2.1))))))))
    have k_xS6 : xS6 W := by
      rw [hW]
      exact (uxS6 rfl (uxS6 rfl (uxS6 rfl (uxS6 rfl (uxS6 rfl (uxS6 rfl (uxS6 rfl (uxS6 rfl hI.2.2.2.2.2.2.2.2.2.2.2.2.2.2.2.2.2.2.2.2.2.2.2.2.2.2.1))))))))
    have k_xS7 : xS7 W := by
      rw [hW]
      exact (uxS7 rfl (uxS7 rfl (uxS7 rfl (uxS7 rfl (uxS7 rfl (uxS7 rfl (uxS7 rfl (uxS7 rfl hI.2.2.2.2.2.2.2.2.2.2.2.2.2.2.2.2.2.2.2.2.2.2.2.2.2.2.2.1))))))))
    have k_xS8 : xS8 W := by
      rw [hW]
      exact (uxS8 rfl (uxS8 rfl (uxS8 rfl (uxS8 rfl (uxS8 rfl (uxS8 rfl (uxS8 rfl (uxS8 rfl hI.2.2.2.2.2.2.2.2.2.2.2.2.2.2.2.2.2.2.2.2.2.2.2.2.2.2.2.2.1))))))))
    have k_xS9 : xS9 W := by
      rw [hW]
      exact (uxS9 rfl (uxS9 rfl (uxS9 rfl (uxS9 rfl (uxS9 rfl (uxS9 rfl (uxS9 rfl (uxS9 rfl hI.2.2.2.2.2.2.2.2.2.2.2.2.2.2.2.2.2.2.2.2.2.2.2.2.2.2.2.2.2.1))))))))
    have k_xSA : xSA W := by
      rw [hW]
      exact (uxSA rfl (uxSA rfl (uxSA rfl (uxSA rfl (uxSA rfl (uxSA rfl (uxSA rfl (uxSA rfl hI.2.2.2.2.2.2.2.2.2.2.2.2.2.2.2.2.2.2.2.2.2.2.2.2.2.2.2.2.2.2.1))))))))
    have k_xSG : xSG W := by
      rw [hW]
      exact (uxSG rfl (uxSG rfl (uxSG rfl (uxSG rfl (uxSG rfl (uxSG rfl (uxSG rfl (uxSG rfl hI.2.2.2.2.2.2.2.2.2.2.2.2.2.2.2.2.2.2.2.2.2.2.2.2.2.2.2.2.2.2.2.1))))))))
    have k_xSF : xSF W := by
      rw [hW]
      exact (uxSF rfl (uxSF rfl (uxSF rfl (uxSF rfl (uxSF rfl (uxSF rfl (uxSF rfl (uxSF rfl hI.2.2.2.2.2.2.2.2.2.2.2.2.2.2.2.2.2.2.2.2.2.2.2.2.2.2.2.2.2.2.2.2.1))))))))
    have k_xSB : xSB W := by
      rw [hW]
      exact (uxSB rfl (uxSB rfl (uxSB rfl (uxSB rfl (uxSB rfl (uxSB rfl (uxSB rfl (uxSB rfl hI.2.2.2.2.2.2.2.2.2.2.2.2.2.2.2.2.2.2.2.2.2.2.2.2.2.2.2.2.2.2.2.2.2.1))))))))
    have k_xSC : xSC W := by
      rw [hW]
      exact (uxSC rfl (uxSC rfl (uxSC rfl (uxSC rfl (uxSC rfl (uxSC rfl (uxSC rfl (uxSC rfl hI.2.2.2.2.2.2.2.2.2.2.2.2.2.2.2.2.2.2.2.2.2.2.2.2.2.2.2.2.2.2.2.2.2.2.1))))))))
    have k_xSD : xSD W := by
      rw [hW]
      exact (uxSD rfl (uxSD rfl (uxSD rfl (uxSD rfl (uxSD rfl (uxSD rfl (uxSD rfl (uxSD rfl hI.2.2.2.2.2.2.2.2.2.2.2.2.2.2.2.2.2.2.2.2.2.2.2.2.2.2.2.2.2.2.2.2.2.2.2.1))))))))
    have k_xSE : xSE W := by
      rw [hW]
      exact (uxSE rfl (uxSE rfl (uxSE rfl (uxSE rfl (uxSE rfl (uxSE rfl (uxSE rfl (uxSE rfl hI.2.2.2.2.2.2.2.2.2.2.2.2.2.2.2.2.2.2.2.2.2.2.2.2.2.2.2.2.2.2.2.2.2.2.2.2.1))))))))
    have k_xSW : xSW W := by
      rw [hW]
      exact (uxSW rfl (uxSW rfl (uxSW rfl (uxSW rfl (uxSW rfl (uxSW rfl (uxSW rfl (uxSW rfl hI.2.2.2.2.2.2.2.2.2.2.2.2.2.2.2.2.2.2.2.2.2.2.2.2.2.2.2.2.2.2.2.2.2.2.2.2.2.1))))))))
    have k_xST : xST W := by
      rw [hW]
      exact (uxST rfl (uxST rfl (uxST rfl (uxST rfl (uxST rfl (uxST rfl (uxST rfl (uxST rfl hI.2.2.2.2.2.2.2.2.2.2.2.2.2.2.2.2.2.2.2.2.2.2.2.2.2.2.2.2.2.2.2.2.2.2.2.2.2.2.1))))))))
    have k_xSP : xSP W := by
      have r4_262 : W 4 262 = 0 := by rw [hW, sU_ne (fun z => by omega), sU_ne (fun z => by omega), sU_ne (fun z => by omega), sU_ne (fun z => by omega), sU_ne (fun z => by omega), sU_ne (fun z => by omega), sU_ne (fun z => by omega), sU_at]
      have r4_263 : W 4 263 = 1 * ρ 1 + 0 := by rw [hW, sU_ne (fun z => by omega), sU_ne (fun z => by omega), sU_ne (fun z => by omega), sU_ne (fun z => by omega), sU_ne (fun z => by omega), sU_ne (fun z => by omega), sU_at]
      have r4_264 : W 4 264 = 0 := by rw [hW, sU_ne (fun z => by omega), sU_ne (fun z => by omega), sU_ne (fun z => by omega), sU_ne (fun z => by omega), sU_ne (fun z => by omega), sU_at]
      have r4_265 : W 4 265 = 1 * ρ 2 + 0 := by rw [hW, sU_ne (fun z => by omega), sU_ne (fun z => by omega), sU_ne (fun z => by omega), sU_ne (fun z => by omega), sU_at]
      have r4_266 : W 4 266 = 1 * ρ 3 + 0 := by rw [hW, sU_ne (fun z => by omega), sU_ne (fun z => by omega), sU_ne (fun z => by omega), sU_at]
      have r4_267 : W 4 267 = 1 * ρ 4 + 0 := by rw [hW, sU_ne (fun z => by omega), sU_ne (fun z => by omega), sU_at]
      have r4_268 : W 4 268 = 1 * ρ 5 + 0 := by rw [hW, sU_ne (fun z => by omega), sU_at]
      have r4_269 : W 4 269 = 1 * ρ 6 + 0 := by rw [hW, sU_at]
      have c1 : ∀ k, W 1 k = M 1 k := fun k => by rw [hW, sU_ne (fun z => by omega), sU_ne (fun z => by omega), sU_ne (fun z => by omega), sU_ne (fun z => by omega), sU_ne (fun z => by omega), sU_ne (fun z => by omega), sU_ne (fun z => by omega), sU_ne (fun z => by omega)]
      have e1 : W 1 = M 1 := funext c1
      have c92 : ∀ k, W 92 k = M 92 k := fun k => by rw [hW, sU_ne (fun z => by omega), sU_ne (fun z => by omega), sU_ne (fun z => by omega), sU_ne (fun z => by omega), sU_ne (fun z => by omega), sU_ne (fun z => by omega), sU_ne (fun z => by omega), sU_ne (fun z => by omega)]
      have e92 : W 92 = M 92 := funext c92
      unfold xSP
      rw [r4_262, r4_263, r4_264]
      exact ⟨by omega, fun j hj hl => by omega, fun j hj hl => by omega⟩
    have k_xSL : xSL W := by
      rw [hW]
      exact (uxSL rfl (uxSL rfl (uxSL rfl (uxSL rfl (uxSL rfl (uxSL rfl (uxSL rfl (uxSL rfl hI.2.2.2.2.2.2.2.2.2.2.2.2.2.2.2.2.2.2.2.2.2.2.2.2.2.2.2.2.2.2.2.2.2.2.2.2.2.2.2.2.1))))))))
    have k_xSM : xSM W := by
      rw [hW]
      exact (uxSM rfl (uxSM rfl (uxSM rfl (uxSM rfl (uxSM rfl (uxSM rfl (uxSM rfl (uxSM rfl hI.2.2.2.2.2.2.2.2.2.2.2.2.2.2.2.2.2.2.2.2.2.2.2.2.2.2.2.2.2.2.2.2.2.2.2.2.2.2.2.2.2.1))))))))
    have k_xSI : xSI W := by
      rw [hW]
      exact (uxSI rfl (uxSI rfl (uxSI rfl (uxSI rfl (uxSI rfl (uxSI rfl (uxSI rfl (uxSI rfl hI.2.2.2.2.2.2.2.2.2.2.2.2.2.2.2.2.2.2.2.2.2.2.2.2.2.2.2.2.2.2.2.2.2.2.2.2.2.2.2.2.2.2))))))))
    have k_XC : XC W := ⟨k_xS1, k_xS2, k_xS3, k_xS4, k_xS5, k_xS6, k_xS7, k_xS8, k_xS9, k_xSA, k_xSG, k_xSF, k_xSB, k_xSC, k_xSD, k_xSE, k_xSW, k_xST, k_xSP, k_xSL, k_xSM, k_xSI⟩
    have kXB : XB W := ⟨k_xN1, k_xN2, k_xN3, k_xN4, k_xN5, k_xN6, k_xH1, k_xK1, k_xC1, k_xRW, k_xWT, k_xCU, k_xG2, k_xG3, k_xG4, k_xG5, k_xG6, k_XC⟩
    exact ⟨base, k2, k3, kXA, kXB⟩
-- fdSh
def xr_603 : qRu := (3, [[(2147483648, 0), (1, 1)], [(2147483647, 0), (-1, 1)]], [], [], [(91, 249, [(1, 0)]), (91, 250, [(1, 1)]), (91, 251, [(1, 2)]), (91, 252, [(1, 3)]), (91, 253, [(1, 4)]), (91, 255, []), (91, 256, [(1, 5)]), (91, 257, [(1, 6)]), (91, 259, [(1, 0)]), (91, 248, [(1, 3)]), (91, 258, [(1, 7)])], [[(128, 0), (1, 7)], [(127, 0), (-1, 7)], [(1, 6)], [(255, 0), (-1, 6)]])
theorem xo_603 : qRok xr_603 := by
  intro ρ M h0 hf hm hI
  have f0 := hf [(2147483648, 0), (1, 1)] (by decide)
  have f1 := hf [(2147483647, 0), (-1, 1)] (by decide)
  simp only [qD, h0] at f0 f1
  have qxSE := hI.2.2.2.2.2.2.2.2.2.2.2.2.2.2.2.2.2.2.2.2.2.2.2.2.2.2.2.2.2.2.2.2.2.2.2.2.1
  have qxSI := hI.2.2.2.2.2.2.2.2.2.2.2.2.2.2.2.2.2.2.2.2.2.2.2.2.2.2.2.2.2.2.2.2.2.2.2.2.2.2.2.2.2.2
  have hz := zn_and (Int32.ofInt (xop 0 (ρ 1) (ρ 2))) (m := 255) (by decide) (by decide)
  have hz : 0 ≤ xop 1 (xop 0 (ρ 1) (ρ 2)) 255 ∧ xop 1 (xop 0 (ρ 1) (ρ 2)) 255 ≤ 255 := hz
  have hi := xi2b (xop 0 (ρ 1) (ρ 2))
  have hi2 : -128 ≤ (Int32.ofInt (xop 0 (ρ 1) (ρ 2))).toInt8.toInt32.toInt ∧ (Int32.ofInt (xop 0 (ρ 1) (ρ 2))).toInt8.toInt32.toInt ≤ 127 := by
    rw [hi]
    unfold tSn
    split <;> omega
  refine ⟨fun a => cond (Nat.blt a 3) (ρ a) (([xop 0 (ρ 1) (ρ 2), xop 1 (xop 0 (ρ 1) (ρ 2)) 1, xop 1 0 (M 91 243), xop 1 (xop 0 (ρ 1) (ρ 2)) 255, (Int32.ofInt (xop 0 (ρ 1) (ρ 2))).toInt8.toInt32.toInt] : List Int).getD (a - 3) 0), fun a ha => ?_, fun f h => ?_, ?_⟩
  · show cond (Nat.blt a 3) (ρ a) _ = ρ a
    rw [show Nat.blt a 3 = true from Nat.ble_eq_true_of_le ha]; rfl
  · have h : f ∈ ([[(128, 0), (1, 7)], [(127, 0), (-1, 7)], [(1, 6)], [(255, 0), (-1, 6)]] : List qF) := h
    simp only [List.mem_cons, List.not_mem_nil, or_false] at h
    rcases h with rfl | rfl | rfl | rfl
    · show 0 ≤ 128 * ρ 0 + (1 * ((Int32.ofInt (xop 0 (ρ 1) (ρ 2))).toInt8.toInt32.toInt) + 0)
      (try rw [h0]); omega
    · show 0 ≤ 127 * ρ 0 + (-1 * ((Int32.ofInt (xop 0 (ρ 1) (ρ 2))).toInt8.toInt32.toInt) + 0)
      (try rw [h0]); omega
    · show 0 ≤ 1 * (xop 1 (xop 0 (ρ 1) (ρ 2)) 255) + 0
      (try rw [h0]); omega
    · show 0 ≤ 255 * ρ 0 + (-1 * (xop 1 (xop 0 (ρ 1) (ρ 2)) 255) + 0)
      (try rw [h0]); omega
  · show sI (sU (sU (sU (sU (sU (sU (sU (sU (sU (sU (sU M 91 249 (1 * ρ 0 + 0)) 91 250 (1 * ρ 1 + 0)) 91 251 (1 * ρ 2 + 0)) 91 252 (1 * (xop 0 (ρ 1) (ρ 2)) + 0)) 91 253 (1 * (xop 1 (xop 0 (ρ 1) (ρ 2)) 1) + 0)) 91 255 (0)) 91 256 (1 * (xop 1 0 (M 91 243)) + 0)) 91 257 (1 * (xop 1 (xop 0 (ρ 1) (ρ 2)) 255) + 0)) 91 259 (1 * ρ 0 + 0)) 91 248 (1 * (xop 0 (ρ 1) (ρ 2)) + 0)) 91 258 (1 * ((Int32.ofInt (xop 0 (ρ 1) (ρ 2))).toInt8.toInt32.toInt) + 0))
    obtain ⟨W, hW⟩ : ∃ W, W = (sU (sU (sU (sU (sU (sU (sU (sU (sU (sU (sU M 91 249 (1 * ρ 0 + 0)) 91 250 (1 * ρ 1 + 0)) 91 251 (1 * ρ 2 + 0)) 91 252 (1 * (xop 0 (ρ 1) (ρ 2)) + 0)) 91 253 (1 * (xop 1 (xop 0 (ρ 1) (ρ 2)) 1) + 0)) 91 255 (0)) 91 256 (1 * (xop 1 0 (M 91 243)) + 0)) 91 257 (1 * (xop 1 (xop 0 (ρ 1) (ρ 2)) 255) + 0)) 91 259 (1 * ρ 0 + 0)) 91 248 (1 * (xop 0 (ρ 1) (ρ 2)) + 0)) 91 258 (1 * ((Int32.ofInt (xop 0 (ρ 1) (ρ 2))).toInt8.toInt32.toInt) + 0)) := ⟨_, rfl⟩
    rw [← hW]
    have base : sI0 W := by
      rw [hW]
      exact (si_u0 (si_u0 (si_u0 (si_u0 (si_u0 (si_u0 (si_u0 (si_u0 (si_u0 (si_u0 (si_u0 hI.1 (fun r hr => by cases hr)) (fun r hr => by cases hr)) (fun r hr => by cases hr)) (fun r hr => by cases hr)) (fun r hr => by cases hr)) (fun r hr => by cases hr)) (fun r hr => by cases hr)) (fun r hr => by cases hr)) (fun r hr => by cases hr)) (fun r hr => by cases hr)) (fun r hr => by cases hr))
    have k2 : XI2 W := by
      rw [hW]
      exact (xi2_u rfl (xi2_u rfl (xi2_u rfl (xi2_u rfl (xi2_u rfl (xi2_u rfl (xi2_u rfl (xi2_u rfl (xi2_u rfl (xi2_u rfl (xi2_u rfl hI.2.1)))))))))))
    have k3 : XI3 W := by
      rw [hW]
      exact (xi3_u rfl (xi3_u rfl (xi3_u rfl (xi3_u rfl (xi3_u rfl (xi3_u rfl (xi3_u rfl (xi3_u rfl (xi3_u rfl (xi3_u rfl (xi3_u rfl hI.2.2.1)))))))))))
    have kXA : XA W := by
      rw [hW]
      exact (uXA rfl (uXA rfl (uXA rfl (uXA rfl (uXA rfl (uXA rfl (uXA rfl (uXA rfl (uXA rfl (uXA rfl (uXA rfl hI.2.2.2.1)))))))))))
    have k_xN1 : xN1 W := by
      rw [hW]
      exact (uxN1 rfl (uxN1 rfl (uxN1 rfl (uxN1 rfl (uxN1 rfl (uxN1 rfl (uxN1 rfl (uxN1 rfl (uxN1 rfl (uxN1 rfl (uxN1 rfl hI.2.2.2.2.1)))))))))))
    have k_xN2 : xN2 W := by
      rw [hW]
      exact (uxN2 rfl (uxN2 rfl (uxN2 rfl (uxN2 rfl (uxN2 rfl (uxN2 rfl (uxN2 rfl (uxN2 rfl (uxN2 rfl (uxN2 rfl (uxN2 rfl hI.2.2.2.2.2.1)))))))))))
    have k_xN3 : xN3 W := by
      rw [hW]
      exact (uxN3 rfl (uxN3 rfl (uxN3 rfl (uxN3 rfl (uxN3 rfl (uxN3 rfl (uxN3 rfl (uxN3 rfl (uxN3 rfl (uxN3 rfl (uxN3 rfl hI.2.2.2.2.2.2.1)))))))))))
    have k_xN4 : xN4 W := by
      rw [hW]
      exact (uxN4 rfl (uxN4 rfl (uxN4 rfl (uxN4 rfl (uxN4 rfl (uxN4 rfl (uxN4 rfl (uxN4 rfl (uxN4 rfl (uxN4 rfl (uxN4 rfl hI.2.2.2.2.2.2.2.1)))))))))))
    have k_xN5 : xN5 W := by
      rw [hW]
      exact (uxN5 rfl (uxN5 rfl (uxN5 rfl (uxN5 rfl (uxN5 rfl (uxN5 rfl (uxN5 rfl (uxN5 rfl (uxN5 rfl (uxN5 rfl (uxN5 rfl hI.2.2.2.2.2.2.2.2.1)))))))))))
    have k_xN6 : xN6 W := by
      rw [hW]
      exact (uxN6 rfl (uxN6 rfl (uxN6 rfl (uxN6 rfl (uxN6 rfl (uxN6 rfl (uxN6 rfl (uxN6 rfl (uxN6 rfl (uxN6 rfl (uxN6 rfl hI.2.2.2.2.2.2.2.2.2.1)))))))))))
    have k_xH1 : xH1 W := by
      rw [hW]
      exact (uxH1 rfl (uxH1 rfl (uxH1 rfl (uxH1 rfl (uxH1 rfl (uxH1 rfl (uxH1 rfl (uxH1 rfl (uxH1 rfl (uxH1 rfl (uxH1 rfl hI.2.2.2.2.2.2.2.2.2.2.1)))))))))))
    have k_xK1 : xK1 W := by
      rw [hW]
      exact (uxK1 rfl (uxK1 rfl (uxK1 rfl (uxK1 rfl (uxK1 rfl (uxK1 rfl (uxK1 rfl (uxK1 rfl (uxK1 rfl (uxK1 rfl (uxK1 rfl hI.2.2.2.2.2.2.2.2.2.2.2.1)))))))))))
    have k_xC1 : xC1 W := by
      rw [hW]
      exact (uxC1 rfl (uxC1 rfl (uxC1 rfl (uxC1 rfl (uxC1 rfl (uxC1 rfl (uxC1 rfl (uxC1 rfl (uxC1 rfl (uxC1 rfl (uxC1 rfl hI.2.2.2.2.2.2.2.2.2.2.2.2.1)))))))))))
    have k_xRW : xRW W := by
      rw [hW]
      exact (uxRW rfl (uxRW rfl (uxRW rfl (uxRW rfl (uxRW rfl (uxRW rfl (uxRW rfl (uxRW rfl (uxRW rfl (uxRW rfl (uxRW rfl hI.2.2.2.2.2.2.2.2.2.2.2.2.2.1)))))))))))
    have k_xWT : xWT W := by
      rw [hW]
      exact (uxWT rfl (uxWT rfl (uxWT rfl (uxWT rfl (uxWT rfl (uxWT rfl (uxWT rfl (uxWT rfl (uxWT rfl (uxWT rfl (uxWT rfl hI.2.2.2.2.2.2.2.2.2.2.2.2.2.2.1)))))))))))
    have k_xCU : xCU W := by
      rw [hW]
      exact (uxCU rfl (uxCU rfl (uxCU rfl (uxCU rfl (uxCU rfl (uxCU rfl (uxCU rfl (uxCU rfl (uxCU rfl (uxCU rfl (uxCU rfl hI.2.2.2.2.2.2.2.2.2.2.2.2.2.2.2.1)))))))))))
    have k_xG2 : xG2 W := by
      rw [hW]
      exact (uxG2 rfl (uxG2 rfl (uxG2 rfl (uxG2 rfl (uxG2 rfl (uxG2 rfl (uxG2 rfl (uxG2 rfl (uxG2 rfl (uxG2 rfl (uxG2 rfl hI.2.2.2.2.2.2.2.2.2.2.2.2.2.2.2.2.1)))))))))))
    have k_xG3 : xG3 W := by
      rw [hW]
      exact (uxG3 rfl (uxG3 rfl (uxG3 rfl (uxG3 rfl (uxG3 rfl (uxG3 rfl (uxG3 rfl (uxG3 rfl (uxG3 rfl (uxG3 rfl (uxG3 rfl hI.2.2.2.2.2.2.2.2.2.2.2.2.2.2.2.2.2.1)))))))))))
    have k_xG4 : xG4 W := by
      rw [hW]
      exact (uxG4 rfl (uxG4 rfl (uxG4 rfl (uxG4 rfl (uxG4 rfl (uxG4 rfl (uxG4 rfl (uxG4 rfl (uxG4 rfl (uxG4 rfl (uxG4 rfl hI.2.2.2.2.2.2.2.2.2.2.2.2.2.2.2.2.2.2.1)))))))))))
    have k_xG5 : xG5 W := by
      rw [hW]
      exact (uxG5 rfl (uxG5 rfl (uxG5 rfl (uxG5 rfl (uxG5 rfl (uxG5 rfl (uxG5 rfl (uxG5 rfl (uxG5 rfl (uxG5 rfl (uxG5 rfl hI.2.2.2.2.2.2.2.2.2.2.2.2.2.2.2.2.2.2.2.1)))))))))))
    have k_xG6 : xG6 W := by
      rw [hW]
      exact (uxG6 rfl (uxG6 rfl (uxG6 rfl (uxG6 rfl (uxG6 rfl (uxG6 rfl (uxG6 rfl (uxG6 rfl (uxG6 rfl (uxG6 rfl (uxG6 rfl hI.2.2.2.2.2.2.2.2.2.2.2.2.2.2.2.2.2.2.2.2.1)))))))))))
    have k_xS1 : xS1 W := by
      rw [hW]
      exact (uxS1 rfl (uxS1 rfl (uxS1 rfl (uxS1 rfl (uxS1 rfl (uxS1 rfl (uxS1 rfl (uxS1 rfl (uxS1 rfl (uxS1 rfl (uxS1 rfl hI.2.2.2.2.2.2.2.2.2.2.2.2.2.2.2.2.2.2.2.2.2.1)))))))))))
    have k_xS2 : xS2 W := by
      rw [hW]
      exact (uxS2 rfl (uxS2 rfl (uxS2 rfl (uxS2 rfl (uxS2 rfl (uxS2 rfl (uxS2 rfl (uxS2 rfl (uxS2 rfl (uxS2 rfl (uxS2 rfl hI.2.2.2.2.2.2.2.2.2.2.2.2.2.2.2.2.2.2.2.2.2.2.1)))))))))))
    have k_xS3 : xS3 W := by
      rw [hW]
      exact (uxS3 rfl (uxS3 rfl (uxS3 rfl (uxS3 rfl (uxS3 rfl (uxS3 rfl (uxS3 rfl (uxS3 rfl (uxS3 rfl (uxS3 rfl (uxS3 rfl hI.2.2.2.2.2.2.2.2.2.2.2.2.2.2.2.2.2.2.2.2.2.2.2.1)))))))))))
    have k_xS4 : xS4 W := by
      rw [hW]
      exact (uxS4 rfl (uxS4 rfl (uxS4 rfl (uxS4 rfl (uxS4 rfl (uxS4 rfl (uxS4 rfl (uxS4 rfl (uxS4 rfl (uxS4 rfl (uxS4 rfl hI.2.2.2.2.2.2.2.2.2.2.2.2.2.2.2.2.2.2.2.2.2.2.2.2.1)))))))))))
    have k_xS5 : xS5 W := by
      rw [hW]
      exact (uxS5 rfl (uxS5 rfl (uxS5 rfl (uxS5 rfl (uxS5 rfl (uxS5 rfl (uxS5 rfl (uxS5 rfl (uxS5 rfl (uxS5 rfl (uxS5 rfl hI.2.2.2.2.2.2.2.2.2.2.2.2.2.2.2.2.2.2.2.2.2.2.2.2.2.1)))))))))))
    have k_xS6 : xS6 W := by
      rw [hW]
      exact (uxS6 rfl (uxS6 rfl (uxS6 rfl (uxS6 rfl (uxS6 rfl (uxS6 rfl (uxS6 rfl (uxS6 rfl (uxS6 rfl (uxS6 rfl (uxS6 rfl hI.2.2.2.2.2.2.2.2.2.2.2.2.2.2.2.2.2.2.2.2.2.2.2.2.2.2.1)))))))))))
    have k_xS7 : xS7 W := by
      rw [hW]
      exact (uxS7 rfl (uxS7 rfl (uxS7 rfl (uxS7 rfl (uxS7 rfl (uxS7 rfl (uxS7 rfl (uxS7 rfl (uxS7 rfl (uxS7 rfl (uxS7 rfl hI.2.2.2.2.2.2.2.2.2.2.2.2.2.2.2.2.2.2.2.2.2.2.2.2.2.2.2.1)))))))))))
    have k_xS8 : xS8 W := by
      rw [hW]
      exact (uxS8 rfl (uxS8 rfl (uxS8 rfl (uxS8 rfl (uxS8 rfl (uxS8 rfl (uxS8 rfl (uxS8 rfl (uxS8 rfl (uxS8 rfl (uxS8 rfl hI.2.2.2.2.2.2.2.2.2.2.2.2.2.2.2.2.2.2.2.2.2.2.2.2.2.2.2.2.1)))))))))))
    have k_xS9 : xS9 W := by
      rw [hW]
      exact (uxS9 rfl (uxS9 rfl (uxS9 rfl (uxS9 rfl (uxS9 rfl (uxS9 rfl (uxS9 rfl (uxS9 rfl (uxS9 rfl (uxS9 rfl (uxS9 rfl hI.2.2.2.2.2.2.2.2.2.2.2.2.2.2.2.2.2.2.2.2.2.2.2.2.2.2.2.2.2.1)))))))))))
    have k_xSA : xSA W := by
      rw [hW]
      exact (uxSA rfl (uxSA rfl (uxSA rfl (uxSA rfl (uxSA rfl (uxSA rfl (uxSA rfl (uxSA rfl (uxSA rfl (uxSA rfl (uxSA rfl hI.2.2.2.2.2.2.2.2.2.2.2.2.2.2.2.2.2.2.2.2.2.2.2.2.2.2.2.2.2.2.1)))))))))))
    have k_xSG : xSG W := by
      rw [hW]
      exact (uxSG rfl (uxSG rfl (uxSG rfl (uxSG rfl (uxSG rfl (uxSG rfl (uxSG rfl (uxSG rfl (uxSG rfl (uxSG rfl (uxSG rfl hI.2.2.2.2.2.2.2.2.2.2.2.2.2.2.2.2.2.2.2.2.2.2.2.2.2.2.2.2.2.2.2.1)))))))))))
    have k_xSF : xSF W := by
      rw [hW]
      exact (uxSF rfl (uxSF rfl (uxSF rfl (uxSF rfl (uxSF rfl (uxSF rfl (uxSF rfl (uxSF rfl (uxSF rfl (uxSF rfl (uxSF rfl hI.2.2.2.2.2.2.2.2.2.2.2.2.2.2.2.2.2.2.2.2.2.2.2.2.2.2.2.2.2.2.2.2.1)))))))))))
    have k_xSB : xSB W := by
      rw [hW]
      exact (uxSB rfl (uxSB rfl (uxSB rfl (uxSB rfl (uxSB rfl (uxSB rfl (uxSB rfl (uxSB rfl (uxSB rfl (uxSB rfl (uxSB rfl hI.2.2.2.2.2.2.2.2.2.2.2.2.2.2.2.2.2.2.2.2.2.2.2.2.2.2.2.2.2.2.2.2.2.1)))))))))))
    have k_xSC : xSC W := by
      rw [hW]
      exact (uxSC rfl (uxSC rfl (uxSC rfl (uxSC rfl (uxSC rfl (uxSC rfl (uxSC rfl (uxSC rfl (uxSC rfl (uxSC rfl (uxSC rfl hI.2.2.2.2.2.2.2.2.2.2.2.2.2.2.2.2.2.2.2.2.2.2.2.2.2.2.2.2.2.2.2.2.2.2.1)))))))))))
    have k_xSD : xSD W := by
      rw [hW]
      exact (uxSD rfl (uxSD rfl (uxSD rfl (uxSD rfl (uxSD rfl (uxSD rfl (uxSD rfl (uxSD rfl (uxSD rfl (uxSD rfl (uxSD rfl hI.2.2.2.2.2.2.2.2.2.2.2.2.2.2.2.2.2.2.2.2.2.2.2.2.2.2.2.2.2.2.2.2.2.2.2.1)))))))))))
    have k_xSE : xSE W := by
      have r91_249 : W 91 249 = 1 * ρ 0 + 0 := by rw [hW, sU_ne (fun z => by omega), sU_ne (fun z => by omega), sU_ne (fun z => by omega), sU_ne (fun z => by omega), sU_ne (fun z => by omega), sU_ne (fun z => by omega), sU_ne (fun z => by omega), sU_ne (fun z => by omega), sU_ne (fun z => by omega), sU_ne (fun z => by omega), sU_at]
      have r91_250 : W 91 250 = 1 * ρ 1 + 0 := by rw [hW, sU_ne (fun z => by omega), sU_ne (fun z => by omega), sU_ne (fun z => by omega), sU_ne (fun z => by omega), sU_ne (fun z => by omega), sU_ne (fun z => by omega), sU_ne (fun z => by omega), sU_ne (fun z => by omega), sU_ne (fun z => by omega), sU_at]
      have r91_251 : W 91 251 = 1 * ρ 2 + 0 := by rw [hW, sU_ne (fun z => by omega), sU_ne (fun z => by omega), sU_ne (fun z => by omega), sU_ne (fun z => by omega), sU_ne (fun z => by omega), sU_ne (fun z => by omega), sU_ne (fun z => by omega), sU_ne (fun z => by omega), sU_at]
      have r91_252 : W 91 252 = 1 * (xop 0 (ρ 1) (ρ 2)) + 0 := by rw [hW, sU_ne (fun z => by omega), sU_ne (fun z => by omega), sU_ne (fun z => by omega), sU_ne (fun z => by omega), sU_ne (fun z => by omega), sU_ne (fun z => by omega), sU_ne (fun z => by omega), sU_at]
      have r91_253 : W 91 253 = 1 * (xop 1 (xop 0 (ρ 1) (ρ 2)) 1) + 0 := by rw [hW, sU_ne (fun z => by omega), sU_ne (fun z => by omega), sU_ne (fun z => by omega), sU_ne (fun z => by omega), sU_ne (fun z => by omega), sU_ne (fun z => by omega), sU_at]
      have r91_255 : W 91 255 = 0 := by rw [hW, sU_ne (fun z => by omega), sU_ne (fun z => by omega), sU_ne (fun z => by omega), sU_ne (fun z => by omega), sU_ne (fun z => by omega), sU_at]
      have r91_256 : W 91 256 = 1 * (xop 1 0 (M 91 243)) + 0 := by rw [hW, sU_ne (fun z => by omega), sU_ne (fun z => by omega), sU_ne (fun z => by omega), sU_ne (fun z => by omega), sU_at]
      have r91_243 : W 91 243 = M 91 243 := by rw [hW, sU_ne (fun z => by omega), sU_ne (fun z => by omega), sU_ne (fun z => by omega), sU_ne (fun z => by omega), sU_ne (fun z => by omega), sU_ne (fun z => by omega), sU_ne (fun z => by omega), sU_ne (fun z => by omega), sU_ne (fun z => by omega), sU_ne (fun z => by omega), sU_ne (fun z => by omega)]
      have r91_257 : W 91 257 = 1 * (xop 1 (xop 0 (ρ 1) (ρ 2)) 255) + 0 := by rw [hW, sU_ne (fun z => by omega), sU_ne (fun z => by omega), sU_ne (fun z => by omega), sU_at]
      intro h
      rw [r91_243, r91_250, r91_251, r91_252, r91_253, r91_255, r91_256, r91_257]
      rw [show (1 * ρ 1 + 0 : Int) = ρ 1 by omega, show (1 * ρ 2 + 0 : Int) = ρ 2 by omega, show (1 * (xop 0 (ρ 1) (ρ 2)) + 0 : Int) = xop 0 (ρ 1) (ρ 2) by omega]
      exact ⟨rfl, by omega, by omega, by omega⟩
    have k_xSW : xSW W := by
      rw [hW]
      exact (uxSW rfl (uxSW rfl (uxSW rfl (uxSW rfl (uxSW rfl (uxSW rfl (uxSW rfl (uxSW rfl (uxSW rfl (uxSW rfl (uxSW rfl hI.2.2.2.2.2.2.2.2.2.2.2.2.2.2.2.2.2.2.2.2.2.2.2.2.2.2.2.2.2.2.2.2.2.2.2.2.2.1)))))))))))
    have k_xST : xST W := by
      rw [hW]
      exact (uxST rfl (uxST rfl (uxST rfl (uxST rfl (uxST rfl (uxST rfl (uxST rfl (uxST rfl (uxST rfl (uxST rfl (uxST rfl hI.2.2.2.2.2.2.2.2.2.2.2.2.2.2.2.2.2.2.2.2.2.2.2.2.2.2.2.2.2.2.2.2.2.2.2.2.2.2.1)))))))))))
    have k_xSP : xSP W := by
      rw [hW]
      exact (uxSP rfl (uxSP rfl (uxSP rfl (uxSP rfl (uxSP rfl (uxSP rfl (uxSP rfl (uxSP rfl (uxSP rfl (uxSP rfl (uxSP rfl hI.2.2.2.2.2.2.2.2.2.2.2.2.2.2.2.2.2.2.2.2.2.2.2.2.2.2.2.2.2.2.2.2.2.2.2.2.2.2.2.1)))))))))))
    have k_xSL : xSL W := by
      rw [hW]
      exact (uxSL rfl (uxSL rfl (uxSL rfl (uxSL rfl (uxSL rfl (uxSL rfl (uxSL rfl (uxSL rfl (uxSL rfl (uxSL rfl (uxSL rfl hI.2.2.2.2.2.2.2.2.2.2.2.2.2.2.2.2.2.2.2.2.2.2.2.2.2.2.2.2.2.2.2.2.2.2.2.2.2.2.2.2.1)))))))))))
    have k_xSM : xSM W := by
      rw [hW]
      exact (uxSM rfl (uxSM rfl (uxSM rfl (uxSM rfl (uxSM rfl (uxSM rfl (uxSM rfl (uxSM rfl (uxSM rfl (uxSM rfl (uxSM rfl hI.2.2.2.2.2.2.2.2.2.2.2.2.2.2.2.2.2.2.2.2.2.2.2.2.2.2.2.2.2.2.2.2.2.2.2.2.2.2.2.2.2.1)))))))))))
    have k_xSI : xSI W := by
      have r91_259 : W 91 259 = 1 * ρ 0 + 0 := by rw [hW, sU_ne (fun z => by omega), sU_ne (fun z => by omega), sU_at]
      have r91_258 : W 91 258 = 1 * ((Int32.ofInt (xop 0 (ρ 1) (ρ 2))).toInt8.toInt32.toInt) + 0 := by rw [hW, sU_at]
      have r91_248 : W 91 248 = 1 * (xop 0 (ρ 1) (ρ 2)) + 0 := by rw [hW, sU_ne (fun z => by omega), sU_at]
      intro h
      rw [r91_258, r91_248, show (1 * (xop 0 (ρ 1) (ρ 2)) + 0 : Int) = xop 0 (ρ 1) (ρ 2) by omega]
      omega
    have k_XC : XC W := ⟨k_xS1, k_xS2, k_xS3, k_xS4, k_xS5, k_xS6, k_xS7, k_xS8, k_xS9, k_xSA, k_xSG, k_xSF, k_xSB, k_xSC, k_xSD, k_xSE, k_xSW, k_xST, k_xSP, k_xSL, k_xSM, k_xSI⟩
    have kXB : XB W := ⟨k_xN1, k_xN2, k_xN3, k_xN4, k_xN5, k_xN6, k_xH1, k_xK1, k_xC1, k_xRW, k_xWT, k_xCU, k_xG2, k_xG3, k_xG4, k_xG5, k_xG6, k_XC⟩
    exact ⟨base, k2, k3, kXA, kXB⟩
-- fdSh0
def xr_604 : qRu := (2, [[(2147483648, 0), (1, 1)], [(2147483647, 0), (-1, 1)]], [], [], [(91, 249, [(1, 0)]), (91, 250, [(1, 1)]), (91, 251, []), (91, 252, [(1, 1)]), (91, 253, [(1, 2)]), (91, 255, []), (91, 256, [(1, 3)]), (91, 257, [(1, 4)]), (91, 259, [(1, 0)]), (91, 248, [(1, 1)]), (91, 258, [(1, 5)])], [[(128, 0), (1, 5)], [(127, 0), (-1, 5)], [(1, 4)], [(255, 0), (-1, 4)]])
theorem xo_604 : qRok xr_604 := by
  intro ρ M h0 hf hm hI
  have f0 := hf [(2147483648, 0), (1, 1)] (by decide)
  have f1 := hf [(2147483647, 0), (-1, 1)] (by decide)
  simp only [qD, h0] at f0 f1
  have qxSE := hI.2.2.2.2.2.2.2.2.2.2.2.2.2.2.2.2.2.2.2.2.2.2.2.2.2.2.2.2.2.2.2.2.2.2.2.2.1
  have qxSI := hI.2.2.2.2.2.2.2.2.2.2.2.2.2.2.2.2.2.2.2.2.2.2.2.2.2.2.2.2.2.2.2.2.2.2.2.2.2.2.2.2.2.2
  have hz := zn_and (Int32.ofInt (ρ 1)) (m := 255) (by decide) (by decide)
  have hz : 0 ≤ xop 1 (ρ 1) 255 ∧ xop 1 (ρ 1) 255 ≤ 255 := hz
  have hi := xi2b (ρ 1)
  have hi2 : -128 ≤ (Int32.ofInt (ρ 1)).toInt8.toInt32.toInt ∧ (Int32.ofInt (ρ 1)).toInt8.toInt32.toInt ≤ 127 := by
    rw [hi]
    unfold tSn
    split <;> omega
  have hs0 : xop 0 (ρ 1) 0 = ρ 1 := xop_s0 (by omega) (by omega)
  refine ⟨fun a => cond (Nat.blt a 2) (ρ a) (([xop 1 (ρ 1) 1, xop 1 0 (M 91 243), xop 1 (ρ 1) 255, (Int32.ofInt (ρ 1)).toInt8.toInt32.toInt] : List Int).getD (a - 2) 0), fun a ha => ?_, fun f h => ?_, ?_⟩
  · show cond (Nat.blt a 2) (ρ a) _ = ρ a
    rw [show Nat.blt a 2 = true from Nat.ble_eq_true_of_le ha]; rfl
  · have h : f ∈ ([[(128, 0), (1, 5)], [(127, 0), (-1, 5)], [(1, 4)], [(255, 0), (-1, 4)]] : List qF) := h
    simp only [List.mem_cons, List.not_mem_nil, or_false] at h
    rcases h with rfl | rfl | rfl | rfl
    · show 0 ≤ 128 * ρ 0 + (1 * ((Int32.ofInt (ρ 1)).toInt8.toInt32.toInt) + 0)
      (try rw [h0]); omega
    · show 0 ≤ 127 * ρ 0 + (-1 * ((Int32.ofInt (ρ 1)).toInt8.toInt32.toInt) + 0)
      (try rw [h0]); omega
    · show 0 ≤ 1 * (xop 1 (ρ 1) 255) + 0
      (try rw [h0]); omega
    · show 0 ≤ 255 * ρ 0 + (-1 * (xop 1 (ρ 1) 255) + 0)
      (try rw [h0]); omega
  · show sI (sU (sU (sU (sU (sU (sU (sU (sU (sU (sU (sU M 91 249 (1 * ρ 0 + 0)) 91 250 (1 * ρ 1 + 0)) 91 251 (0)) 91 252 (1 * ρ 1 + 0)) 91 253 (1 * (xop 1 (ρ 1) 1) + 0)) 91 255 (0)) 91 256 (1 * (xop 1 0 (M 91 243)) + 0)) 91 257 (1 * (xop 1 (ρ 1) 255) + 0)) 91 259 (1 * ρ 0 + 0)) 91 248 (1 * ρ 1 + 0)) 91 258 (1 * ((Int32.ofInt (ρ 1)).toInt8.toInt32.toInt) + 0))
    obtain ⟨W, hW⟩ : ∃ W, W = (sU (sU (sU (sU (sU (sU (sU (sU (sU (sU (sU M 91 249 (1 * ρ 0 + 0)) 91 250 (1 * ρ 1 + 0)) 91 251 (0)) 91 252 (1 * ρ 1 + 0)) 91 253 (1 * (xop 1 (ρ 1) 1) + 0)) 91 255 (0)) 91 256 (1 * (xop 1 0 (M 91 243)) + 0)) 91 257 (1 * (xop 1 (ρ 1) 255) + 0)) 91 259 (1 * ρ 0 + 0)) 91 248 (1 * ρ 1 + 0)) 91 258 (1 * ((Int32.ofInt (ρ 1)).toInt8.toInt32.toInt) + 0)) := ⟨_, rfl⟩
    rw [← hW]
    have base : sI0 W := by
      rw [hW]
      exact (si_u0 (si_u0 (si_u0 (si_u0 (si_u0 (si_u0 (si_u0 (si_u0 (si_u0 (si_u0 (si_u0 hI.1 (fun r hr => by cases hr)) (fun r hr => by cases hr)) (fun r hr => by cases hr)) (fun r hr => by cases hr)) (fun r hr => by cases hr)) (fun r hr => by cases hr)) (fun r hr => by cases hr)) (fun r hr => by cases hr)) (fun r hr => by cases hr)) (fun r hr => by cases hr)) (fun r hr => by cases hr))
    have k2 : XI2 W := by
      rw [hW]
      exact (xi2_u rfl (xi2_u rfl (xi2_u rfl (xi2_u rfl (xi2_u rfl (xi2_u rfl (xi2_u rfl (xi2_u rfl (xi2_u rfl (xi2_u rfl (xi2_u rfl hI.2.1)))))))))))
    have k3 : XI3 W := by
      rw [hW]
      exact (xi3_u rfl (xi3_u rfl (xi3_u rfl (xi3_u rfl (xi3_u rfl (xi3_u rfl (xi3_u rfl (xi3_u rfl (xi3_u rfl (xi3_u rfl (xi3_u rfl hI.2.2.1)))))))))))
    have kXA : XA W := by
      rw [hW]
      exact (uXA rfl (uXA rfl (uXA rfl (uXA rfl (uXA rfl (uXA rfl (uXA rfl (uXA rfl (uXA rfl (uXA rfl (uXA rfl hI.2.2.2.1)))))))))))
    have k_xN1 : xN1 W := by
      rw [hW]
      exact (uxN1 rfl (uxN1 rfl (uxN1 rfl (uxN1 rfl (uxN1 rfl (uxN1 rfl (uxN1 rfl (uxN1 rfl (uxN1 rfl (uxN1 rfl (uxN1 rfl hI.2.2.2.2.1)))))))))))
    have k_xN2 : xN2 W := by
      rw [hW]
      exact (uxN2 rfl (uxN2 rfl (uxN2 rfl (uxN2 rfl (uxN2 rfl (uxN2 rfl (uxN2 rfl (uxN2 rfl (uxN2 rfl (uxN2 rfl (uxN2 rfl hI.2.2.2.2.2.1)))))))))))
    have k_xN3 : xN3 W := by
      rw [hW]
      exact (uxN3 rfl (uxN3 rfl (uxN3 rfl (uxN3 rfl (uxN3 rfl (uxN3 rfl (uxN3 rfl (uxN3 rfl (uxN3 rfl (uxN3 rfl (uxN3 rfl hI.2.2.2.2.2.2.1)))))))))))
    have k_xN4 : xN4 W := by
      rw [hW]
      exact (uxN4 rfl (uxN4 rfl (uxN4 rfl (uxN4 rfl (uxN4 rfl (uxN4 rfl (uxN4 rfl (uxN4 rfl (uxN4 rfl (uxN4 rfl (uxN4 rfl hI.2.2.2.2.2.2.2.1)))))))))))
    have k_xN5 : xN5 W := by
      rw [hW]
      exact (uxN5 rfl (uxN5 rfl (uxN5 rfl (uxN5 rfl (uxN5 rfl (uxN5 rfl (uxN5 rfl (uxN5 rfl (uxN5 rfl (uxN5 rfl (uxN5 rfl hI.2.2.2.2.2.2.2.2.1)))))))))))
    have k_xN6 : xN6 W := by
      rw [hW]
      exact (uxN6 rfl (uxN6 rfl (uxN6 rfl (uxN6 rfl (uxN6 rfl (uxN6 rfl (uxN6 rfl (uxN6 rfl (uxN6 rfl (uxN6 rfl (uxN6 rfl hI.2.2.2.2.2.2.2.2.2.1)))))))))))
    have k_xH1 : xH1 W := by
      rw [hW]
      exact (uxH1 rfl (uxH1 rfl (uxH1 rfl (uxH1 rfl (uxH1 rfl (uxH1 rfl (uxH1 rfl (uxH1 rfl (uxH1 rfl (uxH1 rfl (uxH1 rfl hI.2.2.2.2.2.2.2.2.2.2.1)))))))))))
    have k_xK1 : xK1 W := by
      rw [hW]
      exact (uxK1 rfl (uxK1 rfl (uxK1 rfl (uxK1 rfl (uxK1 rfl (uxK1 rfl (uxK1 rfl (uxK1 rfl (uxK1 rfl (uxK1 rfl (uxK1 rfl hI.2.2.2.2.2.2.2.2.2.2.2.1)))))))))))
    have k_xC1 : xC1 W := by
      rw [hW]
      exact (uxC1 rfl (uxC1 rfl (uxC1 rfl (uxC1 rfl (uxC1 rfl (uxC1 rfl (uxC1 rfl (uxC1 rfl (uxC1 rfl (uxC1 rfl (uxC1 rfl hI.2.2.2.2.2.2.2.2.2.2.2.2.1)))))))))))
    have k_xRW : xRW W := by
      rw [hW]
      exact (uxRW rfl (uxRW rfl (uxRW rfl (uxRW rfl (uxRW rfl (uxRW rfl (uxRW rfl (uxRW rfl (uxRW rfl (uxRW rfl (uxRW rfl hI.2.2.2.2.2.2.2.2.2.2.2.2.2.1)))))))))))
    have k_xWT : xWT W := by
      rw [hW]
      exact (uxWT rfl (uxWT rfl (uxWT rfl (uxWT rfl (uxWT rfl (uxWT rfl (uxWT rfl (uxWT rfl (uxWT rfl (uxWT rfl (uxWT rfl hI.2.2.2.2.2.2.2.2.2.2.2.2.2.2.1)))))))))))
    have k_xCU : xCU W := by
      rw [hW]
      exact (uxCU rfl (uxCU rfl (uxCU rfl (uxCU rfl (uxCU rfl (uxCU rfl (uxCU rfl (uxCU rfl (uxCU rfl (uxCU rfl (uxCU rfl hI.2.2.2.2.2.2.2.2.2.2.2.2.2.2.2.1)))))))))))
    have k_xG2 : xG2 W := by
      rw [hW]
      exact (uxG2 rfl (uxG2 rfl (uxG2 rfl (uxG2 rfl (uxG2 rfl (uxG2 rfl (uxG2 rfl (uxG2 rfl (uxG2 rfl (uxG2 rfl (uxG2 rfl hI.2.2.2.2.2.2.2.2.2.2.2.2.2.2.2.2.1)))))))))))
    have k_xG3 : xG3 W := by
      rw [hW]
      exact (uxG3 rfl (uxG3 rfl (uxG3 rfl (uxG3 rfl (uxG3 rfl (uxG3 rfl (uxG3 rfl (uxG3 rfl (uxG3 rfl (uxG3 rfl (uxG3 rfl hI.2.2.2.2.2.2.2.2.2.2.2.2.2.2.2.2.2.1)))))))))))
    have k_xG4 : xG4 W := by
      rw [hW]
      exact (uxG4 rfl (uxG4 rfl (uxG4 rfl (uxG4 rfl (uxG4 rfl (uxG4 rfl (uxG4 rfl (uxG4 rfl (uxG4 rfl (uxG4 rfl (uxG4 rfl hI.2.2.2.2.2.2.2.2.2.2.2.2.2.2.2.2.2.2.1)))))))))))
    have k_xG5 : xG5 W := by
      rw [hW]
      exact (uxG5 rfl (uxG5 rfl (uxG5 rfl (uxG5 rfl (uxG5 rfl (uxG5 rfl (uxG5 rfl (uxG5 rfl (uxG5 rfl (uxG5 rfl (uxG5 rfl hI.2.2.2.2.2.2.2.2.2.2.2.2.2.2.2.2.2.2.2.1)))))))))))
    have k_xG6 : xG6 W := by
      rw [hW]
      exact (uxG6 rfl (uxG6 rfl (uxG6 rfl (uxG6 rfl (uxG6 rfl (uxG6 rfl (uxG6 rfl (uxG6 rfl (uxG6 rfl (uxG6 rfl (uxG6 rfl hI.2.2.2.2.2.2.2.2.2.2.2.2.2.2.2.2.2.2.2.2.1)))))))))))
    have k_xS1 : xS1 W := by
      rw [hW]
      exact (uxS1 rfl (uxS1 rfl (uxS1 rfl (uxS1 rfl (uxS1 rfl (uxS1 rfl (uxS1 rfl (uxS1 rfl (uxS1 rfl (uxS1 rfl (uxS1 rfl hI.2.2.2.2.2.2.2.2.2.2.2.2.2.2.2.2.2.2.2.2.2.1)))))))))))
    have k_xS2 : xS2 W := by
      rw [hW]
      exact (uxS2 rfl (uxS2 rfl (uxS2 rfl (uxS2 rfl (uxS2 rfl (uxS2 rfl (uxS2 rfl (uxS2 rfl (uxS2 rfl (uxS2 rfl (uxS2 rfl hI.2.2.2.2.2.2.2.2.2.2.2.2.2.2.2.2.2.2.2.2.2.2.1)))))))))))
    have k_xS3 : xS3 W := by
      rw [hW]
      exact (uxS3 rfl (uxS3 rfl (uxS3 rfl (uxS3 rfl (uxS3 rfl (uxS3 rfl (uxS3 rfl (uxS3 rfl (uxS3 rfl (uxS3 rfl (uxS3 rfl hI.2.2.2.2.2.2.2.2.2.2.2.2.2.2.2.2.2.2.2.2.2.2.2.1)))))))))))
    have k_xS4 : xS4 W := by
      rw [hW]
      exact (uxS4 rfl (uxS4 rfl (uxS4 rfl (uxS4 rfl (uxS4 rfl (uxS4 rfl (uxS4 rfl (uxS4 rfl (uxS4 rfl (uxS4 rfl (uxS4 rfl hI.2.2.2.2.2.2.2.2.2.2.2.2.2.2.2.2.2.2.2.2.2.2.2.2.1)))))))))))
    have k_xS5 : xS5 W := by
      rw [hW]
      exact (uxS5 rfl (uxS5 rfl (uxS5 rfl (uxS5 rfl (uxS5 rfl (uxS5 rfl (uxS5 rfl (uxS5 rfl (uxS5 rfl (uxS5 rfl (uxS5 rfl hI.2.2.2.2.2.2.2.2.2.2.2.2.2.2.2.2.2.2.2.2.2.2.2.2.2.1)))))))))))
    have k_xS6 : xS6 W := by
      rw [hW]
      exact (uxS6 rfl (uxS6 rfl (uxS6 rfl (uxS6 rfl (uxS6 rfl (uxS6 rfl (uxS6 rfl (uxS6 rfl (uxS6 rfl (uxS6 rfl (uxS6 rfl hI.2.2.2.2.2.2.2.2.2.2.2.2.2.2.2.2.2.2.2.2.2.2.2.2.2.2.1)))))))))))
    have k_xS7 : xS7 W := by
      rw [hW]
      exact (uxS7 rfl (uxS7 rfl (uxS7 rfl (uxS7 rfl (uxS7 rfl (uxS7 rfl (uxS7 rfl (uxS7 rfl (uxS7 rfl (uxS7 rfl (uxS7 rfl hI.2.2.2.2.2.2.2.2.2.2.2.2.2.2.2.2.2.2.2.2.2.2.2.2.2.2.2.1)))))))))))
    have k_xS8 : xS8 W := by
      rw [hW]
      exact (uxS8 rfl (uxS8 rfl (uxS8 rfl (uxS8 rfl (uxS8 rfl (uxS8 rfl (uxS8 rfl (uxS8 rfl (uxS8 rfl (uxS8 rfl (uxS8 rfl hI.2.2.2.2.2.2.2.2.2.2.2.2.2.2.2.2.2.2.2.2.2.2.2.2.2.2.2.2.1)))))))))))
    have k_xS9 : xS9 W := by
      rw [hW]
      exact (uxS9 rfl (uxS9 rfl (uxS9 rfl (uxS9 rfl (uxS9 rfl (uxS9 rfl (uxS9 rfl (uxS9 rfl (uxS9 rfl (uxS9 rfl (uxS9 rfl hI.2.2.2.2.2.2.2.2.2.2.2.2.2.2.2.2.2.2.2.2.2.2.2.2.2.2.2.2.2.1)))))))))))
    have k_xSA : xSA W := by
      rw [hW]
      exact (uxSA rfl (uxSA rfl (uxSA rfl (uxSA rfl (uxSA rfl (uxSA rfl (uxSA rfl (uxSA rfl (uxSA rfl (uxSA rfl (uxSA rfl hI.2.2.2.2.2.2.2.2.2.2.2.2.2.2.2.2.2.2.2.2.2.2.2.2.2.2.2.2.2.2.1)))))))))))
    have k_xSG : xSG W := by
      rw [hW]
      exact (uxSG rfl (uxSG rfl (uxSG rfl (uxSG rfl (uxSG rfl (uxSG rfl (uxSG rfl (uxSG rfl (uxSG rfl (uxSG rfl (uxSG rfl hI.2.2.2.2.2.2.2.2.2.2.2.2.2.2.2.2.2.2.2.2.2.2.2.2.2.2.2.2.2.2.2.1)))))))))))
    have k_xSF : xSF W := by
      rw [hW]
      exact (uxSF rfl (uxSF rfl (uxSF rfl (uxSF rfl (uxSF rfl (uxSF rfl (uxSF rfl (uxSF rfl (uxSF rfl (uxSF rfl (uxSF rfl hI.2.2.2.2.2.2.2.2.2.2.2.2.2.2.2.2.2.2.2.2.2.2.2.2.2.2.2.2.2.2.2.2.1)))))))))))
    have k_xSB : xSB W := by
      rw [hW]
      exact (uxSB rfl (uxSB rfl (uxSB rfl (uxSB rfl (uxSB rfl (uxSB rfl (uxSB rfl (uxSB rfl (uxSB rfl (uxSB rfl (uxSB rfl hI.2.2.2.2.2.2.2.2.2.2.2.2.2.2.2.2.2.2.2.2.2.2.2.2.2.2.2.2.2.2.2.2.2.1)))))))))))
    have k_xSC : xSC W := by
      rw [hW]
      exact (uxSC rfl (uxSC rfl (uxSC rfl (uxSC rfl (uxSC rfl (uxSC rfl (uxSC rfl (uxSC rfl (uxSC rfl (uxSC rfl (uxSC rfl hI.2.2.2.2.2.2.2.2.2.2.2.2.2.2.2.2.2.2.2.2.2.2.2.2.2.2.2.2.2.2.2.2.2.2.1)))))))))))
    have k_xSD : xSD W := by
      rw [hW]
      exact (uxSD rfl (uxSD rfl (uxSD rfl (uxSD rfl (uxSD rfl (uxSD rfl (uxSD rfl (uxSD rfl (uxSD rfl (uxSD rfl (uxSD rfl hI.2.2.2.2.2.2.2.2.2.2.2.2.2.2.2.2.2.2.2.2.2.2.2.2.2.2.2.2.2.2.2.2.2.2.2.1)))))))))))
    have k_xSE : xSE W := by
      have r91_249 : W 91 249 = 1 * ρ 0 + 0 := by rw [hW, sU_ne (fun z => by omega), sU_ne (fun z => by omega), sU_ne (fun z => by omega), sU_ne (fun z => by omega), sU_ne (fun z => by omega), sU_ne (fun z => by omega), sU_ne (fun z => by omega), sU_ne (fun z => by omega), sU_ne (fun z => by omega), sU_ne (fun z => by omega), sU_at]
      have r91_250 : W 91 250 = 1 * ρ 1 + 0 := by rw [hW, sU_ne (fun z => by omega), sU_ne (fun z => by omega), sU_ne (fun z => by omega), sU_ne (fun z => by omega), sU_ne (fun z => by omega), sU_ne (fun z => by omega), sU_ne (fun z => by omega), sU_ne (fun z => by omega), sU_ne (fun z => by omega), sU_at]
      have r91_251 : W 91 251 = 0 := by rw [hW, sU_ne (fun z => by omega), sU_ne (fun z => by omega), sU_ne (fun z => by omega), sU_ne (fun z => by omega), sU_ne (fun z => by omega), sU_ne (fun z => by omega), sU_ne (fun z => by omega), sU_ne (fun z => by omega), sU_at]
      have r91_252 : W 91 252 = 1 * ρ 1 + 0 := by rw [hW, sU_ne (fun z => by omega), sU_ne (fun z => by omega), sU_ne (fun z => by omega), sU_ne (fun z => by omega), sU_ne (fun z => by omega), sU_ne (fun z => by omega), sU_ne (fun z => by omega), sU_at]
      have r91_253 : W 91 253 = 1 * (xop 1 (ρ 1) 1) + 0 := by rw [hW, sU_ne (fun z => by omega), sU_ne (fun z => by omega), sU_ne (fun z => by omega), sU_ne (fun z => by omega), sU_ne (fun z => by omega), sU_ne (fun z => by omega), sU_at]
      have r91_255 : W 91 255 = 0 := by rw [hW, sU_ne (fun z => by omega), sU_ne (fun z => by omega), sU_ne (fun z => by omega), sU_ne (fun z => by omega), sU_ne (fun z => by omega), sU_at]
      have r91_256 : W 91 256 = 1 * (xop 1 0 (M 91 243)) + 0 := by rw [hW, sU_ne (fun z => by omega), sU_ne (fun z => by omega), sU_ne (fun z => by omega), sU_ne (fun z => by omega), sU_at]
      have r91_243 : W 91 243 = M 91 243 := by rw [hW, sU_ne (fun z => by omega), sU_ne (fun z => by omega), sU_ne (fun z => by omega), sU_ne (fun z => by omega), sU_ne (fun z => by omega), sU_ne (fun z => by omega), sU_ne (fun z => by omega), sU_ne (fun z => by omega), sU_ne (fun z => by omega), sU_ne (fun z => by omega), sU_ne (fun z => by omega)]
      have r91_257 : W 91 257 = 1 * (xop 1 (ρ 1) 255) + 0 := by rw [hW, sU_ne (fun z => by omega), sU_ne (fun z => by omega), sU_ne (fun z => by omega), sU_at]
      intro h
      rw [r91_243, r91_250, r91_251, r91_252, r91_253, r91_255, r91_256, r91_257]
      rw [show (1 * ρ 1 + 0 : Int) = ρ 1 by omega, hs0]
      exact ⟨rfl, by omega, by omega, by omega⟩
    have k_xSW : xSW W := by
      rw [hW]
      exact (uxSW rfl (uxSW rfl (uxSW rfl (uxSW rfl (uxSW rfl (uxSW rfl (uxSW rfl (uxSW rfl (uxSW rfl (uxSW rfl (uxSW rfl hI.2.2.2.2.2.2.2.2.2.2.2.2.2.2.2.2.2.2.2.2.2.2.2.2.2.2.2.2.2.2.2.2.2.2.2.2.2.1)))))))))))
    have k_xST : xST W := by
      rw [hW]
      exact (uxST rfl (uxST rfl (uxST rfl (uxST rfl (uxST rfl (uxST rfl (uxST rfl (uxST rfl (uxST rfl (uxST rfl (uxST rfl hI.2.2.2.2.2.2.2.2.2.2.2.2.2.2.2.2.2.2.2.2.2.2.2.2.2.2.2.2.2.2.2.2.2.2.2.2.2.2.1)))))))))))
    have k_xSP : xSP W := by
      rw [hW]
      exact (uxSP rfl (uxSP rfl (uxSP rfl (uxSP rfl (uxSP rfl (uxSP rfl (uxSP rfl (uxSP rfl (uxSP rfl (uxSP rfl (uxSP rfl hI.2.2.2.2.2.2.2.2.2.2.2.2.2.2.2.2.2.2.2.2.2.2.2.2.2.2.2.2.2.2.2.2.2.2.2.2.2.2.2.1)))))))))))
    have k_xSL : xSL W := by
      rw [hW]
      exact (uxSL rfl (uxSL rfl (uxSL rfl (uxSL rfl (uxSL rfl (uxSL rfl (uxSL rfl (uxSL rfl (uxSL rfl (uxSL rfl (uxSL rfl hI.2.2.2.2.2.2.2.2.2.2.2.2.2.2.2.2.2.2.2.2.2.2.2.2.2.2.2.2.2.2.2.2.2.2.2.2.2.2.2.2.1)))))))))))
    have k_xSM : xSM W := by
      rw [hW]
      exact (uxSM rfl (uxSM rfl (uxSM rfl (uxSM rfl (uxSM rfl (uxSM rfl (uxSM rfl (uxSM rfl (uxSM rfl (uxSM rfl (uxSM rfl hI.2.2.2.2.2.2.2.2.2.2.2.2.2.2.2.2.2.2.2.2.2.2.2.2.2.2.2.2.2.2.2.2.2.2.2.2.2.2.2.2.2.1)))))))))))
    have k_xSI : xSI W := by
      have r91_259 : W 91 259 = 1 * ρ 0 + 0 := by rw [hW, sU_ne (fun z => by omega), sU_ne (fun z => by omega), sU_at]
      have r91_258 : W 91 258 = 1 * ((Int32.ofInt (ρ 1)).toInt8.toInt32.toInt) + 0 := by rw [hW, sU_at]
      have r91_248 : W 91 248 = 1 * ρ 1 + 0 := by rw [hW, sU_ne (fun z => by omega), sU_at]
      intro h
      rw [r91_258, r91_248, show (1 * ρ 1 + 0 : Int) = ρ 1 by omega]
      omega
    have k_XC : XC W := ⟨k_xS1, k_xS2, k_xS3, k_xS4, k_xS5, k_xS6, k_xS7, k_xS8, k_xS9, k_xSA, k_xSG, k_xSF, k_xSB, k_xSC, k_xSD, k_xSE, k_xSW, k_xST, k_xSP, k_xSL, k_xSM, k_xSI⟩
    have kXB : XB W := ⟨k_xN1, k_xN2, k_xN3, k_xN4, k_xN5, k_xN6, k_xH1, k_xK1, k_xC1, k_xRW, k_xWT, k_xCU, k_xG2, k_xG3, k_xG4, k_xG5, k_xG6, k_XC⟩
    exact ⟨base, k2, k3, kXA, kXB⟩
-- fdOff
def xr_605 : qRu := (1, [], [], [], [(91, 249, []), (91, 259, [])], [])
theorem xo_605 : qRok xr_605 := by
  intro ρ M h0 hf hm hI
  refine ⟨ρ, fun _ _ => rfl, fun f h => ?_, ?_⟩
  · exact nomatch h
  · show sI (sU (sU M 91 249 (0)) 91 259 (0))
    obtain ⟨W, hW⟩ : ∃ W, W = (sU (sU M 91 249 (0)) 91 259 (0)) := ⟨_, rfl⟩
    rw [← hW]
    have base : sI0 W := by
      rw [hW]
      exact (si_u0 (si_u0 hI.1 (fun r hr => by cases hr)) (fun r hr => by cases hr))
    have k2 : XI2 W := by
      rw [hW]
      exact (xi2_u rfl (xi2_u rfl hI.2.1))
    have k3 : XI3 W := by
      rw [hW]
      exact (xi3_u rfl (xi3_u rfl hI.2.2.1))
    have kXA : XA W := by
      rw [hW]
      exact (uXA rfl (uXA rfl hI.2.2.2.1))
    have k_xN1 : xN1 W := by
      rw [hW]
      exact (uxN1 rfl (uxN1 rfl hI.2.2.2.2.1))
    have k_xN2 : xN2 W := by
      rw [hW]
      exact (uxN2 rfl (uxN2 rfl hI.2.2.2.2.2.1))
    have k_xN3 : xN3 W := by
      rw [hW]
      exact (uxN3 rfl (uxN3 rfl hI.2.2.2.2.2.2.1))
    have k_xN4 : xN4 W := by
      rw [hW]
      exact (uxN4 rfl (uxN4 rfl hI.2.2.2.2.2.2.2.1))
    have k_xN5 : xN5 W := by
      rw [hW]
      exact (uxN5 rfl (uxN5 rfl hI.2.2.2.2.2.2.2.2.1))
    have k_xN6 : xN6 W := by
      rw [hW]
      exact (uxN6 rfl (uxN6 rfl hI.2.2.2.2.2.2.2.2.2.1))
    have k_xH1 : xH1 W := by
      rw [hW]
      exact (uxH1 rfl (uxH1 rfl hI.2.2.2.2.2.2.2.2.2.2.1))
    have k_xK1 : xK1 W := by
      rw [hW]
      exact (uxK1 rfl (uxK1 rfl hI.2.2.2.2.2.2.2.2.2.2.2.1))
    have k_xC1 : xC1 W := by
      rw [hW]
      exact (uxC1 rfl (uxC1 rfl hI.2.2.2.2.2.2.2.2.2.2.2.2.1))
    have k_xRW : xRW W := by
      rw [hW]
      exact (uxRW rfl (uxRW rfl hI.2.2.2.2.2.2.2.2.2.2.2.2.2.1))
    have k_xWT : xWT W := by
      rw [hW]
      exact (uxWT rfl (uxWT rfl hI.2.2.2.2.2.2.2.2.2.2.2.2.2.2.1))
    have k_xCU : xCU W := by
      rw [hW]
      exact (uxCU rfl (uxCU rfl hI.2.2.2.2.2.2.2.2.2.2.2.2.2.2.2.1))
    have k_xG2 : xG2 W := by
      rw [hW]
      exact (uxG2 rfl (uxG2 rfl hI.2.2.2.2.2.2.2.2.2.2.2.2.2.2.2.2.1))
    have k_xG3 : xG3 W := by
      rw [hW]
      exact (uxG3 rfl (uxG3 rfl hI.2.2.2.2.2.2.2.2.2.2.2.2.2.2.2.2.2.1))
    have k_xG4 : xG4 W := by
      rw [hW]
      exact (uxG4 rfl (uxG4 rfl hI.2.2.2.2.2.2.2.2.2.2.2.2.2.2.2.2.2.2.1))
    have k_xG5 : xG5 W := by
      rw [hW]
      exact (uxG5 rfl (uxG5 rfl hI.2.2.2.2.2.2.2.2.2.2.2.2.2.2.2.2.2.2.2.1))
    have k_xG6 : xG6 W := by
      rw [hW]
      exact (uxG6 rfl (uxG6 rfl hI.2.2.2.2.2.2.2.2.2.2.2.2.2.2.2.2.2.2.2.2.1))
    have k_xS1 : xS1 W := by
      rw [hW]
      exact (uxS1 rfl (uxS1 rfl hI.2.2.2.2.2.2.2.2.2.2.2.2.2.2.2.2.2.2.2.2.2.1))
    have k_xS2 : xS2 W := by
      rw [hW]
      exact (uxS2 rfl (uxS2 rfl hI.2.2.2.2.2.2.2.2.2.2.2.2.2.2.2.2.2.2.2.2.2.2.1))
    have k_xS3 : xS3 W := by
      rw [hW]
      exact (uxS3 rfl (uxS3 rfl hI.2.2.2.2.2.2.2.2.2.2.2.2.2.2.2.2.2.2.2.2.2.2.2.1))
    have k_xS4 : xS4 W := by
      rw [hW]
      exact (uxS4 rfl (uxS4 rfl hI.2.2.2.2.2.2.2.2.2.2.2.2.2.2.2.2.2.2.2.2.2.2.2.2.1))
    have k_xS5 : xS5 W := by
      rw [hW]
      exact (uxS5 rfl (uxS5 rfl hI.2.2.2.2.2.2.2.2.2.2.2.2.2.2.2.2.2.2.2.2.2.2.2.2.2.1))
    have k_xS6 : xS6 W := by
      rw [hW]
      exact (uxS6 rfl (uxS6 rfl hI.2.2.2.2.2.2.2.2.2.2.2.2.2.2.2.2.2.2.2.2.2.2.2.2.2.2.1))
    have k_xS7 : xS7 W := by
      rw [hW]
      exact (uxS7 rfl (uxS7 rfl hI.2.2.2.2.2.2.2.2.2.2.2.2.2.2.2.2.2.2.2.2.2.2.2.2.2.2.2.1))
    have k_xS8 : xS8 W := by
      rw [hW]
      exact (uxS8 rfl (uxS8 rfl hI.2.2.2.2.2.2.2.2.2.2.2.2.2.2.2.2.2.2.2.2.2.2.2.2.2.2.2.2.1))
    have k_xS9 : xS9 W := by
      rw [hW]
      exact (uxS9 rfl (uxS9 rfl hI.2.2.2.2.2.2.2.2.2.2.2.2.2.2.2.2.2.2.2.2.2.2.2.2.2.2.2.2.2.1))
    have k_xSA : xSA W := by
      rw [hW]
      exact (uxSA rfl (uxSA rfl hI.2.2.2.2.2.2.2.2.2.2.2.2.2.2.2.2.2.2.2.2.2.2.2.2.2.2.2.2.2.2.1))
    have k_xSG : xSG W := by
      rw [hW]
      exact (uxSG rfl (uxSG rfl hI.2.2.2.2.2.2.2.2.2.2.2.2.2.2.2.2.2.2.2.2.2.2.2.2.2.2.2.2.2.2.2.1))
    have k_xSF : xSF W := by
      rw [hW]
      exact (uxSF rfl (uxSF rfl hI.2.2.2.2.2.2.2.2.2.2.2.2.2.2.2.2.2.2.2.2.2.2.2.2.2.2.2.2.2.2.2.2.1))
    have k_xSB : xSB W := by
      rw [hW]
      exact (uxSB rfl (uxSB rfl hI.2.2.2.2.2.2.2.2.2.2.2.2.2.2.2.2.2.2.2.2.2.2.2.2.2.2.2.2.2.2.2.2.2.1))
    have k_xSC : xSC W := by
      rw [hW]
      exact (uxSC rfl (uxSC rfl hI.2.2.2.2.2.2.2.2.2.2.2.2.2.2.2.2.2.2.2.2.2.2.2.2.2.2.2.2.2.2.2.2.2.2.1))
    have k_xSD : xSD W := by
      rw [hW]
      exact (uxSD rfl (uxSD rfl hI.2.2.2.2.2.2.2.2.2.2.2.2.2.2.2.2.2.2.2.2.2.2.2.2.2.2.2.2.2.2.2.2.2.2.2.1))
    have k_xSE : xSE W := by
      have r : W 91 249 = 0 := by rw [hW, sU_ne (fun z => by omega), sU_at]
      intro h
      rw [r] at h
      omega
    have k_xSW : xSW W := by
      rw [hW]
      exact (uxSW rfl (uxSW rfl hI.2.2.2.2.2.2.2.2.2.2.2.2.2.2.2.2.2.2.2.2.2.2.2.2.2.2.2.2.2.2.2.2.2.2.2.2.2.1))
    have k_xST : xST W := by
      rw [hW]
      exact (uxST rfl (uxST rfl hI.2.2.2.2.2.2.2.2.2.2.2.2.2.2.2.2.2.2.2.2.2.2.2.2.2.2.2.2.2.2.2.2.2.2.2.2.2.2.1))
    have k_xSP : xSP W := by
      rw [hW]
      exact (uxSP rfl (uxSP rfl hI.2.2.2.2.2.2.2.2.2.2.2.2.2.2.2.2.2.2.2.2.2.2.2.2.2.2.2.2.2.2.2.2.2.2.2.2.2.2.2.1))
    have k_xSL : xSL W := by
      rw [hW]
      exact (uxSL rfl (uxSL rfl hI.2.2.2.2.2.2.2.2.2.2.2.2.2.2.2.2.2.2.2.2.2.2.2.2.2.2.2.2.2.2.2.2.2.2.2.2.2.2.2.2.1))
    have k_xSM : xSM W := by
      rw [hW]
      exact (uxSM rfl (uxSM rfl hI.2.2.2.2.2.2.2.2.2.2.2.2.2.2.2.2.2.2.2.2.2.2.2.2.2.2.2.2.2.2.2.2.2.2.2.2.2.2.2.2.2.1))
    have k_xSI : xSI W := by
      have r : W 91 259 = 0 := by rw [hW, sU_at]
      intro h
      rw [r] at h
      omega
    have k_XC : XC W := ⟨k_xS1, k_xS2, k_xS3, k_xS4, k_xS5, k_xS6, k_xS7, k_xS8, k_xS9, k_xSA, k_xSG, k_xSF, k_xSB, k_xSC, k_xSD, k_xSE, k_xSW, k_xST, k_xSP, k_xSL, k_xSM, k_xSI⟩
    have kXB : XB W := ⟨k_xN1, k_xN2, k_xN3, k_xN4, k_xN5, k_xN6, k_xH1, k_xK1, k_xC1, k_xRW, k_xWT, k_xCU, k_xG2, k_xG3, k_xG4, k_xG5, k_xG6, k_XC⟩
    exact ⟨base, k2, k3, kXA, kXB⟩
-- fdC0
def xr_606 : qRu := (11, [[(1, 1), (-1, 4)], [(-1, 1), (1, 4)], [(1, 1), (-1, 3)], [(1, 4)], [(699, 0), (-1, 1)], [(1, 1)], [(-24, 0), (1, 6)], [(24, 0), (-1, 6)], [(1, 5), (-1, 8)], [(-1, 5), (1, 8)], [(-1, 2), (1, 9)], [(1, 2), (-1, 9)], [(-1, 7), (1, 10)], [(1, 7), (-1, 10)], [(128, 0), (1, 2)], [(127, 0), (-1, 2)]], [(4, 100, []), (4, 261, [(1, 3)]), (4, 262, []), (4, 263, [(1, 4)]), (4, 265, [(1, 8)]), (91, 259, [(1, 0)]), (91, 248, [(1, 10)]), (91, 258, [(1, 9)]), (91, 249, [(1, 0)]), (91, 250, [(1, 5)]), (91, 251, [(1, 6)]), (91, 252, [(1, 7)])], [(1, [(1, 1)], [(1, 2)])], [(4, 262, [(1, 0)])], [])
theorem xo_606 : qRok xr_606 := by
  intro ρ M h0 hf hm hI
  have f0 := hf [(1, 1), (-1, 4)] (by decide)
  have f1 := hf [(-1, 1), (1, 4)] (by decide)
  have f2 := hf [(1, 1), (-1, 3)] (by decide)
  have f3 := hf [(1, 4)] (by decide)
  have f4 := hf [(699, 0), (-1, 1)] (by decide)
  have f5 := hf [(1, 1)] (by decide)
  have f6 := hf [(-24, 0), (1, 6)] (by decide)
  have f7 := hf [(24, 0), (-1, 6)] (by decide)
  have f8 := hf [(1, 5), (-1, 8)] (by decide)
  have f9 := hf [(-1, 5), (1, 8)] (by decide)
  have f10 := hf [(-1, 2), (1, 9)] (by decide)
  have f11 := hf [(1, 2), (-1, 9)] (by decide)
  have f12 := hf [(-1, 7), (1, 10)] (by decide)
  have f13 := hf [(1, 7), (-1, 10)] (by decide)
  have f14 := hf [(128, 0), (1, 2)] (by decide)
  have f15 := hf [(127, 0), (-1, 2)] (by decide)
  simp only [qD, h0] at f0 f1 f2 f3 f4 f5 f6 f7 f8 f9 f10 f11 f12 f13 f14 f15
  have m0 : M 4 100 = 0 := hm (4, 100, []) (by decide)
  have m1 : M 4 261 = 1 * ρ 3 + 0 := hm (4, 261, [(1, 3)]) (by decide)
  have m2 : M 4 262 = 0 := hm (4, 262, []) (by decide)
  have m3 : M 4 263 = 1 * ρ 4 + 0 := hm (4, 263, [(1, 4)]) (by decide)
  have m4 : M 4 265 = 1 * ρ 8 + 0 := hm (4, 265, [(1, 8)]) (by decide)
  have m5 : M 91 259 = 1 * ρ 0 + 0 := hm (91, 259, [(1, 0)]) (by decide)
  have m6 : M 91 248 = 1 * ρ 10 + 0 := hm (91, 248, [(1, 10)]) (by decide)
  have m7 : M 91 258 = 1 * ρ 9 + 0 := hm (91, 258, [(1, 9)]) (by decide)
  have m8 : M 91 249 = 1 * ρ 0 + 0 := hm (91, 249, [(1, 0)]) (by decide)
  have m9 : M 91 250 = 1 * ρ 5 + 0 := hm (91, 250, [(1, 5)]) (by decide)
  have m10 : M 91 251 = 1 * ρ 6 + 0 := hm (91, 251, [(1, 6)]) (by decide)
  have m11 : M 91 252 = 1 * ρ 7 + 0 := hm (91, 252, [(1, 7)]) (by decide)
  simp only [h0] at m5 m8
  have qxST := hI.2.2.2.2.2.2.2.2.2.2.2.2.2.2.2.2.2.2.2.2.2.2.2.2.2.2.2.2.2.2.2.2.2.2.2.2.2.2.1
  have qxSP := hI.2.2.2.2.2.2.2.2.2.2.2.2.2.2.2.2.2.2.2.2.2.2.2.2.2.2.2.2.2.2.2.2.2.2.2.2.2.2.2.1
  obtain ⟨g1, g2, g3, g4⟩ := gx_xSE hI (by omega)
  have tb : xop 1 (M 91 252) 255 = tBy (M 4 265) 0 := by
    unfold tBy
    rw [g1, show M 91 250 = M 4 265 by omega, show M 91 251 = 24 by omega]
    rfl

  have gi := gx_xSI hI (by omega)
  rw [show M 91 248 = M 91 252 by omega] at gi
  refine ⟨ρ, fun _ _ => rfl, fun f h => ?_, ?_⟩
  · exact nomatch h
  · show sI (sU (sU M 1 (1 * ρ 1 + 0 : Int).toNat (1 * ρ 2 + 0)) 4 262 (1 * ρ 0 + 0))
    obtain ⟨W, hW⟩ : ∃ W, W = (sU (sU M 1 (1 * ρ 1 + 0).toNat (1 * ρ 2 + 0)) 4 262 (1 * ρ 0 + 0)) := ⟨_, rfl⟩
    rw [← hW]
    have base : sI0 W := by
      rw [hW]
      exact (si_u0 (si_u0 hI.1 (fun r hr => by rw [xt_1 hr]; exact ⟨by show (-128 : Int) ≤ _; omega, by show _ ≤ (127 : Int); omega⟩)) (fun r hr => by cases hr))
    have k2 : XI2 W := by
      rw [hW]
      exact (xi2_u rfl (xi2_u (sinc_ok rfl _) hI.2.1))
    have k3 : XI3 W := by
      rw [hW]
      exact (xi3_u rfl (xi3_u (sinc_ok rfl _) hI.2.2.1))
    have kXA : XA W := by
      rw [hW]
      exact (uXA rfl (uXA (sinc_ok rfl _) hI.2.2.2.1))
    have k_xN1 : xN1 W := by
      rw [hW]
      exact (uxN1 rfl (uxN1 (sinc_ok rfl _) hI.2.2.2.2.1))
    have k_xN2 : xN2 W := by
      rw [hW]
      exact (uxN2 rfl (uxN2 (sinc_ok rfl _) hI.2.2.2.2.2.1))
    have k_xN3 : xN3 W := by
      rw [hW]
      exact (uxN3 rfl (uxN3 (sinc_ok rfl _) hI.2.2.2.2.2.2.1))
    have k_xN4 : xN4 W := by
      rw [hW]
      exact (uxN4 rfl (uxN4 (sinc_ok rfl _) hI.2.2.2.2.2.2.2.1))
    have k_xN5 : xN5 W := by
      rw [hW]
      exact (uxN5 rfl (uxN5 (sinc_ok rfl _) hI.2.2.2.2.2.2.2.2.1))
    have k_xN6 : xN6 W := by
      rw [hW]
      exact (uxN6 rfl (uxN6 (sinc_ok rfl _) hI.2.2.2.2.2.2.2.2.2.1))
    have k_xH1 : xH1 W := by
      rw [hW]
      exact (uxH1 rfl (uxH1 (sinc_ok rfl _) hI.2.2.2.2.2.2.2.2.2.2.1))
    have k_xK1 : xK1 W := by
      rw [hW]
      exact (uxK1 rfl (uxK1 (sinc_ok rfl _) hI.2.2.2.2.2.2.2.2.2.2.2.1))
    have k_xC1 : xC1 W := by
      rw [hW]
      exact (uxC1 rfl (uxC1 (sinc_ok rfl _) hI.2.2.2.2.2.2.2.2.2.2.2.2.1))
    have k_xRW : xRW W := by
      rw [hW]
      exact (uxRW rfl (uxRW (sinc_ok rfl _) hI.2.2.2.2.2.2.2.2.2.2.2.2.2.1))
    have k_xWT : xWT W := by
      rw [hW]
      exact (uxWT rfl (uxWT (sinc_ok rfl _) hI.2.2.2.2.2.2.2.2.2.2.2.2.2.2.1))
    have k_xCU : xCU W := by
      rw [hW]
      exact (uxCU rfl (uxCU (sinc_ok rfl _) hI.2.2.2.2.2.2.2.2.2.2.2.2.2.2.2.1))
    have k_xG2 : xG2 W := by
      rw [hW]
      exact (uxG2 rfl (uxG2 (sinc_ok rfl _) hI.2.2.2.2.2.2.2.2.2.2.2.2.2.2.2.2.1))
    have k_xG3 : xG3 W := by
      rw [hW]
      exact (uxG3 rfl (uxG3 (sinc_ok rfl _) hI.2.2.2.2.2.2.2.2.2.2.2.2.2.2.2.2.2.1))
    have k_xG4 : xG4 W := by
      rw [hW]
      exact (uxG4 rfl (uxG4 (sinc_ok rfl _) hI.2.2.2.2.2.2.2.2.2.2.2.2.2.2.2.2.2.2.1))
    have k_xG5 : xG5 W := by
      rw [hW]
      exact (uxG5 rfl (uxG5 (sinc_ok rfl _) hI.2.2.2.2.2.2.2.2.2.2.2.2.2.2.2.2.2.2.2.1))
    have k_xG6 : xG6 W := by
      rw [hW]
      exact (uxG6 rfl (uxG6 (sinc_ok rfl _) hI.2.2.2.2.2.2.2.2.2.2.2.2.2.2.2.2.2.2.2.2.1))
    have k_xS1 : xS1 W := by
      have r : W 4 100 = 0 := by
        have e := m0
        rw [hW, sU_ne (fun z => by omega), sU_ne (fun z => by omega)]
        omega
      intro h
      rw [r] at h
      exact absurd rfl h
    have k_xS2 : xS2 W := by
      rw [hW]
      exact (uxS2 rfl (uxS2 (sinc_ok rfl _) hI.2.2.2.2.2.2.2.2.2.2.2.2.2.2.2.2.2.2.2.2.2.2.1))
    have k_xS3 : xS3 W := by
      rw [hW]
      exact (uxS3 rfl (uxS3 (sinc_ok rfl _) hI.2.2.2.2.2.2.2.2.2.2.2.2.2.2.2.2.2.2.2.2.2.2.2.1))
    have k_xS4 : xS4 W := by
      rw [hW]
      exact (uxS4 rfl (uxS4 (sinc_ok rfl _) hI.2.2.2.2.2.2.2.2.2.2.2.2.2.2.2.2.2.2.2.2.2.2.2.2.1))
    have k_xS5 : xS5 W := by
      rw [hW]
      exact (uxS5 rfl (uxS5 (sinc_ok rfl _) hI.2.2.2.2.2.2.2.2.2.2.2.2.2.2.2.2.2.2.2.2.2.2.2.2.2.1))
    have k_xS6 : xS6 W := by
      rw [hW]
      exact (uxS6 rfl (uxS6 (sinc_ok rfl _) hI.2.2.2.2.2.2.2.2.2.2.2.2.2.2.2.2.2.2.2.2.2.2.2.2.2.2.1))
    have k_xS7 : xS7 W := by
      rw [hW]
      exact (uxS7 rfl (uxS7 (sinc_ok rfl _) hI.2.2.2.2.2.2.2.2.2.2.2.2.2.2.2.2.2.2.2.2.2.2.2.2.2.2.2.1))
    have k_xS8 : xS8 W := by
      rw [hW]
      exact (uxS8 rfl (uxS8 (sinc_ok rfl _) hI.2.2.2.2.2.2.2.2.2.2.2.2.2.2.2.2.2.2.2.2.2.2.2.2.2.2.2.2.1))
    have k_xS9 : xS9 W := by
      rw [hW]
      exact (uxS9 rfl (uxS9 (sinc_ok rfl _) hI.2.2.2.2.2.2.2.2.2.2.2.2.2.2.2.2.2.2.2.2.2.2.2.2.2.2.2.2.2.1))
    have k_xSA : xSA W := by
      rw [hW]
      exact (uxSA rfl (uxSA (sinc_ok rfl _) hI.2.2.2.2.2.2.2.2.2.2.2.2.2.2.2.2.2.2.2.2.2.2.2.2.2.2.2.2.2.2.1))
    have k_xSG : xSG W := by
      rw [hW]
      exact (uxSG rfl (uxSG (sinc_ok rfl _) hI.2.2.2.2.2.2.2.2.2.2.2.2.2.2.2.2.2.2.2.2.2.2.2.2.2.2.2.2.2.2.2.1))
    have k_xSF : xSF W := by
      rw [hW]
      exact (uxSF rfl (uxSF (sinc_ok rfl _) hI.2.2.2.2.2.2.2.2.2.2.2.2.2.2.2.2.2.2.2.2.2.2.2.2.2.2.2.2.2.2.2.2.1))
    have k_xSB : xSB W := by
      rw [hW]
      exact (uxSB rfl (uxSB (sinc_ok rfl _) hI.2.2.2.2.2.2.2.2.2.2.2.2.2.2.2.2.2.2.2.2.2.2.2.2.2.2.2.2.2.2.2.2.2.1))
    have k_xSC : xSC W := by
      rw [hW]
      exact (uxSC rfl (uxSC (sinc_ok rfl _) hI.2.2.2.2.2.2.2.2.2.2.2.2.2.2.2.2.2.2.2.2.2.2.2.2.2.2.2.2.2.2.2.2.2.2.1))
    have k_xSD : xSD W := by
      rw [hW]
      exact (uxSD rfl (uxSD (sinc_ok rfl _) hI.2.2.2.2.2.2.2.2.2.2.2.2.2.2.2.2.2.2.2.2.2.2.2.2.2.2.2.2.2.2.2.2.2.2.2.1))
    have k_xSE : xSE W := by
      rw [hW]
      exact (uxSE rfl (uxSE (sinc_ok rfl _) hI.2.2.2.2.2.2.2.2.2.2.2.2.2.2.2.2.2.2.2.2.2.2.2.2.2.2.2.2.2.2.2.2.2.2.2.2.1))
    have k_xSW : xSW W := by
      rw [hW]
      exact (uxSW rfl (uxSW (sinc_ok rfl _) hI.2.2.2.2.2.2.2.2.2.2.2.2.2.2.2.2.2.2.2.2.2.2.2.2.2.2.2.2.2.2.2.2.2.2.2.2.2.1))
    have k_xST : xST W := by
      have r4_261 : W 4 261 = M 4 261 := by rw [hW, sU_ne (fun z => by omega), sU_ne (fun z => by omega)]
      have c1 : ∀ k : Nat, k ≠ (1 * ρ 1 + 0).toNat → W 1 k = M 1 k := fun k hk => by rw [hW, sU_ne (fun z => by omega), sU_ne (fun z => by omega)]
      have a1 : W 1 (1 * ρ 1 + 0).toNat = 1 * ρ 2 + 0 := by rw [hW, sU_ne (fun z => by omega), sU_at]
      have c92 : ∀ k, W 92 k = M 92 k := fun k => by rw [hW, sU_ne (fun z => by omega), sU_ne (fun z => by omega)]
      have e92 : W 92 = M 92 := funext c92
      intro i hi
      rw [r4_261] at hi
      rw [c1 i (by omega), e92]
      exact qxST i hi
    have k_xSP : xSP W := by
      have r4_262 : W 4 262 = 1 * ρ 0 + 0 := by rw [hW, sU_at]
      have r4_263 : W 4 263 = M 4 263 := by rw [hW, sU_ne (fun z => by omega), sU_ne (fun z => by omega)]
      have r4_264 : W 4 264 = M 4 264 := by rw [hW, sU_ne (fun z => by omega), sU_ne (fun z => by omega)]
      have r4_265 : W 4 265 = M 4 265 := by rw [hW, sU_ne (fun z => by omega), sU_ne (fun z => by omega)]
      have r4_266 : W 4 266 = M 4 266 := by rw [hW, sU_ne (fun z => by omega), sU_ne (fun z => by omega)]
      have r4_267 : W 4 267 = M 4 267 := by rw [hW, sU_ne (fun z => by omega), sU_ne (fun z => by omega)]
      have r4_268 : W 4 268 = M 4 268 := by rw [hW, sU_ne (fun z => by omega), sU_ne (fun z => by omega)]
      have r4_269 : W 4 269 = M 4 269 := by rw [hW, sU_ne (fun z => by omega), sU_ne (fun z => by omega)]
      have c1 : ∀ k : Nat, k ≠ (1 * ρ 1 + 0).toNat → W 1 k = M 1 k := fun k hk => by rw [hW, sU_ne (fun z => by omega), sU_ne (fun z => by omega)]
      have a1 : W 1 (1 * ρ 1 + 0).toNat = 1 * ρ 2 + 0 := by rw [hW, sU_ne (fun z => by omega), sU_at]
      have c92 : ∀ k, W 92 k = M 92 k := fun k => by rw [hW, sU_ne (fun z => by omega), sU_ne (fun z => by omega)]
      have e92 : W 92 = M 92 := funext c92
      unfold xSP
      rw [r4_262, r4_263, r4_264, e92]
      obtain ⟨p1, p2, p3⟩ := qxSP
      have e4 : ∀ x, x ≠ 262 → W 4 x = M 4 x := fun x hx => by rw [hW, sU_ne (fun z => by omega), sU_ne (fun z => by omega)]
      refine ⟨p1, fun q hq hl => ?_, fun q hq hl => by rw [e4 _ (by omega)]; exact p3 q hq hl⟩
      rw [h0] at hl
      rw [e4 _ (by omega)]
      by_cases hj : q = 0
      · subst hj
        show W 1 ((M 4 263).toNat + 0) = tSn (tBy (M 4 265) 0)
        rw [show (M 4 263).toNat + 0 = (1 * ρ 1 + 0).toNat by omega, a1, ← tb]
        have := xi2b (M 91 252)
        omega
      · rw [c1 _ (by omega)]
        exact p2 q hq (by omega)
    have k_xSL : xSL W := by
      rw [hW]
      exact (uxSL rfl (uxSL (sinc_ok rfl _) hI.2.2.2.2.2.2.2.2.2.2.2.2.2.2.2.2.2.2.2.2.2.2.2.2.2.2.2.2.2.2.2.2.2.2.2.2.2.2.2.2.1))
    have k_xSM : xSM W := by
      rw [hW]
      exact (uxSM rfl (uxSM (sinc_ok rfl _) hI.2.2.2.2.2.2.2.2.2.2.2.2.2.2.2.2.2.2.2.2.2.2.2.2.2.2.2.2.2.2.2.2.2.2.2.2.2.2.2.2.2.1))
    have k_xSI : xSI W := by
      rw [hW]
      exact (uxSI rfl (uxSI (sinc_ok rfl _) hI.2.2.2.2.2.2.2.2.2.2.2.2.2.2.2.2.2.2.2.2.2.2.2.2.2.2.2.2.2.2.2.2.2.2.2.2.2.2.2.2.2.2))
    have k_XC : XC W := ⟨k_xS1, k_xS2, k_xS3, k_xS4, k_xS5, k_xS6, k_xS7, k_xS8, k_xS9, k_xSA, k_xSG, k_xSF, k_xSB, k_xSC, k_xSD, k_xSE, k_xSW, k_xST, k_xSP, k_xSL, k_xSM, k_xSI⟩
    have kXB : XB W := ⟨k_xN1, k_xN2, k_xN3, k_xN4, k_xN5, k_xN6, k_xH1, k_xK1, k_xC1, k_xRW, k_xWT, k_xCU, k_xG2, k_xG3, k_xG4, k_xG5, k_xG6, k_XC⟩
    exact ⟨base, k2, k3, kXA, kXB⟩
-- fdW0
def xr_607 : qRu := (11, [[(1, 1), (-1, 4)], [(-1, 1), (1, 4)], [(1, 1), (-1, 3)], [(-1, 1), (1, 3)], [(1, 4)], [(699, 0), (-1, 1)], [(1, 1)], [(-24, 0), (1, 6)], [(24, 0), (-1, 6)], [(1, 5), (-1, 8)], [(-1, 5), (1, 8)], [(-1, 2), (1, 9)], [(1, 2), (-1, 9)], [(1, 2)], [(255, 0), (-1, 2)]], [(4, 261, [(1, 3)]), (4, 262, [(20, 0)]), (4, 263, [(1, 4)]), (4, 264, []), (4, 265, [(1, 8)]), (91, 257, [(1, 9)]), (4, 100, []), (4, 200, []), (4, 210, []), (4, 212, []), (4, 214, []), (4, 220, []), (4, 233, []), (4, 235, []), (91, 249, [(1, 0)]), (91, 250, [(1, 5)]), (91, 251, [(1, 6)]), (91, 252, [(1, 7)])], [(92, [(1, 1)], [(1, 2)])], [(91, 990, [(1, 11)]), (4, 261, [(1, 0), (1, 3)])], [])
theorem xo_607 : qRok xr_607 := by
  intro ρ M h0 hf hm hI
  have f0 := hf [(1, 1), (-1, 4)] (by decide)
  have f1 := hf [(-1, 1), (1, 4)] (by decide)
  have f2 := hf [(1, 1), (-1, 3)] (by decide)
  have f3 := hf [(-1, 1), (1, 3)] (by decide)
  have f4 := hf [(1, 4)] (by decide)
  have f5 := hf [(699, 0), (-1, 1)] (by decide)
  have f6 := hf [(1, 1)] (by decide)
  have f7 := hf [(-24, 0), (1, 6)] (by decide)
  have f8 := hf [(24, 0), (-1, 6)] (by decide)
  have f9 := hf [(1, 5), (-1, 8)] (by decide)
  have f10 := hf [(-1, 5), (1, 8)] (by decide)
  have f11 := hf [(-1, 2), (1, 9)] (by decide)
  have f12 := hf [(1, 2), (-1, 9)] (by decide)
  have f13 := hf [(1, 2)] (by decide)
  have f14 := hf [(255, 0), (-1, 2)] (by decide)
  simp only [qD, h0] at f0 f1 f2 f3 f4 f5 f6 f7 f8 f9 f10 f11 f12 f13 f14
  have m0 : M 4 261 = 1 * ρ 3 + 0 := hm (4, 261, [(1, 3)]) (by decide)
  have m1 : M 4 262 = 20 * ρ 0 + 0 := hm (4, 262, [(20, 0)]) (by decide)
  have m2 : M 4 263 = 1 * ρ 4 + 0 := hm (4, 263, [(1, 4)]) (by decide)
  have m3 : M 4 264 = 0 := hm (4, 264, []) (by decide)
  have m4 : M 4 265 = 1 * ρ 8 + 0 := hm (4, 265, [(1, 8)]) (by decide)
  have m5 : M 91 257 = 1 * ρ 9 + 0 := hm (91, 257, [(1, 9)]) (by decide)
  have m6 : M 4 100 = 0 := hm (4, 100, []) (by decide)
  have m7 : M 4 200 = 0 := hm (4, 200, []) (by decide)
  have m8 : M 4 210 = 0 := hm (4, 210, []) (by decide)
  have m9 : M 4 212 = 0 := hm (4, 212, []) (by decide)
  have m10 : M 4 214 = 0 := hm (4, 214, []) (by decide)
  have m11 : M 4 220 = 0 := hm (4, 220, []) (by decide)
  have m12 : M 4 233 = 0 := hm (4, 233, []) (by decide)
  have m13 : M 4 235 = 0 := hm (4, 235, []) (by decide)
  have m14 : M 91 249 = 1 * ρ 0 + 0 := hm (91, 249, [(1, 0)]) (by decide)
  have m15 : M 91 250 = 1 * ρ 5 + 0 := hm (91, 250, [(1, 5)]) (by decide)
  have m16 : M 91 251 = 1 * ρ 6 + 0 := hm (91, 251, [(1, 6)]) (by decide)
  have m17 : M 91 252 = 1 * ρ 7 + 0 := hm (91, 252, [(1, 7)]) (by decide)
  simp only [h0] at m1 m14
  have qxST := hI.2.2.2.2.2.2.2.2.2.2.2.2.2.2.2.2.2.2.2.2.2.2.2.2.2.2.2.2.2.2.2.2.2.2.2.2.2.2.1
  have qxSP := hI.2.2.2.2.2.2.2.2.2.2.2.2.2.2.2.2.2.2.2.2.2.2.2.2.2.2.2.2.2.2.2.2.2.2.2.2.2.2.2.1
  obtain ⟨g1, g2, g3, g4⟩ := gx_xSE hI (by omega)
  have tb : xop 1 (M 91 252) 255 = tBy (M 4 265) 0 := by
    unfold tBy
    rw [g1, show M 91 250 = M 4 265 by omega, show M 91 251 = 24 by omega]
    rfl

  have g257 := g4
  refine ⟨fun a => cond (Nat.blt a 11) (ρ a) (([xH (sU M 92 (1 * ρ 1 + 0).toNat (1 * ρ 2 + 0))] : List Int).getD (a - 11) 0), fun a ha => ?_, fun f h => ?_, ?_⟩
  · show cond (Nat.blt a 11) (ρ a) _ = ρ a
    rw [show Nat.blt a 11 = true from Nat.ble_eq_true_of_le ha]; rfl
  · exact nomatch h
  · show sI (sU (sU (sU M 92 (1 * ρ 1 + 0 : Int).toNat (1 * ρ 2 + 0)) 91 990 (1 * (xH (sU M 92 (1 * ρ 1 + 0).toNat (1 * ρ 2 + 0))) + 0)) 4 261 (1 * ρ 0 + (1 * ρ 3 + 0)))
    obtain ⟨W, hW⟩ : ∃ W, W = (sU (sU (sU M 92 (1 * ρ 1 + 0).toNat (1 * ρ 2 + 0)) 91 990 (1 * (xH (sU M 92 (1 * ρ 1 + 0).toNat (1 * ρ 2 + 0))) + 0)) 4 261 (1 * ρ 0 + (1 * ρ 3 + 0))) := ⟨_, rfl⟩
    rw [← hW]
    have base : sI0 W := by
      rw [hW]
      exact (si_u0 (si_u0 (si_u0 hI.1 (fun r hr => by rw [xt_92 hr]; exact ⟨by show (0 : Int) ≤ _; omega, by show _ ≤ (255 : Int); omega⟩)) (fun r hr => by cases hr)) (fun r hr => by cases hr))
    have k2 : XI2 W := by
      refine xi2_congr (fun o k hz ho => ?_) hI.2.1
      have h4 : ¬ (o = 4 ∧ k = 261) := fun z => by rw [z.1, z.2] at hz; exact absurd hz (by decide +kernel)
      rw [hW, sU_ne h4, sU_ne (fun z => by omega), sU_ne (fun z => by omega)]
    have k3 : XI3 W := by
      unfold XI3
      rw [hW]
      rw [sU_ne (fun z => by omega), sU_at]
      have e : ∀ o' k' x y, ¬ (o' = 91 ∧ k' = 990) → ¬ (o' = 4 ∧ k' = 261) → sU (sU (sU M 92 (1 * ρ 1 + 0).toNat (1 * ρ 2 + 0)) 91 990 x) 4 261 y o' k' = sU M 92 (1 * ρ 1 + 0).toNat (1 * ρ 2 + 0) o' k' := fun o' k' x y h h' => by rw [sU_ne h', sU_ne h]
      rw [show ∀ z : Int, 1 * z + 0 = z from fun z => by omega]
      unfold xH
      rw [e _ _ _ _ (by omega) (by omega), e _ _ _ _ (by omega) (by omega), e _ _ _ _ (by omega) (by omega)]
    have kXA : XA W := by
      rw [hW]
      exact (uXA rfl (uXA rfl (uXA (sinc_ok rfl _) hI.2.2.2.1)))
    have k_xN1 : xN1 W := by
      rw [hW]
      exact (uxN1 rfl (uxN1 rfl (uxN1 (sinc_ok rfl _) hI.2.2.2.2.1)))
    have k_xN2 : xN2 W := by
      rw [hW]
      exact (uxN2 rfl (uxN2 rfl (uxN2 (sinc_ok rfl _) hI.2.2.2.2.2.1)))
    have k_xN3 : xN3 W := by
      rw [hW]
      exact (uxN3 rfl (uxN3 rfl (uxN3 (sinc_ok rfl _) hI.2.2.2.2.2.2.1)))
    have k_xN4 : xN4 W := by
      rw [hW]
      exact (uxN4 rfl (uxN4 rfl (uxN4 (sinc_ok rfl _) hI.2.2.2.2.2.2.2.1)))
    have k_xN5 : xN5 W := by
      rw [hW]
      exact (uxN5 rfl (uxN5 rfl (uxN5 (sinc_ok rfl _) hI.2.2.2.2.2.2.2.2.1)))
    have k_xN6 : xN6 W := by
      rw [hW]
      exact (uxN6 rfl (uxN6 rfl (uxN6 (sinc_ok rfl _) hI.2.2.2.2.2.2.2.2.2.1)))
    have k_xH1 : xH1 W := by
      rw [hW]
      exact (uxH1 rfl (uxH1 rfl (uxH1 (sinc_ok rfl _) hI.2.2.2.2.2.2.2.2.2.2.1)))
    have k_xK1 : xK1 W := by
      rw [hW]
      exact (uxK1 rfl (uxK1 rfl (uxK1 (sinc_ok rfl _) hI.2.2.2.2.2.2.2.2.2.2.2.1)))
    have k_xC1 : xC1 W := by
      rw [hW]
      exact (uxC1 rfl (uxC1 rfl (uxC1 (sinc_ok rfl _) hI.2.2.2.2.2.2.2.2.2.2.2.2.1)))
    have k_xRW : xRW W := by
      rw [hW]
      exact (uxRW rfl (uxRW rfl (uxRW (sinc_ok rfl _) hI.2.2.2.2.2.2.2.2.2.2.2.2.2.1)))
    have k_xWT : xWT W := by
      rw [hW]
      exact (uxWT rfl (uxWT rfl (uxWT (sinc_ok rfl _) hI.2.2.2.2.2.2.2.2.2.2.2.2.2.2.1)))
    have k_xCU : xCU W := by
      rw [hW]
      exact (uxCU rfl (uxCU rfl (uxCU (sinc_ok rfl _) hI.2.2.2.2.2.2.2.2.2.2.2.2.2.2.2.1)))
    have k_xG2 : xG2 W := by
      rw [hW]
      exact (uxG2 rfl (uxG2 rfl (uxG2 (sinc_ok rfl _) hI.2.2.2.2.2.2.2.2.2.2.2.2.2.2.2.2.1)))
    have k_xG3 : xG3 W := by
      rw [hW]
      exact (uxG3 rfl (uxG3 rfl (uxG3 (sinc_ok rfl _) hI.2.2.2.2.2.2.2.2.2.2.2.2.2.2.2.2.2.1)))
    have k_xG4 : xG4 W := by
      rw [hW]
      exact (uxG4 rfl (uxG4 rfl (uxG4 (sinc_ok rfl _) hI.2.2.2.2.2.2.2.2.2.2.2.2.2.2.2.2.2.2.1)))
    have k_xG5 : xG5 W := by
      rw [hW]
      exact (uxG5 rfl (uxG5 rfl (uxG5 (sinc_ok rfl _) hI.2.2.2.2.2.2.2.2.2.2.2.2.2.2.2.2.2.2.2.1)))
    have k_xG6 : xG6 W := by
      rw [hW]
      exact (uxG6 rfl (uxG6 rfl (uxG6 (sinc_ok rfl _) hI.2.2.2.2.2.2.2.2.2.2.2.2.2.2.2.2.2.2.2.2.1)))
    have k_xS1 : xS1 W := by
      have r : W 4 100 = 0 := by
        have e := m6
        rw [hW, sU_ne (fun z => by omega), sU_ne (fun z => by omega), sU_ne (fun z => by omega)]
        omega
      intro h
      rw [r] at h
      exact absurd rfl h
    have k_xS2 : xS2 W := by
      have r : W 4 100 = 0 := by
        have e := m6
        rw [hW, sU_ne (fun z => by omega), sU_ne (fun z => by omega), sU_ne (fun z => by omega)]
        omega
      intro h
      rw [r] at h
      exact absurd rfl h
    have k_xS3 : xS3 W := by
      have r : W 4 100 = 0 := by
        have e := m6
        rw [hW, sU_ne (fun z => by omega), sU_ne (fun z => by omega), sU_ne (fun z => by omega)]
        omega
      intro h
      rw [r] at h
      exact absurd rfl h
    have k_xS4 : xS4 W := by
      rw [hW]
      exact (uxS4 rfl (uxS4 rfl (uxS4 (sinc_ok rfl _) hI.2.2.2.2.2.2.2.2.2.2.2.2.2.2.2.2.2.2.2.2.2.2.2.2.1)))
    have k_xS5 : xS5 W := by
      rw [hW]
      exact (uxS5 rfl (uxS5 rfl (uxS5 (sinc_ok rfl _) hI.2.2.2.2.2.2.2.2.2.2.2.2.2.2.2.2.2.2.2.2.2.2.2.2.2.1)))
    have k_xS6 : xS6 W := by
      rw [hW]
      exact (uxS6 rfl (uxS6 rfl (uxS6 (sinc_ok rfl _) hI.2.2.2.2.2.2.2.2.2.2.2.2.2.2.2.2.2.2.2.2.2.2.2.2.2.2.1)))
    have k_xS7 : xS7 W := by
      have r : W 4 200 = 0 := by
        have e := m7
        rw [hW, sU_ne (fun z => by omega), sU_ne (fun z => by omega), sU_ne (fun z => by omega)]
        omega
      intro h
      rw [r] at h
      omega
    have k_xS8 : xS8 W := by
      have r : W 4 210 = 0 := by
        have e := m8
        rw [hW, sU_ne (fun z => by omega), sU_ne (fun z => by omega), sU_ne (fun z => by omega)]
        omega
      intro h
      rw [r] at h
      omega
    have k_xS9 : xS9 W := by
      have r : W 4 212 = 0 := by
        have e := m9
        rw [hW, sU_ne (fun z => by omega), sU_ne (fun z => by omega), sU_ne (fun z => by omega)]
        omega
      intro h
      rw [r] at h
      omega
    have k_xSA : xSA W := by
      have r : W 4 214 = 0 := by
        have e := m10
        rw [hW, sU_ne (fun z => by omega), sU_ne (fun z => by omega), sU_ne (fun z => by omega)]
        omega
      intro h
      rw [r] at h
      omega
    have k_xSG : xSG W := by
      have r : W 4 235 = 0 := by
        have e := m13
        rw [hW, sU_ne (fun z => by omega), sU_ne (fun z => by omega), sU_ne (fun z => by omega)]
        omega
      intro h
      rw [r] at h
      omega
    have k_xSF : xSF W := by
      have r : W 4 233 = 0 := by
        have e := m12
        rw [hW, sU_ne (fun z => by omega), sU_ne (fun z => by omega), sU_ne (fun z => by omega)]
        omega
      intro h
      rw [r] at h
      omega
    have k_xSB : xSB W := by
      have r : W 4 220 = 0 := by
        have e := m11
        rw [hW, sU_ne (fun z => by omega), sU_ne (fun z => by omega), sU_ne (fun z => by omega)]
        omega
      intro h
      rw [r] at h
      omega
    have k_xSC : xSC W := by
      rw [hW]
      exact (uxSC rfl (uxSC rfl (uxSC (sinc_ok rfl _) hI.2.2.2.2.2.2.2.2.2.2.2.2.2.2.2.2.2.2.2.2.2.2.2.2.2.2.2.2.2.2.2.2.2.2.1)))
    have k_xSD : xSD W := by
      rw [hW]
      exact (uxSD rfl (uxSD rfl (uxSD (sinc_ok rfl _) hI.2.2.2.2.2.2.2.2.2.2.2.2.2.2.2.2.2.2.2.2.2.2.2.2.2.2.2.2.2.2.2.2.2.2.2.1)))
    have k_xSE : xSE W := by
      rw [hW]
      exact (uxSE rfl (uxSE rfl (uxSE (sinc_ok rfl _) hI.2.2.2.2.2.2.2.2.2.2.2.2.2.2.2.2.2.2.2.2.2.2.2.2.2.2.2.2.2.2.2.2.2.2.2.2.1)))
    have k_xSW : xSW W := by
      rw [hW]
      exact (uxSW rfl (uxSW rfl (uxSW (sinc_ok rfl _) hI.2.2.2.2.2.2.2.2.2.2.2.2.2.2.2.2.2.2.2.2.2.2.2.2.2.2.2.2.2.2.2.2.2.2.2.2.2.1)))
    have k_xST : xST W := by
      have r4_261 : W 4 261 = 1 * ρ 0 + (1 * ρ 3 + 0) := by rw [hW, sU_at]
      have c1 : ∀ k, W 1 k = M 1 k := fun k => by rw [hW, sU_ne (fun z => by omega), sU_ne (fun z => by omega), sU_ne (fun z => by omega)]
      have e1 : W 1 = M 1 := funext c1
      have c92 : ∀ k : Nat, k ≠ (1 * ρ 1 + 0).toNat → W 92 k = M 92 k := fun k hk => by rw [hW, sU_ne (fun z => by omega), sU_ne (fun z => by omega), sU_ne (fun z => by omega)]
      have a92 : W 92 (1 * ρ 1 + 0).toNat = 1 * ρ 2 + 0 := by rw [hW, sU_ne (fun z => by omega), sU_ne (fun z => by omega), sU_at]
      intro i hi
      rw [r4_261, h0] at hi
      rw [e1]
      by_cases hx : i = (1 * ρ 1 + 0).toNat
      · rw [hx, a92]
        obtain ⟨p1, p2, p3⟩ := gx_xSP hI
        have := p2 0 (by omega) (by omega)
        rw [show (M 4 263).toNat + 0 = (1 * ρ 1 + 0).toNat by omega] at this
        have this : M 1 (1 * ρ 1 + 0).toNat = tSn (tBy (M 4 265) 0) := this
        rw [this, ← tb]
        congr 1
        omega
      · rw [c92 i hx]
        exact qxST i (by omega)
    have k_xSP : xSP W := by
      have r4_262 : W 4 262 = M 4 262 := by rw [hW, sU_ne (fun z => by omega), sU_ne (fun z => by omega), sU_ne (fun z => by omega)]
      have r4_263 : W 4 263 = M 4 263 := by rw [hW, sU_ne (fun z => by omega), sU_ne (fun z => by omega), sU_ne (fun z => by omega)]
      have r4_264 : W 4 264 = M 4 264 := by rw [hW, sU_ne (fun z => by omega), sU_ne (fun z => by omega), sU_ne (fun z => by omega)]
      have r4_265 : W 4 265 = M 4 265 := by rw [hW, sU_ne (fun z => by omega), sU_ne (fun z => by omega), sU_ne (fun z => by omega)]
      have r4_266 : W 4 266 = M 4 266 := by rw [hW, sU_ne (fun z => by omega), sU_ne (fun z => by omega), sU_ne (fun z => by omega)]
      have r4_267 : W 4 267 = M 4 267 := by rw [hW, sU_ne (fun z => by omega), sU_ne (fun z => by omega), sU_ne (fun z => by omega)]
      have r4_268 : W 4 268 = M 4 268 := by rw [hW, sU_ne (fun z => by omega), sU_ne (fun z => by omega), sU_ne (fun z => by omega)]
      have r4_269 : W 4 269 = M 4 269 := by rw [hW, sU_ne (fun z => by omega), sU_ne (fun z => by omega), sU_ne (fun z => by omega)]
      have c1 : ∀ k, W 1 k = M 1 k := fun k => by rw [hW, sU_ne (fun z => by omega), sU_ne (fun z => by omega), sU_ne (fun z => by omega)]
      have e1 : W 1 = M 1 := funext c1
      have c92 : ∀ k : Nat, k ≠ (1 * ρ 1 + 0).toNat → W 92 k = M 92 k := fun k hk => by rw [hW, sU_ne (fun z => by omega), sU_ne (fun z => by omega), sU_ne (fun z => by omega)]
      have a92 : W 92 (1 * ρ 1 + 0).toNat = 1 * ρ 2 + 0 := by rw [hW, sU_ne (fun z => by omega), sU_ne (fun z => by omega), sU_at]
      unfold xSP
      rw [r4_262, r4_263, r4_264, e1]
      obtain ⟨p1, p2, p3⟩ := gx_xSP hI
      refine ⟨p1, fun q hq hl => ?_, fun q hq hl => by omega⟩
      have e4 : ∀ x, x ≠ 261 → W 4 x = M 4 x := fun x hx => by rw [hW, sU_ne (fun z => by omega), sU_ne (fun z => by omega), sU_ne (fun z => by omega)]
      rw [e4 _ (by omega)]
      exact p2 q hq hl
    have k_xSL : xSL W := by
      rw [hW]
      exact (uxSL rfl (uxSL rfl (uxSL (sinc_ok rfl _) hI.2.2.2.2.2.2.2.2.2.2.2.2.2.2.2.2.2.2.2.2.2.2.2.2.2.2.2.2.2.2.2.2.2.2.2.2.2.2.2.2.1)))
    have k_xSM : xSM W := by
      rw [hW]
      exact (uxSM rfl (uxSM rfl (uxSM (sinc_ok rfl _) hI.2.2.2.2.2.2.2.2.2.2.2.2.2.2.2.2.2.2.2.2.2.2.2.2.2.2.2.2.2.2.2.2.2.2.2.2.2.2.2.2.2.1)))
    have k_xSI : xSI W := by
      rw [hW]
      exact (uxSI rfl (uxSI rfl (uxSI (sinc_ok rfl _) hI.2.2.2.2.2.2.2.2.2.2.2.2.2.2.2.2.2.2.2.2.2.2.2.2.2.2.2.2.2.2.2.2.2.2.2.2.2.2.2.2.2.2)))
    have k_XC : XC W := ⟨k_xS1, k_xS2, k_xS3, k_xS4, k_xS5, k_xS6, k_xS7, k_xS8, k_xS9, k_xSA, k_xSG, k_xSF, k_xSB, k_xSC, k_xSD, k_xSE, k_xSW, k_xST, k_xSP, k_xSL, k_xSM, k_xSI⟩
    have kXB : XB W := ⟨k_xN1, k_xN2, k_xN3, k_xN4, k_xN5, k_xN6, k_xH1, k_xK1, k_xC1, k_xRW, k_xWT, k_xCU, k_xG2, k_xG3, k_xG4, k_xG5, k_xG6, k_XC⟩
    exact ⟨base, k2, k3, kXA, kXB⟩
-- fdC1
def xr_608 : qRu := (11, [[(-1, 0), (1, 1), (-1, 4)], [(1, 0), (-1, 1), (1, 4)], [(1, 1), (-1, 3)], [(1, 4)], [(699, 0), (-1, 1)], [(1, 1)], [(-16, 0), (1, 6)], [(16, 0), (-1, 6)], [(1, 5), (-1, 8)], [(-1, 5), (1, 8)], [(-1, 2), (1, 9)], [(1, 2), (-1, 9)], [(-1, 7), (1, 10)], [(1, 7), (-1, 10)], [(128, 0), (1, 2)], [(127, 0), (-1, 2)]], [(4, 100, []), (4, 261, [(1, 3)]), (4, 262, [(1, 0)]), (4, 263, [(1, 4)]), (4, 265, [(1, 8)]), (91, 259, [(1, 0)]), (91, 248, [(1, 10)]), (91, 258, [(1, 9)]), (91, 249, [(1, 0)]), (91, 250, [(1, 5)]), (91, 251, [(1, 6)]), (91, 252, [(1, 7)])], [(1, [(1, 1)], [(1, 2)])], [(4, 262, [(2, 0)])], [])
theorem xo_608 : qRok xr_608 := by
  intro ρ M h0 hf hm hI
  have f0 := hf [(-1, 0), (1, 1), (-1, 4)] (by decide)
  have f1 := hf [(1, 0), (-1, 1), (1, 4)] (by decide)
  have f2 := hf [(1, 1), (-1, 3)] (by decide)
  have f3 := hf [(1, 4)] (by decide)
  have f4 := hf [(699, 0), (-1, 1)] (by decide)
  have f5 := hf [(1, 1)] (by decide)
  have f6 := hf [(-16, 0), (1, 6)] (by decide)
  have f7 := hf [(16, 0), (-1, 6)] (by decide)
  have f8 := hf [(1, 5), (-1, 8)] (by decide)
  have f9 := hf [(-1, 5), (1, 8)] (by decide)
  have f10 := hf [(-1, 2), (1, 9)] (by decide)
  have f11 := hf [(1, 2), (-1, 9)] (by decide)
  have f12 := hf [(-1, 7), (1, 10)] (by decide)
  have f13 := hf [(1, 7), (-1, 10)] (by decide)
  have f14 := hf [(128, 0), (1, 2)] (by decide)
  have f15 := hf [(127, 0), (-1, 2)] (by decide)
  simp only [qD, h0] at f0 f1 f2 f3 f4 f5 f6 f7 f8 f9 f10 f11 f12 f13 f14 f15
  have m0 : M 4 100 = 0 := hm (4, 100, []) (by decide)
  have m1 : M 4 261 = 1 * ρ 3 + 0 := hm (4, 261, [(1, 3)]) (by decide)
  have m2 : M 4 262 = 1 * ρ 0 + 0 := hm (4, 262, [(1, 0)]) (by decide)
  have m3 : M 4 263 = 1 * ρ 4 + 0 := hm (4, 263, [(1, 4)]) (by decide)
  have m4 : M 4 265 = 1 * ρ 8 + 0 := hm (4, 265, [(1, 8)]) (by decide)
  have m5 : M 91 259 = 1 * ρ 0 + 0 := hm (91, 259, [(1, 0)]) (by decide)
  have m6 : M 91 248 = 1 * ρ 10 + 0 := hm (91, 248, [(1, 10)]) (by decide)
  have m7 : M 91 258 = 1 * ρ 9 + 0 := hm (91, 258, [(1, 9)]) (by decide)
  have m8 : M 91 249 = 1 * ρ 0 + 0 := hm (91, 249, [(1, 0)]) (by decide)
  have m9 : M 91 250 = 1 * ρ 5 + 0 := hm (91, 250, [(1, 5)]) (by decide)
  have m10 : M 91 251 = 1 * ρ 6 + 0 := hm (91, 251, [(1, 6)]) (by decide)
  have m11 : M 91 252 = 1 * ρ 7 + 0 := hm (91, 252, [(1, 7)]) (by decide)
  simp only [h0] at m2 m5 m8
  have qxST := hI.2.2.2.2.2.2.2.2.2.2.2.2.2.2.2.2.2.2.2.2.2.2.2.2.2.2.2.2.2.2.2.2.2.2.2.2.2.2.1
  have qxSP := hI.2.2.2.2.2.2.2.2.2.2.2.2.2.2.2.2.2.2.2.2.2.2.2.2.2.2.2.2.2.2.2.2.2.2.2.2.2.2.2.1
  obtain ⟨g1, g2, g3, g4⟩ := gx_xSE hI (by omega)
  have tb : xop 1 (M 91 252) 255 = tBy (M 4 265) 1 := by
    unfold tBy
    rw [g1, show M 91 250 = M 4 265 by omega, show M 91 251 = 16 by omega]
    rfl

  have gi := gx_xSI hI (by omega)
  rw [show M 91 248 = M 91 252 by omega] at gi
  refine ⟨ρ, fun _ _ => rfl, fun f h => ?_, ?_⟩
  · exact nomatch h
  · show sI (sU (sU M 1 (1 * ρ 1 + 0 : Int).toNat (1 * ρ 2 + 0)) 4 262 (2 * ρ 0 + 0))
    obtain ⟨W, hW⟩ : ∃ W, W = (sU (sU M 1 (1 * ρ 1 + 0).toNat (1 * ρ 2 + 0)) 4 262 (2 * ρ 0 + 0)) := ⟨_, rfl⟩
    rw [← hW]
    have base : sI0 W := by
      rw [hW]
      exact (si_u0 (si_u0 hI.1 (fun r hr => by rw [xt_1 hr]; exact ⟨by show (-128 : Int) ≤ _; omega, by show _ ≤ (127 : Int); omega⟩)) (fun r hr => by cases hr))
    have k2 : XI2 W := by
      rw [hW]
      exact (xi2_u rfl (xi2_u (sinc_ok rfl _) hI.2.1))
    have k3 : XI3 W := by
      rw [hW]
      exact (xi3_u rfl (xi3_u (sinc_ok rfl _) hI.2.2.1))
    have kXA : XA W := by
      rw [hW]
      exact (uXA rfl (uXA (sinc_ok rfl _) hI.2.2.2.1))
    have k_xN1 : xN1 W := by
      rw [hW]
      exact (uxN1 rfl (uxN1 (sinc_ok rfl _) hI.2.2.2.2.1))
    have k_xN2 : xN2 W := by
      rw [hW]
      exact (uxN2 rfl (uxN2 (sinc_ok rfl _) hI.2.2.2.2.2.1))
    have k_xN3 : xN3 W := by
      rw [hW]
      exact (uxN3 rfl (uxN3 (sinc_ok rfl _) hI.2.2.2.2.2.2.1))
    have k_xN4 : xN4 W := by
      rw [hW]
      exact (uxN4 rfl (uxN4 (sinc_ok rfl _) hI.2.2.2.2.2.2.2.1))
    have k_xN5 : xN5 W := by
      rw [hW]
      exact (uxN5 rfl (uxN5 (sinc_ok rfl _) hI.2.2.2.2.2.2.2.2.1))
    have k_xN6 : xN6 W := by
      rw [hW]
      exact (uxN6 rfl (uxN6 (sinc_ok rfl _) hI.2.2.2.2.2.2.2.2.2.1))
    have k_xH1 : xH1 W := by
      rw [hW]
      exact (uxH1 rfl (uxH1 (sinc_ok rfl _) hI.2.2.2.2.2.2.2.2.2.2.1))
    have k_xK1 : xK1 W := by
      rw [hW]
      exact (uxK1 rfl (uxK1 (sinc_ok rfl _) hI.2.2.2.2.2.2.2.2.2.2.2.1))
    have k_xC1 : xC1 W := by
      rw [hW]
      exact (uxC1 rfl (uxC1 (sinc_ok rfl _) hI.2.2.2.2.2.2.2.2.2.2.2.2.1))
    have k_xRW : xRW W := by
      rw [hW]
      exact (uxRW rfl (uxRW (sinc_ok rfl _) hI.2.2.2.2.2.2.2.2.2.2.2.2.2.1))
    have k_xWT : xWT W := by
      rw [hW]
      exact (uxWT rfl (uxWT (sinc_ok rfl _) hI.2.2.2.2.2.2.2.2.2.2.2.2.2.2.1))
    have k_xCU : xCU W := by
      rw [hW]
      exact (uxCU rfl (uxCU (sinc_ok rfl _) hI.2.2.2.2.2.2.2.2.2.2.2.2.2.2.2.1))
    have k_xG2 : xG2 W := by
      rw [hW]
      exact (uxG2 rfl (uxG2 (sinc_ok rfl _) hI.2.2.2.2.2.2.2.2.2.2.2.2.2.2.2.2.1))
    have k_xG3 : xG3 W := by
      rw [hW]
      exact (uxG3 rfl (uxG3 (sinc_ok rfl _) hI.2.2.2.2.2.2.2.2.2.2.2.2.2.2.2.2.2.1))
    have k_xG4 : xG4 W := by
      rw [hW]
      exact (uxG4 rfl (uxG4 (sinc_ok rfl _) hI.2.2.2.2.2.2.2.2.2.2.2.2.2.2.2.2.2.2.1))
    have k_xG5 : xG5 W := by
      rw [hW]
      exact (uxG5 rfl (uxG5 (sinc_ok rfl _) hI.2.2.2.2.2.2.2.2.2.2.2.2.2.2.2.2.2.2.2.1))
    have k_xG6 : xG6 W := by
      rw [hW]
      exact (uxG6 rfl (uxG6 (sinc_ok rfl _) hI.2.2.2.2.2.2.2.2.2.2.2.2.2.2.2.2.2.2.2.2.1))
    have k_xS1 : xS1 W := by
      have r : W 4 100 = 0 := by
        have e := m0
        rw [hW, sU_ne (fun z => by omega), sU_ne (fun z => by omega)]
        omega
      intro h
      rw [r] at h
      exact absurd rfl h
    have k_xS2 : xS2 W := by
      rw [hW]
      exact (uxS2 rfl (uxS2 (sinc_ok rfl _) hI.2.2.2.2.2.2.2.2.2.2.2.2.2.2.2.2.2.2.2.2.2.2.1))
    have k_xS3 : xS3 W := by
      rw [hW]
      exact (uxS3 rfl (uxS3 (sinc_ok rfl _) hI.2.2.2.2.2.2.2.2.2.2.2.2.2.2.2.2.2.2.2.2.2.2.2.1))
    have k_xS4 : xS4 W := by
      rw [hW]
      exact (uxS4 rfl (uxS4 (sinc_ok rfl _) hI.2.2.2.2.2.2.2.2.2.2.2.2.2.2.2.2.2.2.2.2.2.2.2.2.1))
    have k_xS5 : xS5 W := by
      rw [hW]
      exact (uxS5 rfl (uxS5 (sinc_ok rfl _) hI.2.2.2.2.2.2.2.2.2.2.2.2.2.2.2.2.2.2.2.2.2.2.2.2.2.1))
    have k_xS6 : xS6 W := by
      rw [hW]
      exact (uxS6 rfl (uxS6 (sinc_ok rfl _) hI.2.2.2.2.2.2.2.2.2.2.2.2.2.2.2.2.2.2.2.2.2.2.2.2.2.2.1))
    have k_xS7 : xS7 W := by
      rw [hW]
      exact (uxS7 rfl (uxS7 (sinc_ok rfl _) hI.2.2.2.2.2.2.2.2.2.2.2.2.2.2.2.2.2.2.2.2.2.2.2.2.2.2.2.1))
    have k_xS8 : xS8 W := by
      rw [hW]
      exact (uxS8 rfl (uxS8 (sinc_ok rfl _) hI.2.2.2.2.2.2.2.2.2.2.2.2.2.2.2.2.2.2.2.2.2.2.2.2.2.2.2.2.1))
    have k_xS9 : xS9 W := by
      rw [hW]
      exact (uxS9 rfl (uxS9 (sinc_ok rfl _) hI.2.2.2.2.2.2.2.2.2.2.2.2.2.2.2.2.2.2.2.2.2.2.2.2.2.2.2.2.2.1))
    have k_xSA : xSA W := by
      rw [hW]
      exact (uxSA rfl (uxSA (sinc_ok rfl _) hI.2.2.2.2.2.2.2.2.2.2.2.2.2.2.2.2.2.2.2.2.2.2.2.2.2.2.2.2.2.2.1))
    have k_xSG : xSG W := by
      rw [hW]
      exact (uxSG rfl (uxSG (sinc_ok rfl _) hI.2.2.2.2.2.2.2.2.2.2.2.2.2.2.2.2.2.2.2.2.2.2.2.2.2.2.2.2.2.2.2.1))
    have k_xSF : xSF W := by
      rw [hW]
      exact (uxSF rfl (uxSF (sinc_ok rfl _) hI.2.2.2.2.2.2.2.2.2.2.2.2.2.2.2.2.2.2.2.2.2.2.2.2.2.2.2.2.2.2.2.2.1))
    have k_xSB : xSB W := by
      rw [hW]
      exact (uxSB rfl (uxSB (sinc_ok rfl _) hI.2.2.2.2.2.2.2.2.2.2.2.2.2.2.2.2.2.2.2.2.2.2.2.2.2.2.2.2.2.2.2.2.2.1))
    have k_xSC : xSC W := by
      rw [hW]
      exact (uxSC rfl (uxSC (sinc_ok rfl _) hI.2.2.2.2.2.2.2.2.2.2.2.2.2.2.2.2.2.2.2.2.2.2.2.2.2.2.2.2.2.2.2.2.2.2.1))
    have k_xSD : xSD W := by
      rw [hW]
      exact (uxSD rfl (uxSD (sinc_ok rfl _) hI.2.2.2.2.2.2.2.2.2.2.2.2.2.2.2.2.2.2.2.2.2.2.2.2.2.2.2.2.2.2.2.2.2.2.2.1))
    have k_xSE : xSE W := by
      rw [hW]
      exact (uxSE rfl (uxSE (sinc_ok rfl _) hI.2.2.2.2.2.2.2.2.2.2.2.2.2.2.2.2.2.2.2.2.2.2.2.2.2.2.2.2.2.2.2.2.2.2.2.2.1))
    have k_xSW : xSW W := by
      rw [hW]
      exact (uxSW rfl (uxSW (sinc_ok rfl _) hI.2.2.2.2.2.2.2.2.2.2.2.2.2.2.2.2.2.2.2.2.2.2.2.2.2.2.2.2.2.2.2.2.2.2.2.2.2.1))
    have k_xST : xST W := by
      have r4_261 : W 4 261 = M 4 261 := by rw [hW, sU_ne (fun z => by omega), sU_ne (fun z => by omega)]
      have c1 : ∀ k : Nat, k ≠ (1 * ρ 1 + 0).toNat → W 1 k = M 1 k := fun k hk => by rw [hW, sU_ne (fun z => by omega), sU_ne (fun z => by omega)]
      have a1 : W 1 (1 * ρ 1 + 0).toNat = 1 * ρ 2 + 0 := by rw [hW, sU_ne (fun z => by omega), sU_at]
      have c92 : ∀ k, W 92 k = M 92 k := fun k => by rw [hW, sU_ne (fun z => by omega), sU_ne (fun z => by omega)]
      have e92 : W 92 = M 92 := funext c92
      intro i hi
      rw [r4_261] at hi
      rw [c1 i (by omega), e92]
      exact qxST i hi
    have k_xSP : xSP W := by
      have r4_262 : W 4 262 = 2 * ρ 0 + 0 := by rw [hW, sU_at]
      have r4_263 : W 4 263 = M 4 263 := by rw [hW, sU_ne (fun z => by omega), sU_ne (fun z => by omega)]
      have r4_264 : W 4 264 = M 4 264 := by rw [hW, sU_ne (fun z => by omega), sU_ne (fun z => by omega)]
      have r4_265 : W 4 265 = M 4 265 := by rw [hW, sU_ne (fun z => by omega), sU_ne (fun z => by omega)]
      have r4_266 : W 4 266 = M 4 266 := by rw [hW, sU_ne (fun z => by omega), sU_ne (fun z => by omega)]
      have r4_267 : W 4 267 = M 4 267 := by rw [hW, sU_ne (fun z => by omega), sU_ne (fun z => by omega)]
      have r4_268 : W 4 268 = M 4 268 := by rw [hW, sU_ne (fun z => by omega), sU_ne (fun z => by omega)]
      have r4_269 : W 4 269 = M 4 269 := by rw [hW, sU_ne (fun z => by omega), sU_ne (fun z => by omega)]
      have c1 : ∀ k : Nat, k ≠ (1 * ρ 1 + 0).toNat → W 1 k = M 1 k := fun k hk => by rw [hW, sU_ne (fun z => by omega), sU_ne (fun z => by omega)]
      have a1 : W 1 (1 * ρ 1 + 0).toNat = 1 * ρ 2 + 0 := by rw [hW, sU_ne (fun z => by omega), sU_at]
      have c92 : ∀ k, W 92 k = M 92 k := fun k => by rw [hW, sU_ne (fun z => by omega), sU_ne (fun z => by omega)]
      have e92 : W 92 = M 92 := funext c92
      unfold xSP
      rw [r4_262, r4_263, r4_264, e92]
      obtain ⟨p1, p2, p3⟩ := qxSP
      have e4 : ∀ x, x ≠ 262 → W 4 x = M 4 x := fun x hx => by rw [hW, sU_ne (fun z => by omega), sU_ne (fun z => by omega)]
      refine ⟨p1, fun q hq hl => ?_, fun q hq hl => by rw [e4 _ (by omega)]; exact p3 q hq hl⟩
      rw [h0] at hl
      rw [e4 _ (by omega)]
      by_cases hj : q = 1
      · subst hj
        show W 1 ((M 4 263).toNat + 1) = tSn (tBy (M 4 265) 1)
        rw [show (M 4 263).toNat + 1 = (1 * ρ 1 + 0).toNat by omega, a1, ← tb]
        have := xi2b (M 91 252)
        omega
      · rw [c1 _ (by omega)]
        exact p2 q hq (by omega)
    have k_xSL : xSL W := by
      rw [hW]
      exact (uxSL rfl (uxSL (sinc_ok rfl _) hI.2.2.2.2.2.2.2.2.2.2.2.2.2.2.2.2.2.2.2.2.2.2.2.2.2.2.2.2.2.2.2.2.2.2.2.2.2.2.2.2.1))
    have k_xSM : xSM W := by
      rw [hW]
      exact (uxSM rfl (uxSM (sinc_ok rfl _) hI.2.2.2.2.2.2.2.2.2.2.2.2.2.2.2.2.2.2.2.2.2.2.2.2.2.2.2.2.2.2.2.2.2.2.2.2.2.2.2.2.2.1))
    have k_xSI : xSI W := by
      rw [hW]
      exact (uxSI rfl (uxSI (sinc_ok rfl _) hI.2.2.2.2.2.2.2.2.2.2.2.2.2.2.2.2.2.2.2.2.2.2.2.2.2.2.2.2.2.2.2.2.2.2.2.2.2.2.2.2.2.2))
    have k_XC : XC W := ⟨k_xS1, k_xS2, k_xS3, k_xS4, k_xS5, k_xS6, k_xS7, k_xS8, k_xS9, k_xSA, k_xSG, k_xSF, k_xSB, k_xSC, k_xSD, k_xSE, k_xSW, k_xST, k_xSP, k_xSL, k_xSM, k_xSI⟩
    have kXB : XB W := ⟨k_xN1, k_xN2, k_xN3, k_xN4, k_xN5, k_xN6, k_xH1, k_xK1, k_xC1, k_xRW, k_xWT, k_xCU, k_xG2, k_xG3, k_xG4, k_xG5, k_xG6, k_XC⟩
    exact ⟨base, k2, k3, kXA, kXB⟩
-- fdW1
def xr_609 : qRu := (11, [[(-1, 0), (1, 1), (-1, 4)], [(1, 0), (-1, 1), (1, 4)], [(1, 1), (-1, 3)], [(-1, 1), (1, 3)], [(1, 4)], [(699, 0), (-1, 1)], [(1, 1)], [(-16, 0), (1, 6)], [(16, 0), (-1, 6)], [(1, 5), (-1, 8)], [(-1, 5), (1, 8)], [(-1, 2), (1, 9)], [(1, 2), (-1, 9)], [(1, 2)], [(255, 0), (-1, 2)]], [(4, 261, [(1, 3)]), (4, 262, [(20, 0)]), (4, 263, [(1, 4)]), (4, 264, []), (4, 265, [(1, 8)]), (91, 257, [(1, 9)]), (4, 100, []), (4, 200, []), (4, 210, []), (4, 212, []), (4, 214, []), (4, 220, []), (4, 233, []), (4, 235, []), (91, 249, [(1, 0)]), (91, 250, [(1, 5)]), (91, 251, [(1, 6)]), (91, 252, [(1, 7)])], [(92, [(1, 1)], [(1, 2)])], [(91, 990, [(1, 11)]), (4, 261, [(1, 0), (1, 3)])], [])
theorem xo_609 : qRok xr_609 := by
  intro ρ M h0 hf hm hI
  have f0 := hf [(-1, 0), (1, 1), (-1, 4)] (by decide)
  have f1 := hf [(1, 0), (-1, 1), (1, 4)] (by decide)
  have f2 := hf [(1, 1), (-1, 3)] (by decide)
  have f3 := hf [(-1, 1), (1, 3)] (by decide)
  have f4 := hf [(1, 4)] (by decide)
  have f5 := hf [(699, 0), (-1, 1)] (by decide)
  have f6 := hf [(1, 1)] (by decide)
  have f7 := hf [(-16, 0), (1, 6)] (by decide)
  have f8 := hf [(16, 0), (-1, 6)] (by decide)
  have f9 := hf [(1, 5), (-1, 8)] (by decide)
  have f10 := hf [(-1, 5), (1, 8)] (by decide)
  have f11 := hf [(-1, 2), (1, 9)] (by decide)
  have f12 := hf [(1, 2), (-1, 9)] (by decide)
  have f13 := hf [(1, 2)] (by decide)
  have f14 := hf [(255, 0), (-1, 2)] (by decide)
  simp only [qD, h0] at f0 f1 f2 f3 f4 f5 f6 f7 f8 f9 f10 f11 f12 f13 f14
  have m0 : M 4 261 = 1 * ρ 3 + 0 := hm (4, 261, [(1, 3)]) (by decide)
  have m1 : M 4 262 = 20 * ρ 0 + 0 := hm (4, 262, [(20, 0)]) (by decide)
  have m2 : M 4 263 = 1 * ρ 4 + 0 := hm (4, 263, [(1, 4)]) (by decide)
  have m3 : M 4 264 = 0 := hm (4, 264, []) (by decide)
  have m4 : M 4 265 = 1 * ρ 8 + 0 := hm (4, 265, [(1, 8)]) (by decide)
  have m5 : M 91 257 = 1 * ρ 9 + 0 := hm (91, 257, [(1, 9)]) (by decide)
  have m6 : M 4 100 = 0 := hm (4, 100, []) (by decide)
  have m7 : M 4 200 = 0 := hm (4, 200, []) (by decide)
  have m8 : M 4 210 = 0 := hm (4, 210, []) (by decide)
  have m9 : M 4 212 = 0 := hm (4, 212, []) (by decide)
  have m10 : M 4 214 = 0 := hm (4, 214, []) (by decide)
  have m11 : M 4 220 = 0 := hm (4, 220, []) (by decide)
  have m12 : M 4 233 = 0 := hm (4, 233, []) (by decide)
  have m13 : M 4 235 = 0 := hm (4, 235, []) (by decide)
  have m14 : M 91 249 = 1 * ρ 0 + 0 := hm (91, 249, [(1, 0)]) (by decide)
  have m15 : M 91 250 = 1 * ρ 5 + 0 := hm (91, 250, [(1, 5)]) (by decide)
  have m16 : M 91 251 = 1 * ρ 6 + 0 := hm (91, 251, [(1, 6)]) (by decide)
  have m17 : M 91 252 = 1 * ρ 7 + 0 := hm (91, 252, [(1, 7)]) (by decide)
  simp only [h0] at m1 m14
  have qxST := hI.2.2.2.2.2.2.2.2.2.2.2.2.2.2.2.2.2.2.2.2.2.2.2.2.2.2.2.2.2.2.2.2.2.2.2.2.2.2.1
  have qxSP := hI.2.2.2.2.2.2.2.2.2.2.2.2.2.2.2.2.2.2.2.2.2.2.2.2.2.2.2.2.2.2.2.2.2.2.2.2.2.2.2.1
  obtain ⟨g1, g2, g3, g4⟩ := gx_xSE hI (by omega)
  have tb : xop 1 (M 91 252) 255 = tBy (M 4 265) 1 := by
    unfold tBy
    rw [g1, show M 91 250 = M 4 265 by omega, show M 91 251 = 16 by omega]
    rfl

  have g257 := g4
  refine ⟨fun a => cond (Nat.blt a 11) (ρ a) (([xH (sU M 92 (1 * ρ 1 + 0).toNat (1 * ρ 2 + 0))] : List Int).getD (a - 11) 0), fun a ha => ?_, fun f h => ?_, ?_⟩
  · show cond (Nat.blt a 11) (ρ a) _ = ρ a
    rw [show Nat.blt a 11 = true from Nat.ble_eq_true_of_le ha]; rfl
  · exact nomatch h
  · show sI (sU (sU (sU M 92 (1 * ρ 1 + 0 : Int).toNat (1 * ρ 2 + 0)) 91 990 (1 * (xH (sU M 92 (1 * ρ 1 + 0).toNat (1 * ρ 2 + 0))) + 0)) 4 261 (1 * ρ 0 + (1 * ρ 3 + 0)))
    obtain ⟨W, hW⟩ : ∃ W, W = (sU (sU (sU M 92 (1 * ρ 1 + 0).toNat (1 * ρ 2 + 0)) 91 990 (1 * (xH (sU M 92 (1 * ρ 1 + 0).toNat (1 * ρ 2 + 0))) + 0)) 4 261 (1 * ρ 0 + (1 * ρ 3 + 0))) := ⟨_, rfl⟩
    rw [← hW]
    have base : sI0 W := by
      rw [hW]
      exact (si_u0 (si_u0 (si_u0 hI.1 (fun r hr => by rw [xt_92 hr]; exact ⟨by show (0 : Int) ≤ _; omega, by show _ ≤ (255 : Int); omega⟩)) (fun r hr => by cases hr)) (fun r hr => by cases hr))
    have k2 : XI2 W := by
      refine xi2_congr (fun o k hz ho => ?_) hI.2.1
      have h4 : ¬ (o = 4 ∧ k = 261) := fun z => by rw [z.1, z.2] at hz; exact absurd hz (by decide +kernel)
      rw [hW, sU_ne h4, sU_ne (fun z => by omega), sU_ne (fun z => by omega)]
    have k3 : XI3 W := by
      unfold XI3
      rw [hW]
      rw [sU_ne (fun z => by omega), sU_at]
      have e : ∀ o' k' x y, ¬ (o' = 91 ∧ k' = 990) → ¬ (o' = 4 ∧ k' = 261) → sU (sU (sU M 92 (1 * ρ 1 + 0).toNat (1 * ρ 2 + 0)) 91 990 x) 4 261 y o' k' = sU M 92 (1 * ρ 1 + 0).toNat (1 * ρ 2 + 0) o' k' := fun o' k' x y h h' => by rw [sU_ne h', sU_ne h]
      rw [show ∀ z : Int, 1 * z + 0 = z from fun z => by omega]
      unfold xH
      rw [e _ _ _ _ (by omega) (by omega), e _ _ _ _ (by omega) (by omega), e _ _ _ _ (by omega) (by omega)]
    have kXA : XA W := by
      rw [hW]
      exact (uXA rfl (uXA rfl (uXA (sinc_ok rfl _) hI.2.2.2.1)))
    have k_xN1 : xN1 W := by
      rw [hW]
      exact (uxN1 rfl (uxN1 rfl (uxN1 (sinc_ok rfl _) hI.2.2.2.2.1)))
    have k_xN2 : xN2 W := by
      rw [hW]
      exact (uxN2 rfl (uxN2 rfl (uxN2 (sinc_ok rfl _) hI.2.2.2.2.2.1)))
    have k_xN3 : xN3 W := by
      rw [hW]
      exact (uxN3 rfl (uxN3 rfl (uxN3 (sinc_ok rfl _) hI.2.2.2.2.2.2.1)))
    have k_xN4 : xN4 W := by
      rw [hW]
      exact (uxN4 rfl (uxN4 rfl (uxN4 (sinc_ok rfl _) hI.2.2.2.2.2.2.2.1)))
    have k_xN5 : xN5 W := by
      rw [hW]
      exact (uxN5 rfl (uxN5 rfl (uxN5 (sinc_ok rfl _) hI.2.2.2.2.2.2.2.2.1)))
    have k_xN6 : xN6 W := by
      rw [hW]
      exact (uxN6 rfl (uxN6 rfl (uxN6 (sinc_ok rfl _) hI.2.2.2.2.2.2.2.2.2.1)))
    have k_xH1 : xH1 W := by
      rw [hW]
      exact (uxH1 rfl (uxH1 rfl (uxH1 (sinc_ok rfl _) hI.2.2.2.2.2.2.2.2.2.2.1)))
    have k_xK1 : xK1 W := by
      rw [hW]
      exact (uxK1 rfl (uxK1 rfl (uxK1 (sinc_ok rfl _) hI.2.2.2.2.2.2.2.2.2.2.2.1)))
    have k_xC1 : xC1 W := by
      rw [hW]
      exact (uxC1 rfl (uxC1 rfl (uxC1 (sinc_ok rfl _) hI.2.2.2.2.2.2.2.2.2.2.2.2.1)))
    have k_xRW : xRW W := by
      rw [hW]
      exact (uxRW rfl (uxRW rfl (uxRW (sinc_ok rfl _) hI.2.2.2.2.2.2.2.2.2.2.2.2.2.1)))
    have k_xWT : xWT W := by
      rw [hW]
      exact (uxWT rfl (uxWT rfl (uxWT (sinc_ok rfl _) hI.2.2.2.2.2.2.2.2.2.2.2.2.2.2.1)))
    have k_xCU : xCU W := by
      rw [hW]
      exact (uxCU rfl (uxCU rfl (uxCU (sinc_ok rfl _) hI.2.2.2.2.2.2.2.2.2.2.2.2.2.2.2.1)))
    have k_xG2 : xG2 W := by
      rw [hW]
      exact (uxG2 rfl (uxG2 rfl (uxG2 (sinc_ok rfl _) hI.2.2.2.2.2.2.2.2.2.2.2.2.2.2.2.2.1)))
    have k_xG3 : xG3 W := by
      rw [hW]
      exact (uxG3 rfl (uxG3 rfl (uxG3 (sinc_ok rfl _) hI.2.2.2.2.2.2.2.2.2.2.2.2.2.2.2.2.2.1)))
    have k_xG4 : xG4 W := by
      rw [hW]
      exact (uxG4 rfl (uxG4 rfl (uxG4 (sinc_ok rfl _) hI.2.2.2.2.2.2.2.2.2.2.2.2.2.2.2.2.2.2.1)))
    have k_xG5 : xG5 W := by
      rw [hW]
      exact (uxG5 rfl (uxG5 rfl (uxG5 (sinc_ok rfl _) hI.2.2.2.2.2.2.2.2.2.2.2.2.2.2.2.2.2.2.2.1)))
    have k_xG6 : xG6 W := by
      rw [hW]
      exact (uxG6 rfl (uxG6 rfl (uxG6 (sinc_ok rfl _) hI.2.2.2.2.2.2.2.2.2.2.2.2.2.2.2.2.2.2.2.2.1)))
    have k_xS1 : xS1 W := by
      have r : W 4 100 = 0 := by
        have e := m6
        rw [hW, sU_ne (fun z => by omega), sU_ne (fun z => by omega), sU_ne (fun z => by omega)]
        omega
      intro h
      rw [r] at h
      exact absurd rfl h
    have k_xS2 : xS2 W := by
      have r : W 4 100 = 0 := by
        have e := m6
        rw [hW, sU_ne (fun z => by omega), sU_ne (fun z => by omega), sU_ne (fun z => by omega)]
        omega
      intro h
      rw [r] at h
      exact absurd rfl h
    have k_xS3 : xS3 W := by
      have r : W 4 100 = 0 := by
        have e := m6
        rw [hW, sU_ne (fun z => by omega), sU_ne (fun z => by omega), sU_ne (fun z => by omega)]
        omega
      intro h
      rw [r] at h
      exact absurd rfl h
    have k_xS4 : xS4 W := by
      rw [hW]
      exact (uxS4 rfl (uxS4 rfl (uxS4 (sinc_ok rfl _) hI.2.2.2.2.2.2.2.2.2.2.2.2.2.2.2.2.2.2.2.2.2.2.2.2.1)))
    have k_xS5 : xS5 W := by
      rw [hW]
      exact (uxS5 rfl (uxS5 rfl (uxS5 (sinc_ok rfl _) hI.2.2.2.2.2.2.2.2.2.2.2.2.2.2.2.2.2.2.2.2.2.2.2.2.2.1)))
    have k_xS6 : xS6 W := by
      rw [hW]
      exact (uxS6 rfl (uxS6 rfl (uxS6 (sinc_ok rfl _) hI.2.2.2.2.2.2.2.2.2.2.2.2.2.2.2.2.2.2.2.2.2.2.2.2.2.2.1)))
    have k_xS7 : xS7 W := by
      have r : W 4 200 = 0 := by
        have e := m7
        rw [hW, sU_ne (fun z => by omega), sU_ne (fun z => by omega), sU_ne (fun z => by omega)]
        omega
      intro h
      rw [r] at h
      omega
    have k_xS8 : xS8 W := by
      have r : W 4 210 = 0 := by
        have e := m8
        rw [hW, sU_ne (fun z => by omega), sU_ne (fun z => by omega), sU_ne (fun z => by omega)]
        omega
      intro h
      rw [r] at h
      omega
    have k_xS9 : xS9 W := by
      have r : W 4 212 = 0 := by
        have e := m9
        rw [hW, sU_ne (fun z => by omega), sU_ne (fun z => by omega), sU_ne (fun z => by omega)]
        omega
      intro h
      rw [r] at h
      omega
    have k_xSA : xSA W := by
      have r : W 4 214 = 0 := by
        have e := m10
        rw [hW, sU_ne (fun z => by omega), sU_ne (fun z => by omega), sU_ne (fun z => by omega)]
        omega
      intro h
      rw [r] at h
      omega
    have k_xSG : xSG W := by
      have r : W 4 235 = 0 := by
        have e := m13
        rw [hW, sU_ne (fun z => by omega), sU_ne (fun z => by omega), sU_ne (fun z => by omega)]
        omega
      intro h
      rw [r] at h
      omega
    have k_xSF : xSF W := by
      have r : W 4 233 = 0 := by
        have e := m12
        rw [hW, sU_ne (fun z => by omega), sU_ne (fun z => by omega), sU_ne (fun z => by omega)]
        omega
      intro h
      rw [r] at h
      omega
    have k_xSB : xSB W := by
      have r : W 4 220 = 0 := by
        have e := m11
        rw [hW, sU_ne (fun z => by omega), sU_ne (fun z => by omega), sU_ne (fun z => by omega)]
        omega
      intro h
      rw [r] at h
      omega
    have k_xSC : xSC W := by
      rw [hW]
      exact (uxSC rfl (uxSC rfl (uxSC (sinc_ok rfl _) hI.2.2.2.2.2.2.2.2.2.2.2.2.2.2.2.2.2.2.2.2.2.2.2.2.2.2.2.2.2.2.2.2.2.2.1)))
    have k_xSD : xSD W := by
      rw [hW]
      exact (uxSD rfl (uxSD rfl (uxSD (sinc_ok rfl _) hI.2.2.2.2.2.2.2.2.2.2.2.2.2.2.2.2.2.2.2.2.2.2.2.2.2.2.2.2.2.2.2.2.2.2.2.1)))
    have k_xSE : xSE W := by
      rw [hW]
      exact (uxSE rfl (uxSE rfl (uxSE (sinc_ok rfl _) hI.2.2.2.2.2.2.2.2.2.2.2.2.2.2.2.2.2.2.2.2.2.2.2.2.2.2.2.2.2.2.2.2.2.2.2.2.1)))
    have k_xSW : xSW W := by
      rw [hW]
      exact (uxSW rfl (uxSW rfl (uxSW (sinc_ok rfl _) hI.2.2.2.2.2.2.2.2.2.2.2.2.2.2.2.2.2.2.2.2.2.2.2.2.2.2.2.2.2.2.2.2.2.2.2.2.2.1)))
    have k_xST : xST W := by
      have r4_261 : W 4 261 = 1 * ρ 0 + (1 * ρ 3 + 0) := by rw [hW, sU_at]
      have c1 : ∀ k, W 1 k = M 1 k := fun k => by rw [hW, sU_ne (fun z => by omega), sU_ne (fun z => by omega), sU_ne (fun z => by omega)]
      have e1 : W 1 = M 1 := funext c1
      have c92 : ∀ k : Nat, k ≠ (1 * ρ 1 + 0).toNat → W 92 k = M 92 k := fun k hk => by rw [hW, sU_ne (fun z => by omega), sU_ne (fun z => by omega), sU_ne (fun z => by omega)]
      have a92 : W 92 (1 * ρ 1 + 0).toNat = 1 * ρ 2 + 0 := by rw [hW, sU_ne (fun z => by omega), sU_ne (fun z => by omega), sU_at]
      intro i hi
      rw [r4_261, h0] at hi
      rw [e1]
      by_cases hx : i = (1 * ρ 1 + 0).toNat
      · rw [hx, a92]
        obtain ⟨p1, p2, p3⟩ := gx_xSP hI
        have := p2 1 (by omega) (by omega)
        rw [show (M 4 263).toNat + 1 = (1 * ρ 1 + 0).toNat by omega] at this
        have this : M 1 (1 * ρ 1 + 0).toNat = tSn (tBy (M 4 265) 1) := this
        rw [this, ← tb]
        congr 1
        omega
      · rw [c92 i hx]
        exact qxST i (by omega)
    have k_xSP : xSP W := by
      have r4_262 : W 4 262 = M 4 262 := by rw [hW, sU_ne (fun z => by omega), sU_ne (fun z => by omega), sU_ne (fun z => by omega)]
      have r4_263 : W 4 263 = M 4 263 := by rw [hW, sU_ne (fun z => by omega), sU_ne (fun z => by omega), sU_ne (fun z => by omega)]
      have r4_264 : W 4 264 = M 4 264 := by rw [hW, sU_ne (fun z => by omega), sU_ne (fun z => by omega), sU_ne (fun z => by omega)]
      have r4_265 : W 4 265 = M 4 265 := by rw [hW, sU_ne (fun z => by omega), sU_ne (fun z => by omega), sU_ne (fun z => by omega)]
      have r4_266 : W 4 266 = M 4 266 := by rw [hW, sU_ne (fun z => by omega), sU_ne (fun z => by omega), sU_ne (fun z => by omega)]
      have r4_267 : W 4 267 = M 4 267 := by rw [hW, sU_ne (fun z => by omega), sU_ne (fun z => by omega), sU_ne (fun z => by omega)]
      have r4_268 : W 4 268 = M 4 268 := by rw [hW, sU_ne (fun z => by omega), sU_ne (fun z => by omega), sU_ne (fun z => by omega)]
      have r4_269 : W 4 269 = M 4 269 := by rw [hW, sU_ne (fun z => by omega), sU_ne (fun z => by omega), sU_ne (fun z => by omega)]
      have c1 : ∀ k, W 1 k = M 1 k := fun k => by rw [hW, sU_ne (fun z => by omega), sU_ne (fun z => by omega), sU_ne (fun z => by omega)]
      have e1 : W 1 = M 1 := funext c1
      have c92 : ∀ k : Nat, k ≠ (1 * ρ 1 + 0).toNat → W 92 k = M 92 k := fun k hk => by rw [hW, sU_ne (fun z => by omega), sU_ne (fun z => by omega), sU_ne (fun z => by omega)]
      have a92 : W 92 (1 * ρ 1 + 0).toNat = 1 * ρ 2 + 0 := by rw [hW, sU_ne (fun z => by omega), sU_ne (fun z => by omega), sU_at]
      unfold xSP
      rw [r4_262, r4_263, r4_264, e1]
      obtain ⟨p1, p2, p3⟩ := gx_xSP hI
      refine ⟨p1, fun q hq hl => ?_, fun q hq hl => by omega⟩
      have e4 : ∀ x, x ≠ 261 → W 4 x = M 4 x := fun x hx => by rw [hW, sU_ne (fun z => by omega), sU_ne (fun z => by omega), sU_ne (fun z => by omega)]
      rw [e4 _ (by omega)]
      exact p2 q hq hl
    have k_xSL : xSL W := by
      rw [hW]
      exact (uxSL rfl (uxSL rfl (uxSL (sinc_ok rfl _) hI.2.2.2.2.2.2.2.2.2.2.2.2.2.2.2.2.2.2.2.2.2.2.2.2.2.2.2.2.2.2.2.2.2.2.2.2.2.2.2.2.1)))
    have k_xSM : xSM W := by
      rw [hW]
      exact (uxSM rfl (uxSM rfl (uxSM (sinc_ok rfl _) hI.2.2.2.2.2.2.2.2.2.2.2.2.2.2.2.2.2.2.2.2.2.2.2.2.2.2.2.2.2.2.2.2.2.2.2.2.2.2.2.2.2.1)))
    have k_xSI : xSI W := by
      rw [hW]
      exact (uxSI rfl (uxSI rfl (uxSI (sinc_ok rfl _) hI.2.2.2.2.2.2.2.2.2.2.2.2.2.2.2.2.2.2.2.2.2.2.2.2.2.2.2.2.2.2.2.2.2.2.2.2.2.2.2.2.2.2)))
    have k_XC : XC W := ⟨k_xS1, k_xS2, k_xS3, k_xS4, k_xS5, k_xS6, k_xS7, k_xS8, k_xS9, k_xSA, k_xSG, k_xSF, k_xSB, k_xSC, k_xSD, k_xSE, k_xSW, k_xST, k_xSP, k_xSL, k_xSM, k_xSI⟩
    have kXB : XB W := ⟨k_xN1, k_xN2, k_xN3, k_xN4, k_xN5, k_xN6, k_xH1, k_xK1, k_xC1, k_xRW, k_xWT, k_xCU, k_xG2, k_xG3, k_xG4, k_xG5, k_xG6, k_XC⟩
    exact ⟨base, k2, k3, kXA, kXB⟩
-- fdC2
def xr_610 : qRu := (11, [[(-2, 0), (1, 1), (-1, 4)], [(2, 0), (-1, 1), (1, 4)], [(1, 1), (-1, 3)], [(1, 4)], [(699, 0), (-1, 1)], [(1, 1)], [(-8, 0), (1, 6)], [(8, 0), (-1, 6)], [(1, 5), (-1, 8)], [(-1, 5), (1, 8)], [(-1, 2), (1, 9)], [(1, 2), (-1, 9)], [(-1, 7), (1, 10)], [(1, 7), (-1, 10)], [(128, 0), (1, 2)], [(127, 0), (-1, 2)]], [(4, 100, []), (4, 261, [(1, 3)]), (4, 262, [(2, 0)]), (4, 263, [(1, 4)]), (4, 265, [(1, 8)]), (91, 259, [(1, 0)]), (91, 248, [(1, 10)]), (91, 258, [(1, 9)]), (91, 249, [(1, 0)]), (91, 250, [(1, 5)]), (91, 251, [(1, 6)]), (91, 252, [(1, 7)])], [(1, [(1, 1)], [(1, 2)])], [(4, 262, [(3, 0)])], [])
theorem xo_610 : qRok xr_610 := by
  intro ρ M h0 hf hm hI
  have f0 := hf [(-2, 0), (1, 1), (-1, 4)] (by decide)
  have f1 := hf [(2, 0), (-1, 1), (1, 4)] (by decide)
  have f2 := hf [(1, 1), (-1, 3)] (by decide)
  have f3 := hf [(1, 4)] (by decide)
  have f4 := hf [(699, 0), (-1, 1)] (by decide)
  have f5 := hf [(1, 1)] (by decide)
  have f6 := hf [(-8, 0), (1, 6)] (by decide)
  have f7 := hf [(8, 0), (-1, 6)] (by decide)
  have f8 := hf [(1, 5), (-1, 8)] (by decide)
  have f9 := hf [(-1, 5), (1, 8)] (by decide)
  have f10 := hf [(-1, 2), (1, 9)] (by decide)
  have f11 := hf [(1, 2), (-1, 9)] (by decide)
  have f12 := hf [(-1, 7), (1, 10)] (by decide)
  have f13 := hf [(1, 7), (-1, 10)] (by decide)
  have f14 := hf [(128, 0), (1, 2)] (by decide)
  have f15 := hf [(127, 0), (-1, 2)] (by decide)
  simp only [qD, h0] at f0 f1 f2 f3 f4 f5 f6 f7 f8 f9 f10 f11 f12 f13 f14 f15
  have m0 : M 4 100 = 0 := hm (4, 100, []) (by decide)
  have m1 : M 4 261 = 1 * ρ 3 + 0 := hm (4, 261, [(1, 3)]) (by decide)
  have m2 : M 4 262 = 2 * ρ 0 + 0 := hm (4, 262, [(2, 0)]) (by decide)
  have m3 : M 4 263 = 1 * ρ 4 + 0 := hm (4, 263, [(1, 4)]) (by decide)
  have m4 : M 4 265 = 1 * ρ 8 + 0 := hm (4, 265, [(1, 8)]) (by decide)
  have m5 : M 91 259 = 1 * ρ 0 + 0 := hm (91, 259, [(1, 0)]) (by decide)
  have m6 : M 91 248 = 1 * ρ 10 + 0 := hm (91, 248, [(1, 10)]) (by decide)
  have m7 : M 91 258 = 1 * ρ 9 + 0 := hm (91, 258, [(1, 9)]) (by decide)
  have m8 : M 91 249 = 1 * ρ 0 + 0 := hm (91, 249, [(1, 0)]) (by decide)
  have m9 : M 91 250 = 1 * ρ 5 + 0 := hm (91, 250, [(1, 5)]) (by decide)
  have m10 : M 91 251 = 1 * ρ 6 + 0 := hm (91, 251, [(1, 6)]) (by decide)
  have m11 : M 91 252 = 1 * ρ 7 + 0 := hm (91, 252, [(1, 7)]) (by decide)
  simp only [h0] at m2 m5 m8
  have qxST := hI.2.2.2.2.2.2.2.2.2.2.2.2.2.2.2.2.2.2.2.2.2.2.2.2.2.2.2.2.2.2.2.2.2.2.2.2.2.2.1
  have qxSP := hI.2.2.2.2.2.2.2.2.2.2.2.2.2.2.2.2.2.2.2.2.2.2.2.2.2.2.2.2.2.2.2.2.2.2.2.2.2.2.2.1
  obtain ⟨g1, g2, g3, g4⟩ := gx_xSE hI (by omega)
  have tb : xop 1 (M 91 252) 255 = tBy (M 4 265) 2 := by
    unfold tBy
    rw [g1, show M 91 250 = M 4 265 by omega, show M 91 251 = 8 by omega]
    rfl

  have gi := gx_xSI hI (by omega)
  rw [show M 91 248 = M 91 252 by omega] at gi
  refine ⟨ρ, fun _ _ => rfl, fun f h => ?_, ?_⟩
  · exact nomatch h
  · show sI (sU (sU M 1 (1 * ρ 1 + 0 : Int).toNat (1 * ρ 2 + 0)) 4 262 (3 * ρ 0 + 0))
    obtain ⟨W, hW⟩ : ∃ W, W = (sU (sU M 1 (1 * ρ 1 + 0).toNat (1 * ρ 2 + 0)) 4 262 (3 * ρ 0 + 0)) := ⟨_, rfl⟩
    rw [← hW]
    have base : sI0 W := by
      rw [hW]
      exact (si_u0 (si_u0 hI.1 (fun r hr => by rw [xt_1 hr]; exact ⟨by show (-128 : Int) ≤ _; omega, by show _ ≤ (127 : Int); omega⟩)) (fun r hr => by cases hr))
    have k2 : XI2 W := by
      rw [hW]
      exact (xi2_u rfl (xi2_u (sinc_ok rfl _) hI.2.1))
    have k3 : XI3 W := by
      rw [hW]
      exact (xi3_u rfl (xi3_u (sinc_ok rfl _) hI.2.2.1))
    have kXA : XA W := by
      rw [hW]
      exact (uXA rfl (uXA (sinc_ok rfl _) hI.2.2.2.1))
    have k_xN1 : xN1 W := by
      rw [hW]
      exact (uxN1 rfl (uxN1 (sinc_ok rfl _) hI.2.2.2.2.1))
    have k_xN2 : xN2 W := by
      rw [hW]
      exact (uxN2 rfl (uxN2 (sinc_ok rfl _) hI.2.2.2.2.2.1))
    have k_xN3 : xN3 W := by
      rw [hW]
      exact (uxN3 rfl (uxN3 (sinc_ok rfl _) hI.2.2.2.2.2.2.1))
    have k_xN4 : xN4 W := by
      rw [hW]
      exact (uxN4 rfl (uxN4 (sinc_ok rfl _) hI.2.2.2.2.2.2.2.1))
    have k_xN5 : xN5 W := by
      rw [hW]
      exact (uxN5 rfl (uxN5 (sinc_ok rfl _) hI.2.2.2.2.2.2.2.2.1))
    have k_xN6 : xN6 W := by
      rw [hW]
      exact (uxN6 rfl (uxN6 (sinc_ok rfl _) hI.2.2.2.2.2.2.2.2.2.1))
    have k_xH1 : xH1 W := by
      rw [hW]
      exact (uxH1 rfl (uxH1 (sinc_ok rfl _) hI.2.2.2.2.2.2.2.2.2.2.1))
    have k_xK1 : xK1 W := by
      rw [hW]
      exact (uxK1 rfl (uxK1 (sinc_ok rfl _) hI.2.2.2.2.2.2.2.2.2.2.2.1))
    have k_xC1 : xC1 W := by
      rw [hW]
      exact (uxC1 rfl (uxC1 (sinc_ok rfl _) hI.2.2.2.2.2.2.2.2.2.2.2.2.1))
    have k_xRW : xRW W := by
      rw [hW]
      exact (uxRW rfl (uxRW (sinc_ok rfl _) hI.2.2.2.2.2.2.2.2.2.2.2.2.2.1))
    have k_xWT : xWT W := by
      rw [hW]
      exact (uxWT rfl (uxWT (sinc_ok rfl _) hI.2.2.2.2.2.2.2.2.2.2.2.2.2.2.1))
    have k_xCU : xCU W := by
      rw [hW]
      exact (uxCU rfl (uxCU (sinc_ok rfl _) hI.2.2.2.2.2.2.2.2.2.2.2.2.2.2.2.1))
    have k_xG2 : xG2 W := by
      rw [hW]
      exact (uxG2 rfl (uxG2 (sinc_ok rfl _) hI.2.2.2.2.2.2.2.2.2.2.2.2.2.2.2.2.1))
    have k_xG3 : xG3 W := by
      rw [hW]
      exact (uxG3 rfl (uxG3 (sinc_ok rfl _) hI.2.2.2.2.2.2.2.2.2.2.2.2.2.2.2.2.2.1))
    have k_xG4 : xG4 W := by
      rw [hW]
      exact (uxG4 rfl (uxG4 (sinc_ok rfl _) hI.2.2.2.2.2.2.2.2.2.2.2.2.2.2.2.2.2.2.1))
    have k_xG5 : xG5 W := by
      rw [hW]
      exact (uxG5 rfl (uxG5 (sinc_ok rfl _) hI.2.2.2.2.2.2.2.2.2.2.2.2.2.2.2.2.2.2.2.1))
    have k_xG6 : xG6 W := by
      rw [hW]
      exact (uxG6 rfl (uxG6 (sinc_ok rfl _) hI.2.2.2.2.2.2.2.2.2.2.2.2.2.2.2.2.2.2.2.2.1))
    have k_xS1 : xS1 W := by
      have r : W 4 100 = 0 := by
        have e := m0
        rw [hW, sU_ne (fun z => by omega), sU_ne (fun z => by omega)]
        omega
      intro h
      rw [r] at h
      exact absurd rfl h
    have k_xS2 : xS2 W := by
      rw [hW]
      exact (uxS2 rfl (uxS2 (sinc_ok rfl _) hI.2.2.2.2.2.2.2.2.2.2.2.2.2.2.2.2.2.2.2.2.2.2.1))
    have k_xS3 : xS3 W := by
      rw [hW]
      exact (uxS3 rfl (uxS3 (sinc_ok rfl _) hI.2.2.2.2.2.2.2.2.2.2.2.2.2.2.2.2.2.2.2.2.2.2.2.1))
    have k_xS4 : xS4 W := by
      rw [hW]
      exact (uxS4 rfl (uxS4 (sinc_ok rfl _) hI.2.2.2.2.2.2.2.2.2.2.2.2.2.2.2.2.2.2.2.2.2.2.2.2.1))
    have k_xS5 : xS5 W := by
      rw [hW]
      exact (uxS5 rfl (uxS5 (sinc_ok rfl _) hI.2.2.2.2.2.2.2.2.2.2.2.2.2.2.2.2.2.2.2.2.2.2.2.2.2.1))
    have k_xS6 : xS6 W := by
      rw [hW]
      exact (uxS6 rfl (uxS6 (sinc_ok rfl _) hI.2.2.2.2.2.2.2.2.2.2.2.2.2.2.2.2.2.2.2.2.2.2.2.2.2.2.1))
    have k_xS7 : xS7 W := by
      rw [hW]
      exact (uxS7 rfl (uxS7 (sinc_ok rfl _) hI.2.2.2.2.2.2.2.2.2.2.2.2.2.2.2.2.2.2.2.2.2.2.2.2.2.2.2.1))
    have k_xS8 : xS8 W := by
      rw [hW]
      exact (uxS8 rfl (uxS8 (sinc_ok rfl _) hI.2.2.2.2.2.2.2.2.2.2.2.2.2.2.2.2.2.2.2.2.2.2.2.2.2.2.2.2.1))
    have k_xS9 : xS9 W := by
      rw [hW]
      exact (uxS9 rfl (uxS9 (sinc_ok rfl _) hI.2.2.2.2.2.2.2.2.2.2.2.2.2.2.2.2.2.2.2.2.2.2.2.2.2.2.2.2.2.1))
    have k_xSA : xSA W := by
      rw [hW]
      exact (uxSA rfl (uxSA (sinc_ok rfl _) hI.2.2.2.2.2.2.2.2.2.2.2.2.2.2.2.2.2.2.2.2.2.2.2.2.2.2.2.2.2.2.1))
    have k_xSG : xSG W := by
      rw [hW]
      exact (uxSG rfl (uxSG (sinc_ok rfl _) hI.2.2.2.2.2.2.2.2.2.2.2.2.2.2.2.2.2.2.2.2.2.2.2.2.2.2.2.2.2.2.2.1))
    have k_xSF : xSF W := by
      rw [hW]
      exact (uxSF rfl (uxSF (sinc_ok rfl _) hI.2.2.2.2.2.2.2.2.2.2.2.2.2.2.2.2.2.2.2.2.2.2.2.2.2.2.2.2.2.2.2.2.1))
    have k_xSB : xSB W := by
      rw [hW]
      exact (uxSB rfl (uxSB (sinc_ok rfl _) hI.2.2.2.2.2.2.2.2.2.2.2.2.2.2.2.2.2.2.2.2.2.2.2.2.2.2.2.2.2.2.2.2.2.1))
    have k_xSC : xSC W := by
      rw [hW]
      exact (uxSC rfl (uxSC (sinc_ok rfl _) hI.2.2.2.2.2.2.2.2.2.2.2.2.2.2.2.2.2.2.2.2.2.2.2.2.2.2.2.2.2.2.2.2.2.2.1))
    have k_xSD : xSD W := by
      rw [hW]
      exact (uxSD rfl (uxSD (sinc_ok rfl _) hI.2.2.2.2.2.2.2.2.2.2.2.2.2.2.2.2.2.2.2.2.2.2.2.2.2.2.2.2.2.2.2.2.2.2.2.1))
    have k_xSE : xSE W := by
      rw [hW]
      exact (uxSE rfl (uxSE (sinc_ok rfl _) hI.2.2.2.2.2.2.2.2.2.2.2.2.2.2.2.2.2.2.2.2.2.2.2.2.2.2.2.2.2.2.2.2.2.2.2.2.1))
    have k_xSW : xSW W := by
      rw [hW]
      exact (uxSW rfl (uxSW (sinc_ok rfl _) hI.2.2.2.2.2.2.2.2.2.2.2.2.2.2.2.2.2.2.2.2.2.2.2.2.2.2.2.2.2.2.2.2.2.2.2.2.2.1))
    have k_xST : xST W := by
      have r4_261 : W 4 261 = M 4 261 := by rw [hW, sU_ne (fun z => by omega), sU_ne (fun z => by omega)]
      have c1 : ∀ k : Nat, k ≠ (1 * ρ 1 + 0).toNat → W 1 k = M 1 k := fun k hk => by rw [hW, sU_ne (fun z => by omega), sU_ne (fun z => by omega)]
      have a1 : W 1 (1 * ρ 1 + 0).toNat = 1 * ρ 2 + 0 := by rw [hW, sU_ne (fun z => by omega), sU_at]
      have c92 : ∀ k, W 92 k = M 92 k := fun k => by rw [hW, sU_ne (fun z => by omega), sU_ne (fun z => by omega)]
      have e92 : W 92 = M 92 := funext c92
      intro i hi
      rw [r4_261] at hi
      rw [c1 i (by omega), e92]
      exact qxST i hi
    have k_xSP : xSP W := by
      have r4_262 : W 4 262 = 3 * ρ 0 + 0 := by rw [hW, sU_at]
      have r4_263 : W 4 263 = M 4 263 := by rw [hW, sU_ne (fun z => by omega), sU_ne (fun z => by omega)]
      have r4_264 : W 4 264 = M 4 264 := by rw [hW, sU_ne (fun z => by omega), sU_ne (fun z => by omega)]
      have r4_265 : W 4 265 = M 4 265 := by rw [hW, sU_ne (fun z => by omega), sU_ne (fun z => by omega)]
      have r4_266 : W 4 266 = M 4 266 := by rw [hW, sU_ne (fun z => by omega), sU_ne (fun z => by omega)]
      have r4_267 : W 4 267 = M 4 267 := by rw [hW, sU_ne (fun z => by omega), sU_ne (fun z => by omega)]
      have r4_268 : W 4 268 = M 4 268 := by rw [hW, sU_ne (fun z => by omega), sU_ne (fun z => by omega)]
      have r4_269 : W 4 269 = M 4 269 := by rw [hW, sU_ne (fun z => by omega), sU_ne (fun z => by omega)]
      have c1 : ∀ k : Nat, k ≠ (1 * ρ 1 + 0).toNat → W 1 k = M 1 k := fun k hk => by rw [hW, sU_ne (fun z => by omega), sU_ne (fun z => by omega)]
      have a1 : W 1 (1 * ρ 1 + 0).toNat = 1 * ρ 2 + 0 := by rw [hW, sU_ne (fun z => by omega), sU_at]
      have c92 : ∀ k, W 92 k = M 92 k := fun k => by rw [hW, sU_ne (fun z => by omega), sU_ne (fun z => by omega)]
      have e92 : W 92 = M 92 := funext c92
      unfold xSP
      rw [r4_262, r4_263, r4_264, e92]
      obtain ⟨p1, p2, p3⟩ := qxSP
      have e4 : ∀ x, x ≠ 262 → W 4 x = M 4 x := fun x hx => by rw [hW, sU_ne (fun z => by omega), sU_ne (fun z => by omega)]
      refine ⟨p1, fun q hq hl => ?_, fun q hq hl => by rw [e4 _ (by omega)]; exact p3 q hq hl⟩
      rw [h0] at hl
      rw [e4 _ (by omega)]
      by_cases hj : q = 2
      · subst hj
        show W 1 ((M 4 263).toNat + 2) = tSn (tBy (M 4 265) 2)
        rw [show (M 4 263).toNat + 2 = (1 * ρ 1 + 0).toNat by omega, a1, ← tb]
        have := xi2b (M 91 252)
        omega
      · rw [c1 _ (by omega)]
        exact p2 q hq (by omega)
    have k_xSL : xSL W := by
      rw [hW]
      exact (uxSL rfl (uxSL (sinc_ok rfl _) hI.2.2.2.2.2.2.2.2.2.2.2.2.2.2.2.2.2.2.2.2.2.2.2.2.2.2.2.2.2.2.2.2.2.2.2.2.2.2.2.2.1))
    have k_xSM : xSM W := by
      rw [hW]
      exact (uxSM rfl (uxSM (sinc_ok rfl _) hI.2.2.2.2.2.2.2.2.2.2.2.2.2.2.2.2.2.2.2.2.2.2.2.2.2.2.2.2.2.2.2.2.2.2.2.2.2.2.2.2.2.1))
    have k_xSI : xSI W := by
      rw [hW]
      exact (uxSI rfl (uxSI (sinc_ok rfl _) hI.2.2.2.2.2.2.2.2.2.2.2.2.2.2.2.2.2.2.2.2.2.2.2.2.2.2.2.2.2.2.2.2.2.2.2.2.2.2.2.2.2.2))
    have k_XC : XC W := ⟨k_xS1, k_xS2, k_xS3, k_xS4, k_xS5, k_xS6, k_xS7, k_xS8, k_xS9, k_xSA, k_xSG, k_xSF, k_xSB, k_xSC, k_xSD, k_xSE, k_xSW, k_xST, k_xSP, k_xSL, k_xSM, k_xSI⟩
    have kXB : XB W := ⟨k_xN1, k_xN2, k_xN3, k_xN4, k_xN5, k_xN6, k_xH1, k_xK1, k_xC1, k_xRW, k_xWT, k_xCU, k_xG2, k_xG3, k_xG4, k_xG5, k_xG6, k_XC⟩
    exact ⟨base, k2, k3, kXA, kXB⟩
-- fdW2
def xr_611 : qRu := (11, [[(-2, 0), (1, 1), (-1, 4)], [(2, 0), (-1, 1), (1, 4)], [(1, 1), (-1, 3)], [(-1, 1), (1, 3)], [(1, 4)], [(699, 0), (-1, 1)], [(1, 1)], [(-8, 0), (1, 6)], [(8, 0), (-1, 6)], [(1, 5), (-1, 8)], [(-1, 5), (1, 8)], [(-1, 2), (1, 9)], [(1, 2), (-1, 9)], [(1, 2)], [(255, 0), (-1, 2)]], [(4, 261, [(1, 3)]), (4, 262, [(20, 0)]), (4, 263, [(1, 4)]), (4, 264, []), (4, 265, [(1, 8)]), (91, 257, [(1, 9)]), (4, 100, []), (4, 200, []), (4, 210, []), (4, 212, []), (4, 214, []), (4, 220, []), (4, 233, []), (4, 235, []), (91, 249, [(1, 0)]), (91, 250, [(1, 5)]), (91, 251, [(1, 6)]), (91, 252, [(1, 7)])], [(92, [(1, 1)], [(1, 2)])], [(91, 990, [(1, 11)]), (4, 261, [(1, 0), (1, 3)])], [])
theorem xo_611 : qRok xr_611 := by
  intro ρ M h0 hf hm hI
  have f0 := hf [(-2, 0), (1, 1), (-1, 4)] (by decide)
  have f1 := hf [(2, 0), (-1, 1), (1, 4)] (by decide)
  have f2 := hf [(1, 1), (-1, 3)] (by decide)
  have f3 := hf [(-1, 1), (1, 3)] (by decide)
  have f4 := hf [(1, 4)] (by decide)
  have f5 := hf [(699, 0), (-1, 1)] (by decide)
  have f6 := hf [(1, 1)] (by decide)
  have f7 := hf [(-8, 0), (1, 6)] (by decide)
  have f8 := hf [(8, 0), (-1, 6)] (by decide)
  have f9 := hf [(1, 5), (-1, 8)] (by decide)
  have f10 := hf [(-1, 5), (1, 8)] (by decide)
  have f11 := hf [(-1, 2), (1, 9)] (by decide)
  have f12 := hf [(1, 2), (-1, 9)] (by decide)
  have f13 := hf [(1, 2)] (by decide)
  have f14 := hf [(255, 0), (-1, 2)] (by decide)
  simp only [qD, h0] at f0 f1 f2 f3 f4 f5 f6 f7 f8 f9 f10 f11 f12 f13 f14
  have m0 : M 4 261 = 1 * ρ 3 + 0 := hm (4, 261, [(1, 3)]) (by decide)
  have m1 : M 4 262 = 20 * ρ 0 + 0 := hm (4, 262, [(20, 0)]) (by decide)
  have m2 : M 4 263 = 1 * ρ 4 + 0 := hm (4, 263, [(1, 4)]) (by decide)
  have m3 : M 4 264 = 0 := hm (4, 264, []) (by decide)
  have m4 : M 4 265 = 1 * ρ 8 + 0 := hm (4, 265, [(1, 8)]) (by decide)
  have m5 : M 91 257 = 1 * ρ 9 + 0 := hm (91, 257, [(1, 9)]) (by decide)
  have m6 : M 4 100 = 0 := hm (4, 100, []) (by decide)
  have m7 : M 4 200 = 0 := hm (4, 200, []) (by decide)
  have m8 : M 4 210 = 0 := hm (4, 210, []) (by decide)
  have m9 : M 4 212 = 0 := hm (4, 212, []) (by decide)
  have m10 : M 4 214 = 0 := hm (4, 214, []) (by decide)
  have m11 : M 4 220 = 0 := hm (4, 220, []) (by decide)
  have m12 : M 4 233 = 0 := hm (4, 233, []) (by decide)
  have m13 : M 4 235 = 0 := hm (4, 235, []) (by decide)
  have m14 : M 91 249 = 1 * ρ 0 + 0 := hm (91, 249, [(1, 0)]) (by decide)
  have m15 : M 91 250 = 1 * ρ 5 + 0 := hm (91, 250, [(1, 5)]) (by decide)
  have m16 : M 91 251 = 1 * ρ 6 + 0 := hm (91, 251, [(1, 6)]) (by decide)
  have m17 : M 91 252 = 1 * ρ 7 + 0 := hm (91, 252, [(1, 7)]) (by decide)
  simp only [h0] at m1 m14
  have qxST := hI.2.2.2.2.2.2.2.2.2.2.2.2.2.2.2.2.2.2.2.2.2.2.2.2.2.2.2.2.2.2.2.2.2.2.2.2.2.2.1
  have qxSP := hI.2.2.2.2.2.2.2.2.2.2.2.2.2.2.2.2.2.2.2.2.2.2.2.2.2.2.2.2.2.2.2.2.2.2.2.2.2.2.2.1
  obtain ⟨g1, g2, g3, g4⟩ := gx_xSE hI (by omega)
  have tb : xop 1 (M 91 252) 255 = tBy (M 4 265) 2 := by
    unfold tBy
    rw [g1, show M 91 250 = M 4 265 by omega, show M 91 251 = 8 by omega]
    rfl

  have g257 := g4
  refine ⟨fun a => cond (Nat.blt a 11) (ρ a) (([xH (sU M 92 (1 * ρ 1 + 0).toNat (1 * ρ 2 + 0))] : List Int).getD (a - 11) 0), fun a ha => ?_, fun f h => ?_, ?_⟩
  · show cond (Nat.blt a 11) (ρ a) _ = ρ a
    rw [show Nat.blt a 11 = true from Nat.ble_eq_true_of_le ha]; rfl
  · exact nomatch h
  · show sI (sU (sU (sU M 92 (1 * ρ 1 + 0 : Int).toNat (1 * ρ 2 + 0)) 91 990 (1 * (xH (sU M 92 (1 * ρ 1 + 0).toNat (1 * ρ 2 + 0))) + 0)) 4 261 (1 * ρ 0 + (1 * ρ 3 + 0)))
    obtain ⟨W, hW⟩ : ∃ W, W = (sU (sU (sU M 92 (1 * ρ 1 + 0).toNat (1 * ρ 2 + 0)) 91 990 (1 * (xH (sU M 92 (1 * ρ 1 + 0).toNat (1 * ρ 2 + 0))) + 0)) 4 261 (1 * ρ 0 + (1 * ρ 3 + 0))) := ⟨_, rfl⟩
    rw [← hW]
    have base : sI0 W := by
      rw [hW]
      exact (si_u0 (si_u0 (si_u0 hI.1 (fun r hr => by rw [xt_92 hr]; exact ⟨by show (0 : Int) ≤ _; omega, by show _ ≤ (255 : Int); omega⟩)) (fun r hr => by cases hr)) (fun r hr => by cases hr))
    have k2 : XI2 W := by
      refine xi2_congr (fun o k hz ho => ?_) hI.2.1
      have h4 : ¬ (o = 4 ∧ k = 261) := fun z => by rw [z.1, z.2] at hz; exact absurd hz (by decide +kernel)
      rw [hW, sU_ne h4, sU_ne (fun z => by omega), sU_ne (fun z => by omega)]
    have k3 : XI3 W := by
      unfold XI3
      rw [hW]
      rw [sU_ne (fun z => by omega), sU_at]
      have e : ∀ o' k' x y, ¬ (o' = 91 ∧ k' = 990) → ¬ (o' = 4 ∧ k' = 261) → sU (sU (sU M 92 (1 * ρ 1 + 0).toNat (1 * ρ 2 + 0)) 91 990 x) 4 261 y o' k' = sU M 92 (1 * ρ 1 + 0).toNat (1 * ρ 2 + 0) o' k' := fun o' k' x y h h' => by rw [sU_ne h', sU_ne h]
      rw [show ∀ z : Int, 1 * z + 0 = z from fun z => by omega]
      unfold xH
      rw [e _ _ _ _ (by omega) (by omega), e _ _ _ _ (by omega) (by omega), e _ _ _ _ (by omega) (by omega)]
    have kXA : XA W := by
      rw [hW]
      exact (uXA rfl (uXA rfl (uXA (sinc_ok rfl _) hI.2.2.2.1)))
    have k_xN1 : xN1 W := by
      rw [hW]
      exact (uxN1 rfl (uxN1 rfl (uxN1 (sinc_ok rfl _) hI.2.2.2.2.1)))
    have k_xN2 : xN2 W := by
      rw [hW]
      exact (uxN2 rfl (uxN2 rfl (uxN2 (sinc_ok rfl _) hI.2.2.2.2.2.1)))
    have k_xN3 : xN3 W := by
      rw [hW]
      exact (uxN3 rfl (uxN3 rfl (uxN3 (sinc_ok rfl _) hI.2.2.2.2.2.2.1)))
    have k_xN4 : xN4 W := by
      rw [hW]
      exact (uxN4 rfl (uxN4 rfl (uxN4 (sinc_ok rfl _) hI.2.2.2.2.2.2.2.1)))
    have k_xN5 : xN5 W := by
      rw [hW]
      exact (uxN5 rfl (uxN5 rfl (uxN5 (sinc_ok rfl _) hI.2.2.2.2.2.2.2.2.1)))
    have k_xN6 : xN6 W := by
      rw [hW]
      exact (uxN6 rfl (uxN6 rfl (uxN6 (sinc_ok rfl _) hI.2.2.2.2.2.2.2.2.2.1)))
    have k_xH1 : xH1 W := by
      rw [hW]
      exact (uxH1 rfl (uxH1 rfl (uxH1 (sinc_ok rfl _) hI.2.2.2.2.2.2.2.2.2.2.1)))
    have k_xK1 : xK1 W := by
      rw [hW]
      exact (uxK1 rfl (uxK1 rfl (uxK1 (sinc_ok rfl _) hI.2.2.2.2.2.2.2.2.2.2.2.1)))
    have k_xC1 : xC1 W := by
      rw [hW]
      exact (uxC1 rfl (uxC1 rfl (uxC1 (sinc_ok rfl _) hI.2.2.2.2.2.2.2.2.2.2.2.2.1)))
    have k_xRW : xRW W := by
      rw [hW]
      exact (uxRW rfl (uxRW rfl (uxRW (sinc_ok rfl _) hI.2.2.2.2.2.2.2.2.2.2.2.2.2.1)))
    have k_xWT : xWT W := by
      rw [hW]
      exact (uxWT rfl (uxWT rfl (uxWT (sinc_ok rfl _) hI.2.2.2.2.2.2.2.2.2.2.2.2.2.2.1)))
    have k_xCU : xCU W := by
      rw [hW]
      exact (uxCU rfl (uxCU rfl (uxCU (sinc_ok rfl _) hI.2.2.2.2.2.2.2.2.2.2.2.2.2.2.2.1)))
    have k_xG2 : xG2 W := by
      rw [hW]
      exact (uxG2 rfl (uxG2 rfl (uxG2 (sinc_ok rfl _) hI.2.2.2.2.2.2.2.2.2.2.2.2.2.2.2.2.1)))
    have k_xG3 : xG3 W := by
      rw [hW]
      exact (uxG3 rfl (uxG3 rfl (uxG3 (sinc_ok rfl _) hI.2.2.2.2.2.2.2.2.2.2.2.2.2.2.2.2.2.1)))
    have k_xG4 : xG4 W := by
      rw [hW]
      exact (uxG4 rfl (uxG4 rfl (uxG4 (sinc_ok rfl _) hI.2.2.2.2.2.2.2.2.2.2.2.2.2.2.2.2.2.2.1)))
    have k_xG5 : xG5 W := by
      rw [hW]
      exact (uxG5 rfl (uxG5 rfl (uxG5 (sinc_ok rfl _) hI.2.2.2.2.2.2.2.2.2.2.2.2.2.2.2.2.2.2.2.1)))
    have k_xG6 : xG6 W := by
      rw [hW]
      exact (uxG6 rfl (uxG6 rfl (uxG6 (sinc_ok rfl _) hI.2.2.2.2.2.2.2.2.2.2.2.2.2.2.2.2.2.2.2.2.1)))
    have k_xS1 : xS1 W := by
      have r : W 4 100 = 0 := by
        have e := m6
        rw [hW, sU_ne (fun z => by omega), sU_ne (fun z => by omega), sU_ne (fun z => by omega)]
        omega
      intro h
      rw [r] at h
      exact absurd rfl h
    have k_xS2 : xS2 W := by
      have r : W 4 100 = 0 := by
        have e := m6
        rw [hW, sU_ne (fun z => by omega), sU_ne (fun z => by omega), sU_ne (fun z => by omega)]
        omega
      intro h
      rw [r] at h
      exact absurd rfl h
    have k_xS3 : xS3 W := by
      have r : W 4 100 = 0 := by
        have e := m6
        rw [hW, sU_ne (fun z => by omega), sU_ne (fun z => by omega), sU_ne (fun z => by omega)]
        omega
      intro h
      rw [r] at h
      exact absurd rfl h
    have k_xS4 : xS4 W := by
      rw [hW]
      exact (uxS4 rfl (uxS4 rfl (uxS4 (sinc_ok rfl _) hI.2.2.2.2.2.2.2.2.2.2.2.2.2.2.2.2.2.2.2.2.2.2.2.2.1)))
    have k_xS5 : xS5 W := by
      rw [hW]
      exact (uxS5 rfl (uxS5 rfl (uxS5 (sinc_ok rfl _) hI.2.2.2.2.2.2.2.2.2.2.2.2.2.2.2.2.2.2.2.2.2.2.2.2.2.1)))
    have k_xS6 : xS6 W := by
      rw [hW]
      exact (uxS6 rfl (uxS6 rfl (uxS6 (sinc_ok rfl _) hI.2.2.2.2.2.2.2.2.2.2.2.2.2.2.2.2.2.2.2.2.2.2.2.2.2.2.1)))
    have k_xS7 : xS7 W := by
      have r : W 4 200 = 0 := by
        have e := m7
        rw [hW, sU_ne (fun z => by omega), sU_ne (fun z => by omega), sU_ne (fun z => by omega)]
        omega
      intro h
      rw [r] at h
      omega
    have k_xS8 : xS8 W := by
      have r : W 4 210 = 0 := by
        have e := m8
        rw [hW, sU_ne (fun z => by omega), sU_ne (fun z => by omega), sU_ne (fun z => by omega)]
        omega
      intro h
      rw [r] at h
      omega
    have k_xS9 : xS9 W := by
      have r : W 4 212 = 0 := by
        have e := m9
        rw [hW, sU_ne (fun z => by omega), sU_ne (fun z => by omega), sU_ne (fun z => by omega)]
        omega
      intro h
      rw [r] at h
      omega
    have k_xSA : xSA W := by
      have r : W 4 214 = 0 := by
        have e := m10
        rw [hW, sU_ne (fun z => by omega), sU_ne (fun z => by omega), sU_ne (fun z => by omega)]
        omega
      intro h
      rw [r] at h
      omega
    have k_xSG : xSG W := by
      have r : W 4 235 = 0 := by
        have e := m13
        rw [hW, sU_ne (fun z => by omega), sU_ne (fun z => by omega), sU_ne (fun z => by omega)]
        omega
      intro h
      rw [r] at h
      omega
    have k_xSF : xSF W := by
      have r : W 4 233 = 0 := by
        have e := m12
        rw [hW, sU_ne (fun z => by omega), sU_ne (fun z => by omega), sU_ne (fun z => by omega)]
        omega
      intro h
      rw [r] at h
      omega
    have k_xSB : xSB W := by
      have r : W 4 220 = 0 := by
        have e := m11
        rw [hW, sU_ne (fun z => by omega), sU_ne (fun z => by omega), sU_ne (fun z => by omega)]
        omega
      intro h
      rw [r] at h
      omega
    have k_xSC : xSC W := by
      rw [hW]
      exact (uxSC rfl (uxSC rfl (uxSC (sinc_ok rfl _) hI.2.2.2.2.2.2.2.2.2.2.2.2.2.2.2.2.2.2.2.2.2.2.2.2.2.2.2.2.2.2.2.2.2.2.1)))
    have k_xSD : xSD W := by
      rw [hW]
      exact (uxSD rfl (uxSD rfl (uxSD (sinc_ok rfl _) hI.2.2.2.2.2.2.2.2.2.2.2.2.2.2.2.2.2.2.2.2.2.2.2.2.2.2.2.2.2.2.2.2.2.2.2.1)))
    have k_xSE : xSE W := by
      rw [hW]
      exact (uxSE rfl (uxSE rfl (uxSE (sinc_ok rfl _) hI.2.2.2.2.2.2.2.2.2.2.2.2.2.2.2.2.2.2.2.2.2.2.2.2.2.2.2.2.2.2.2.2.2.2.2.2.1)))
    have k_xSW : xSW W := by
      rw [hW]
      exact (uxSW rfl (uxSW rfl (uxSW (sinc_ok rfl _) hI.2.2.2.2.2.2.2.2.2.2.2.2.2.2.2.2.2.2.2.2.2.2.2.2.2.2.2.2.2.2.2.2.2.2.2.2.2.1)))
    have k_xST : xST W := by
      have r4_261 : W 4 261 = 1 * ρ 0 + (1 * ρ 3 + 0) := by rw [hW, sU_at]
      have c1 : ∀ k, W 1 k = M 1 k := fun k => by rw [hW, sU_ne (fun z => by omega), sU_ne (fun z => by omega), sU_ne (fun z => by omega)]
      have e1 : W 1 = M 1 := funext c1
      have c92 : ∀ k : Nat, k ≠ (1 * ρ 1 + 0).toNat → W 92 k = M 92 k := fun k hk => by rw [hW, sU_ne (fun z => by omega), sU_ne (fun z => by omega), sU_ne (fun z => by omega)]
      have a92 : W 92 (1 * ρ 1 + 0).toNat = 1 * ρ 2 + 0 := by rw [hW, sU_ne (fun z => by omega), sU_ne (fun z => by omega), sU_at]
      intro i hi
      rw [r4_261, h0] at hi
      rw [e1]
      by_cases hx : i = (1 * ρ 1 + 0).toNat
      · rw [hx, a92]
        obtain ⟨p1, p2, p3⟩ := gx_xSP hI
        have := p2 2 (by omega) (by omega)
        rw [show (M 4 263).toNat + 2 = (1 * ρ 1 + 0).toNat by omega] at this
        have this : M 1 (1 * ρ 1 + 0).toNat = tSn (tBy (M 4 265) 2) := this
        rw [this, ← tb]
        congr 1
        omega
      · rw [c92 i hx]
        exact qxST i (by omega)
    have k_xSP : xSP W := by
      have r4_262 : W 4 262 = M 4 262 := by rw [hW, sU_ne (fun z => by omega), sU_ne (fun z => by omega), sU_ne (fun z => by omega)]
      have r4_263 : W 4 263 = M 4 263 := by rw [hW, sU_ne (fun z => by omega), sU_ne (fun z => by omega), sU_ne (fun z => by omega)]
      have r4_264 : W 4 264 = M 4 264 := by rw [hW, sU_ne (fun z => by omega), sU_ne (fun z => by omega), sU_ne (fun z => by omega)]
      have r4_265 : W 4 265 = M 4 265 := by rw [hW, sU_ne (fun z => by omega), sU_ne (fun z => by omega), sU_ne (fun z => by omega)]
      have r4_266 : W 4 266 = M 4 266 := by rw [hW, sU_ne (fun z => by omega), sU_ne (fun z => by omega), sU_ne (fun z => by omega)]
      have r4_267 : W 4 267 = M 4 267 := by rw [hW, sU_ne (fun z => by omega), sU_ne (fun z => by omega), sU_ne (fun z => by omega)]
      have r4_268 : W 4 268 = M 4 268 := by rw [hW, sU_ne (fun z => by omega), sU_ne (fun z => by omega), sU_ne (fun z => by omega)]
      have r4_269 : W 4 269 = M 4 269 := by rw [hW, sU_ne (fun z => by omega), sU_ne (fun z => by omega), sU_ne (fun z => by omega)]
      have c1 : ∀ k, W 1 k = M 1 k := fun k => by rw [hW, sU_ne (fun z => by omega), sU_ne (fun z => by omega), sU_ne (fun z => by omega)]
      have e1 : W 1 = M 1 := funext c1
      have c92 : ∀ k : Nat, k ≠ (1 * ρ 1 + 0).toNat → W 92 k = M 92 k := fun k hk => by rw [hW, sU_ne (fun z => by omega), sU_ne (fun z => by omega), sU_ne (fun z => by omega)]
      have a92 : W 92 (1 * ρ 1 + 0).toNat = 1 * ρ 2 + 0 := by rw [hW, sU_ne (fun z => by omega), sU_ne (fun z => by omega), sU_at]
      unfold xSP
      rw [r4_262, r4_263, r4_264, e1]
      obtain ⟨p1, p2, p3⟩ := gx_xSP hI
      refine ⟨p1, fun q hq hl => ?_, fun q hq hl => by omega⟩
      have e4 : ∀ x, x ≠ 261 → W 4 x = M 4 x := fun x hx => by rw [hW, sU_ne (fun z => by omega), sU_ne (fun z => by omega), sU_ne (fun z => by omega)]
      rw [e4 _ (by omega)]
      exact p2 q hq hl
    have k_xSL : xSL W := by
      rw [hW]
      exact (uxSL rfl (uxSL rfl (uxSL (sinc_ok rfl _) hI.2.2.2.2.2.2.2.2.2.2.2.2.2.2.2.2.2.2.2.2.2.2.2.2.2.2.2.2.2.2.2.2.2.2.2.2.2.2.2.2.1)))
    have k_xSM : xSM W := by
      rw [hW]
      exact (uxSM rfl (uxSM rfl (uxSM (sinc_ok rfl _) hI.2.2.2.2.2.2.2.2.2.2.2.2.2.2.2.2.2.2.2.2.2.2.2.2.2.2.2.2.2.2.2.2.2.2.2.2.2.2.2.2.2.1)))
    have k_xSI : xSI W := by
      rw [hW]
      exact (uxSI rfl (uxSI rfl (uxSI (sinc_ok rfl _) hI.2.2.2.2.2.2.2.2.2.2.2.2.2.2.2.2.2.2.2.2.2.2.2.2.2.2.2.2.2.2.2.2.2.2.2.2.2.2.2.2.2.2)))
    have k_XC : XC W := ⟨k_xS1, k_xS2, k_xS3, k_xS4, k_xS5, k_xS6, k_xS7, k_xS8, k_xS9, k_xSA, k_xSG, k_xSF, k_xSB, k_xSC, k_xSD, k_xSE, k_xSW, k_xST, k_xSP, k_xSL, k_xSM, k_xSI⟩
    have kXB : XB W := ⟨k_xN1, k_xN2, k_xN3, k_xN4, k_xN5, k_xN6, k_xH1, k_xK1, k_xC1, k_xRW, k_xWT, k_xCU, k_xG2, k_xG3, k_xG4, k_xG5, k_xG6, k_XC⟩
    exact ⟨base, k2, k3, kXA, kXB⟩
-- fdC3
def xr_612 : qRu := (11, [[(-3, 0), (1, 1), (-1, 4)], [(3, 0), (-1, 1), (1, 4)], [(1, 1), (-1, 3)], [(1, 4)], [(699, 0), (-1, 1)], [(1, 1)], [(1, 6)], [(-1, 6)], [(1, 5), (-1, 8)], [(-1, 5), (1, 8)], [(-1, 2), (1, 9)], [(1, 2), (-1, 9)], [(-1, 7), (1, 10)], [(1, 7), (-1, 10)], [(128, 0), (1, 2)], [(127, 0), (-1, 2)]], [(4, 100, []), (4, 261, [(1, 3)]), (4, 262, [(3, 0)]), (4, 263, [(1, 4)]), (4, 265, [(1, 8)]), (91, 259, [(1, 0)]), (91, 248, [(1, 10)]), (91, 258, [(1, 9)]), (91, 249, [(1, 0)]), (91, 250, [(1, 5)]), (91, 251, [(1, 6)]), (91, 252, [(1, 7)])], [(1, [(1, 1)], [(1, 2)])], [(4, 262, [(4, 0)])], [])
theorem xo_612 : qRok xr_612 := by
  intro ρ M h0 hf hm hI
  have f0 := hf [(-3, 0), (1, 1), (-1, 4)] (by decide)
  have f1 := hf [(3, 0), (-1, 1), (1, 4)] (by decide)
  have f2 := hf [(1, 1), (-1, 3)] (by decide)
  have f3 := hf [(1, 4)] (by decide)
  have f4 := hf [(699, 0), (-1, 1)] (by decide)
  have f5 := hf [(1, 1)] (by decide)
  have f6 := hf [(1, 6)] (by decide)
  have f7 := hf [(-1, 6)] (by decide)
  have f8 := hf [(1, 5), (-1, 8)] (by decide)
  have f9 := hf [(-1, 5), (1, 8)] (by decide)
  have f10 := hf [(-1, 2), (1, 9)] (by decide)
  have f11 := hf [(1, 2), (-1, 9)] (by decide)
  have f12 := hf [(-1, 7), (1, 10)] (by decide)
  have f13 := hf [(1, 7), (-1, 10)] (by decide)
  have f14 := hf [(128, 0), (1, 2)] (by decide)
  have f15 := hf [(127, 0), (-1, 2)] (by decide)
  simp only [qD, h0] at f0 f1 f2 f3 f4 f5 f6 f7 f8 f9 f10 f11 f12 f13 f14 f15
  have m0 : M 4 100 = 0 := hm (4, 100, []) (by decide)
  have m1 : M 4 261 = 1 * ρ 3 + 0 := hm (4, 261, [(1, 3)]) (by decide)
  have m2 : M 4 262 = 3 * ρ 0 + 0 := hm (4, 262, [(3, 0)]) (by decide)
  have m3 : M 4 263 = 1 * ρ 4 + 0 := hm (4, 263, [(1, 4)]) (by decide)
  have m4 : M 4 265 = 1 * ρ 8 + 0 := hm (4, 265, [(1, 8)]) (by decide)
  have m5 : M 91 259 = 1 * ρ 0 + 0 := hm (91, 259, [(1, 0)]) (by decide)
  have m6 : M 91 248 = 1 * ρ 10 + 0 := hm (91, 248, [(1, 10)]) (by decide)
  have m7 : M 91 258 = 1 * ρ 9 + 0 := hm (91, 258, [(1, 9)]) (by decide)
  have m8 : M 91 249 = 1 * ρ 0 + 0 := hm (91, 249, [(1, 0)]) (by decide)
  have m9 : M 91 250 = 1 * ρ 5 + 0 := hm (91, 250, [(1, 5)]) (by decide)
  have m10 : M 91 251 = 1 * ρ 6 + 0 := hm (91, 251, [(1, 6)]) (by decide)
  have m11 : M 91 252 = 1 * ρ 7 + 0 := hm (91, 252, [(1, 7)]) (by decide)
  simp only [h0] at m2 m5 m8
  have qxST := hI.2.2.2.2.2.2.2.2.2.2.2.2.2.2.2.2.2.2.2.2.2.2.2.2.2.2.2.2.2.2.2.2.2.2.2.2.2.2.1
  have qxSP := hI.2.2.2.2.2.2.2.2.2.2.2.2.2.2.2.2.2.2.2.2.2.2.2.2.2.2.2.2.2.2.2.2.2.2.2.2.2.2.2.1
  obtain ⟨g1, g2, g3, g4⟩ := gx_xSE hI (by omega)
  have tb : xop 1 (M 91 252) 255 = tBy (M 4 265) 3 := by
    unfold tBy
    rw [g1, show M 91 250 = M 4 265 by omega, show M 91 251 = 0 by omega]
    rfl

  have gi := gx_xSI hI (by omega)
  rw [show M 91 248 = M 91 252 by omega] at gi
  refine ⟨ρ, fun _ _ => rfl, fun f h => ?_, ?_⟩
  · exact nomatch h
  · show sI (sU (sU M 1 (1 * ρ 1 + 0 : Int).toNat (1 * ρ 2 + 0)) 4 262 (4 * ρ 0 + 0))
    obtain ⟨W, hW⟩ : ∃ W, W = (sU (sU M 1 (1 * ρ 1 + 0).toNat (1 * ρ 2 + 0)) 4 262 (4 * ρ 0 + 0)) := ⟨_, rfl⟩
    rw [← hW]
    have base : sI0 W := by
      rw [hW]
      exact (si_u0 (si_u0 hI.1 (fun r hr => by rw [xt_1 hr]; exact ⟨by show (-128 : Int) ≤ _; omega, by show _ ≤ (127 : Int); omega⟩)) (fun r hr => by cases hr))
    have k2 : XI2 W := by
      rw [hW]
      exact (xi2_u rfl (xi2_u (sinc_ok rfl _) hI.2.1))
    have k3 : XI3 W := by
      rw [hW]
      exact (xi3_u rfl (xi3_u (sinc_ok rfl _) hI.2.2.1))
    have kXA : XA W := by
      rw [hW]
      exact (uXA rfl (uXA (sinc_ok rfl _) hI.2.2.2.1))
    have k_xN1 : xN1 W := by
      rw [hW]
      exact (uxN1 rfl (uxN1 (sinc_ok rfl _) hI.2.2.2.2.1))
    have k_xN2 : xN2 W := by
      rw [hW]
      exact (uxN2 rfl (uxN2 (sinc_ok rfl _) hI.2.2.2.2.2.1))
    have k_xN3 : xN3 W := by
      rw [hW]
      exact (uxN3 rfl (uxN3 (sinc_ok rfl _) hI.2.2.2.2.2.2.1))
    have k_xN4 : xN4 W := by
      rw [hW]
      exact (uxN4 rfl (uxN4 (sinc_ok rfl _) hI.2.2.2.2.2.2.2.1))
    have k_xN5 : xN5 W := by
      rw [hW]
      exact (uxN5 rfl (uxN5 (sinc_ok rfl _) hI.2.2.2.2.2.2.2.2.1))
    have k_xN6 : xN6 W := by
      rw [hW]
      exact (uxN6 rfl (uxN6 (sinc_ok rfl _) hI.2.2.2.2.2.2.2.2.2.1))
    have k_xH1 : xH1 W := by
      rw [hW]
      exact (uxH1 rfl (uxH1 (sinc_ok rfl _) hI.2.2.2.2.2.2.2.2.2.2.1))
    have k_xK1 : xK1 W := by
      rw [hW]
      exact (uxK1 rfl (uxK1 (sinc_ok rfl _) hI.2.2.2.2.2.2.2.2.2.2.2.1))
    have k_xC1 : xC1 W := by
      rw [hW]
      exact (uxC1 rfl (uxC1 (sinc_ok rfl _) hI.2.2.2.2.2.2.2.2.2.2.2.2.1))
    have k_xRW : xRW W := by
      rw [hW]
      exact (uxRW rfl (uxRW (sinc_ok rfl _) hI.2.2.2.2.2.2.2.2.2.2.2.2.2.1))
    have k_xWT : xWT W := by
      rw [hW]
      exact (uxWT rfl (uxWT (sinc_ok rfl _) hI.2.2.2.2.2.2.2.2.2.2.2.2.2.2.1))
    have k_xCU : xCU W := by
      rw [hW]
      exact (uxCU rfl (uxCU (sinc_ok rfl _) hI.2.2.2.2.2.2.2.2.2.2.2.2.2.2.2.1))
    have k_xG2 : xG2 W := by
      rw [hW]
      exact (uxG2 rfl (uxG2 (sinc_ok rfl _) hI.2.2.2.2.2.2.2.2.2.2.2.2.2.2.2.2.1))
    have k_xG3 : xG3 W := by
      rw [hW]
      exact (uxG3 rfl (uxG3 (sinc_ok rfl _) hI.2.2.2.2.2.2.2.2.2.2.2.2.2.2.2.2.2.1))
    have k_xG4 : xG4 W := by
      rw [hW]
      exact (uxG4 rfl (uxG4 (sinc_ok rfl _) hI.2.2.2.2.2.2.2.2.2.2.2.2.2.2.2.2.2.2.1))
    have k_xG5 : xG5 W := by
      rw [hW]
      exact (uxG5 rfl (uxG5 (sinc_ok rfl _) hI.2.2.2.2.2.2.2.2.2.2.2.2.2.2.2.2.2.2.2.1))
    have k_xG6 : xG6 W := by
      rw [hW]
      exact (uxG6 rfl (uxG6 (sinc_ok rfl _) hI.2.2.2.2.2.2.2.2.2.2.2.2.2.2.2.2.2.2.2.2.1))
    have k_xS1 : xS1 W := by
      have r : W 4 100 = 0 := by
        have e := m0
        rw [hW, sU_ne (fun z => by omega), sU_ne (fun z => by omega)]
        omega
      intro h
      rw [r] at h
      exact absurd rfl h
    have k_xS2 : xS2 W := by
      rw [hW]
      exact (uxS2 rfl (uxS2 (sinc_ok rfl _) hI.2.2.2.2.2.2.2.2.2.2.2.2.2.2.2.2.2.2.2.2.2.2.1))
    have k_xS3 : xS3 W := by
      rw [hW]
      exact (uxS3 rfl (uxS3 (sinc_ok rfl _) hI.2.2.2.2.2.2.2.2.2.2.2.2.2.2.2.2.2.2.2.2.2.2.2.1))
    have k_xS4 : xS4 W := by
      rw [hW]
      exact (uxS4 rfl (uxS4 (sinc_ok rfl _) hI.2.2.2.2.2.2.2.2.2.2.2.2.2.2.2.2.2.2.2.2.2.2.2.2.1))
    have k_xS5 : xS5 W := by
      rw [hW]
      exact (uxS5 rfl (uxS5 (sinc_ok rfl _) hI.2.2.2.2.2.2.2.2.2.2.2.2.2.2.2.2.2.2.2.2.2.2.2.2.2.1))
    have k_xS6 : xS6 W := by
      rw [hW]
      exact (uxS6 rfl (uxS6 (sinc_ok rfl _) hI.2.2.2.2.2.2.2.2.2.2.2.2.2.2.2.2.2.2.2.2.2.2.2.2.2.2.1))
    have k_xS7 : xS7 W := by
      rw [hW]
      exact (uxS7 rfl (uxS7 (sinc_ok rfl _) hI.2.2.2.2.2.2.2.2.2.2.2.2.2.2.2.2.2.2.2.2.2.2.2.2.2.2.2.1))
    have k_xS8 : xS8 W := by
      rw [hW]
      exact (uxS8 rfl (uxS8 (sinc_ok rfl _) hI.2.2.2.2.2.2.2.2.2.2.2.2.2.2.2.2.2.2.2.2.2.2.2.2.2.2.2.2.1))
    have k_xS9 : xS9 W := by
      rw [hW]
      exact (uxS9 rfl (uxS9 (sinc_ok rfl _) hI.2.2.2.2.2.2.2.2.2.2.2.2.2.2.2.2.2.2.2.2.2.2.2.2.2.2.2.2.2.1))
    have k_xSA : xSA W := by
      rw [hW]
      exact (uxSA rfl (uxSA (sinc_ok rfl _) hI.2.2.2.2.2.2.2.2.2.2.2.2.2.2.2.2.2.2.2.2.2.2.2.2.2.2.2.2.2.2.1))
    have k_xSG : xSG W := by
      rw [hW]
      exact (uxSG rfl (uxSG (sinc_ok rfl _) hI.2.2.2.2.2.2.2.2.2.2.2.2.2.2.2.2.2.2.2.2.2.2.2.2.2.2.2.2.2.2.2.1))
    have k_xSF : xSF W := by
      rw [hW]
      exact (uxSF rfl (uxSF (sinc_ok rfl _) hI.2.2.2.2.2.2.2.2.2.2.2.2.2.2.2.2.2.2.2.2.2.2.2.2.2.2.2.2.2.2.2.2.1))
    have k_xSB : xSB W := by
      rw [hW]
      exact (uxSB rfl (uxSB (sinc_ok rfl _) hI.2.2.2.2.2.2.2.2.2.2.2.2.2.2.2.2.2.2.2.2.2.2.2.2.2.2.2.2.2.2.2.2.2.1))
    have k_xSC : xSC W := by
      rw [hW]
      exact (uxSC rfl (uxSC (sinc_ok rfl _) hI.2.2.2.2.2.2.2.2.2.2.2.2.2.2.2.2.2.2.2.2.2.2.2.2.2.2.2.2.2.2.2.2.2.2.1))
    have k_xSD : xSD W := by
      rw [hW]
      exact (uxSD rfl (uxSD (sinc_ok rfl _) hI.2.2.2.2.2.2.2.2.2.2.2.2.2.2.2.2.2.2.2.2.2.2.2.2.2.2.2.2.2.2.2.2.2.2.2.1))
    have k_xSE : xSE W := by
      rw [hW]
      exact (uxSE rfl (uxSE (sinc_ok rfl _) hI.2.2.2.2.2.2.2.2.2.2.2.2.2.2.2.2.2.2.2.2.2.2.2.2.2.2.2.2.2.2.2.2.2.2.2.2.1))
    have k_xSW : xSW W := by
      rw [hW]
      exact (uxSW rfl (uxSW (sinc_ok rfl _) hI.2.2.2.2.2.2.2.2.2.2.2.2.2.2.2.2.2.2.2.2.2.2.2.2.2.2.2.2.2.2.2.2.2.2.2.2.2.1))
    have k_xST : xST W := by
      have r4_261 : W 4 261 = M 4 261 := by rw [hW, sU_ne (fun z => by omega), sU_ne (fun z => by omega)]
      have c1 : ∀ k : Nat, k ≠ (1 * ρ 1 + 0).toNat → W 1 k = M 1 k := fun k hk => by rw [hW, sU_ne (fun z => by omega), sU_ne (fun z => by omega)]
      have a1 : W 1 (1 * ρ 1 + 0).toNat = 1 * ρ 2 + 0 := by rw [hW, sU_ne (fun z => by omega), sU_at]
      have c92 : ∀ k, W 92 k = M 92 k := fun k => by rw [hW, sU_ne (fun z => by omega), sU_ne (fun z => by omega)]
      have e92 : W 92 = M 92 := funext c92
      intro i hi
      rw [r4_261] at hi
      rw [c1 i (by omega), e92]
      exact qxST i hi
    have k_xSP : xSP W := by
      have r4_262 : W 4 262 = 4 * ρ 0 + 0 := by rw [hW, sU_at]
      have r4_263 : W 4 263 = M 4 263 := by rw [hW, sU_ne (fun z => by omega), sU_ne (fun z => by omega)]
      have r4_264 : W 4 264 = M 4 264 := by rw [hW, sU_ne (fun z => by omega), sU_ne (fun z => by omega)]
      have r4_265 : W 4 265 = M 4 265 := by rw [hW, sU_ne (fun z => by omega), sU_ne (fun z => by omega)]
      have r4_266 : W 4 266 = M 4 266 := by rw [hW, sU_ne (fun z => by omega), sU_ne (fun z => by omega)]
      have r4_267 : W 4 267 = M 4 267 := by rw [hW, sU_ne (fun z => by omega), sU_ne (fun z => by omega)]
      have r4_268 : W 4 268 = M 4 268 := by rw [hW, sU_ne (fun z => by omega), sU_ne (fun z => by omega)]
      have r4_269 : W 4 269 = M 4 269 := by rw [hW, sU_ne (fun z => by omega), sU_ne (fun z => by omega)]
      have c1 : ∀ k : Nat, k ≠ (1 * ρ 1 + 0).toNat → W 1 k = M 1 k := fun k hk => by rw [hW, sU_ne (fun z => by omega), sU_ne (fun z => by omega)]
      have a1 : W 1 (1 * ρ 1 + 0).toNat = 1 * ρ 2 + 0 := by rw [hW, sU_ne (fun z => by omega), sU_at]
      have c92 : ∀ k, W 92 k = M 92 k := fun k => by rw [hW, sU_ne (fun z => by omega), sU_ne (fun z => by omega)]
      have e92 : W 92 = M 92 := funext c92
      unfold xSP
      rw [r4_262, r4_263, r4_264, e92]
      obtain ⟨p1, p2, p3⟩ := qxSP
      have e4 : ∀ x, x ≠ 262 → W 4 x = M 4 x := fun x hx => by rw [hW, sU_ne (fun z => by omega), sU_ne (fun z => by omega)]
      refine ⟨p1, fun q hq hl => ?_, fun q hq hl => by rw [e4 _ (by omega)]; exact p3 q hq hl⟩
      rw [h0] at hl
      rw [e4 _ (by omega)]
      by_cases hj : q = 3
      · subst hj
        show W 1 ((M 4 263).toNat + 3) = tSn (tBy (M 4 265) 3)
        rw [show (M 4 263).toNat + 3 = (1 * ρ 1 + 0).toNat by omega, a1, ← tb]
        have := xi2b (M 91 252)
        omega
      · rw [c1 _ (by omega)]
        exact p2 q hq (by omega)
    have k_xSL : xSL W := by
      rw [hW]
      exact (uxSL rfl (uxSL (sinc_ok rfl _) hI.2.2.2.2.2.2.2.2.2.2.2.2.2.2.2.2.2.2.2.2.2.2.2.2.2.2.2.2.2.2.2.2.2.2.2.2.2.2.2.2.1))
    have k_xSM : xSM W := by
      rw [hW]
      exact (uxSM rfl (uxSM (sinc_ok rfl _) hI.2.2.2.2.2.2.2.2.2.2.2.2.2.2.2.2.2.2.2.2.2.2.2.2.2.2.2.2.2.2.2.2.2.2.2.2.2.2.2.2.2.1))
    have k_xSI : xSI W := by
      rw [hW]
      exact (uxSI rfl (uxSI (sinc_ok rfl _) hI.2.2.2.2.2.2.2.2.2.2.2.2.2.2.2.2.2.2.2.2.2.2.2.2.2.2.2.2.2.2.2.2.2.2.2.2.2.2.2.2.2.2))
    have k_XC : XC W := ⟨k_xS1, k_xS2, k_xS3, k_xS4, k_xS5, k_xS6, k_xS7, k_xS8, k_xS9, k_xSA, k_xSG, k_xSF, k_xSB, k_xSC, k_xSD, k_xSE, k_xSW, k_xST, k_xSP, k_xSL, k_xSM, k_xSI⟩
    have kXB : XB W := ⟨k_xN1, k_xN2, k_xN3, k_xN4, k_xN5, k_xN6, k_xH1, k_xK1, k_xC1, k_xRW, k_xWT, k_xCU, k_xG2, k_xG3, k_xG4, k_xG5, k_xG6, k_XC⟩
    exact ⟨base, k2, k3, kXA, kXB⟩
-- fdW3
def xr_613 : qRu := (11, [[(-3, 0), (1, 1), (-1, 4)], [(3, 0), (-1, 1), (1, 4)], [(1, 1), (-1, 3)], [(-1, 1), (1, 3)], [(1, 4)], [(699, 0), (-1, 1)], [(1, 1)], [(1, 6)], [(-1, 6)], [(1, 5), (-1, 8)], [(-1, 5), (1, 8)], [(-1, 2), (1, 9)], [(1, 2), (-1, 9)], [(1, 2)], [(255, 0), (-1, 2)]], [(4, 261, [(1, 3)]), (4, 262, [(20, 0)]), (4, 263, [(1, 4)]), (4, 264, []), (4, 265, [(1, 8)]), (91, 257, [(1, 9)]), (4, 100, []), (4, 200, []), (4, 210, []), (4, 212, []), (4, 214, []), (4, 220, []), (4, 233, []), (4, 235, []), (91, 249, [(1, 0)]), (91, 250, [(1, 5)]), (91, 251, [(1, 6)]), (91, 252, [(1, 7)])], [(92, [(1, 1)], [(1, 2)])], [(91, 990, [(1, 11)]), (4, 261, [(1, 0), (1, 3)])], [])
theorem xo_613 : qRok xr_613 := by
  intro ρ M h0 hf hm hI
  have f0 := hf [(-3, 0), (1, 1), (-1, 4)] (by decide)
  have f1 := hf [(3, 0), (-1, 1), (1, 4)] (by decide)
  have f2 := hf [(1, 1), (-1, 3)] (by decide)
  have f3 := hf [(-1, 1), (1, 3)] (by decide)
  have f4 := hf [(1, 4)] (by decide)
  have f5 := hf [(699, 0), (-1, 1)] (by decide)
  have f6 := hf [(1, 1)] (by decide)
  have f7 := hf [(1, 6)] (by decide)
  have f8 := hf [(-1, 6)] (by decide)
  have f9 := hf [(1, 5), (-1, 8)] (by decide)
  have f10 := hf [(-1, 5), (1, 8)] (by decide)
  have f11 := hf [(-1, 2), (1, 9)] (by decide)
  have f12 := hf [(1, 2), (-1, 9)] (by decide)
  have f13 := hf [(1, 2)] (by decide)
  have f14 := hf [(255, 0), (-1, 2)] (by decide)
  simp only [qD, h0] at f0 f1 f2 f3 f4 f5 f6 f7 f8 f9 f10 f11 f12 f13 f14
  have m0 : M 4 261 = 1 * ρ 3 + 0 := hm (4, 261, [(1, 3)]) (by decide)
  have m1 : M 4 262 = 20 * ρ 0 + 0 := hm (4, 262, [(20, 0)]) (by decide)
  have m2 : M 4 263 = 1 * ρ 4 + 0 := hm (4, 263, [(1, 4)]) (by decide)
  have m3 : M 4 264 = 0 := hm (4, 264, []) (by decide)
  have m4 : M 4 265 = 1 * ρ 8 + 0 := hm (4, 265, [(1, 8)]) (by decide)
  have m5 : M 91 257 = 1 * ρ 9 + 0 := hm (91, 257, [(1, 9)]) (by decide)
  have m6 : M 4 100 = 0 := hm (4, 100, []) (by decide)
  have m7 : M 4 200 = 0 := hm (4, 200, []) (by decide)
  have m8 : M 4 210 = 0 := hm (4, 210, []) (by decide)
  have m9 : M 4 212 = 0 := hm (4, 212, []) (by decide)
  have m10 : M 4 214 = 0 := hm (4, 214, []) (by decide)
  have m11 : M 4 220 = 0 := hm (4, 220, []) (by decide)
  have m12 : M 4 233 = 0 := hm (4, 233, []) (by decide)
  have m13 : M 4 235 = 0 := hm (4, 235, []) (by decide)
  have m14 : M 91 249 = 1 * ρ 0 + 0 := hm (91, 249, [(1, 0)]) (by decide)
  have m15 : M 91 250 = 1 * ρ 5 + 0 := hm (91, 250, [(1, 5)]) (by decide)
  have m16 : M 91 251 = 1 * ρ 6 + 0 := hm (91, 251, [(1, 6)]) (by decide)
  have m17 : M 91 252 = 1 * ρ 7 + 0 := hm (91, 252, [(1, 7)]) (by decide)
  simp only [h0] at m1 m14
  have qxST := hI.2.2.2.2.2.2.2.2.2.2.2.2.2.2.2.2.2.2.2.2.2.2.2.2.2.2.2.2.2.2.2.2.2.2.2.2.2.2.1
  have qxSP := hI.2.2.2.2.2.2.2.2.2.2.2.2.2.2.2.2.2.2.2.2.2.2.2.2.2.2.2.2.2.2.2.2.2.2.2.2.2.2.2.1
  obtain ⟨g1, g2, g3, g4⟩ := gx_xSE hI (by omega)
  have tb : xop 1 (M 91 252) 255 = tBy (M 4 265) 3 := by
    unfold tBy
    rw [g1, show M 91 250 = M 4 265 by omega, show M 91 251 = 0 by omega]
    rfl

  have g257 := g4
  refine ⟨fun a => cond (Nat.blt a 11) (ρ a) (([xH (sU M 92 (1 * ρ 1 + 0).toNat (1 * ρ 2 + 0))] : List Int).getD (a - 11) 0), fun a ha => ?_, fun f h => ?_, ?_⟩
  · show cond (Nat.blt a 11) (ρ a) _ = ρ a
    rw [show Nat.blt a 11 = true from Nat.ble_eq_true_of_le ha]; rfl
  · exact nomatch h
  · show sI (sU (sU (sU M 92 (1 * ρ 1 + 0 : Int).toNat (1 * ρ 2 + 0)) 91 990 (1 * (xH (sU M 92 (1 * ρ 1 + 0).toNat (1 * ρ 2 + 0))) + 0)) 4 261 (1 * ρ 0 + (1 * ρ 3 + 0)))
    obtain ⟨W, hW⟩ : ∃ W, W = (sU (sU (sU M 92 (1 * ρ 1 + 0).toNat (1 * ρ 2 + 0)) 91 990 (1 * (xH (sU M 92 (1 * ρ 1 + 0).toNat (1 * ρ 2 + 0))) + 0)) 4 261 (1 * ρ 0 + (1 * ρ 3 + 0))) := ⟨_, rfl⟩
    rw [← hW]
    have base : sI0 W := by
      rw [hW]
      exact (si_u0 (si_u0 (si_u0 hI.1 (fun r hr => by rw [xt_92 hr]; exact ⟨by show (0 : Int) ≤ _; omega, by show _ ≤ (255 : Int); omega⟩)) (fun r hr => by cases hr)) (fun r hr => by cases hr))
    have k2 : XI2 W := by
      refine xi2_congr (fun o k hz ho => ?_) hI.2.1
      have h4 : ¬ (o = 4 ∧ k = 261) := fun z => by rw [z.1, z.2] at hz; exact absurd hz (by decide +kernel)
      rw [hW, sU_ne h4, sU_ne (fun z => by omega), sU_ne (fun z => by omega)]
    have k3 : XI3 W := by
      unfold XI3
      rw [hW]
      rw [sU_ne (fun z => by omega), sU_at]
      have e : ∀ o' k' x y, ¬ (o' = 91 ∧ k' = 990) → ¬ (o' = 4 ∧ k' = 261) → sU (sU (sU M 92 (1 * ρ 1 + 0).toNat (1 * ρ 2 + 0)) 91 990 x) 4 261 y o' k' = sU M 92 (1 * ρ 1 + 0).toNat (1 * ρ 2 + 0) o' k' := fun o' k' x y h h' => by rw [sU_ne h', sU_ne h]
      rw [show ∀ z : Int, 1 * z + 0 = z from fun z => by omega]
      unfold xH
      rw [e _ _ _ _ (by omega) (by omega), e _ _ _ _ (by omega) (by omega), e _ _ _ _ (by omega) (by omega)]
    have kXA : XA W := by
      rw [hW]
      exact (uXA rfl (uXA rfl (uXA (sinc_ok rfl _) hI.2.2.2.1)))
    have k_xN1 : xN1 W := by
      rw [hW]
      exact (uxN1 rfl (uxN1 rfl (uxN1 (sinc_ok rfl _) hI.2.2.2.2.1)))
    have k_xN2 : xN2 W := by
      rw [hW]
      exact (uxN2 rfl (uxN2 rfl (uxN2 (sinc_ok rfl _) hI.2.2.2.2.2.1)))
    have k_xN3 : xN3 W := by
      rw [hW]
      exact (uxN3 rfl (uxN3 rfl (uxN3 (sinc_ok rfl _) hI.2.2.2.2.2.2.1)))
    have k_xN4 : xN4 W := by
      rw [hW]
      exact (uxN4 rfl (uxN4 rfl (uxN4 (sinc_ok rfl _) hI.2.2.2.2.2.2.2.1)))
    have k_xN5 : xN5 W := by
      rw [hW]
      exact (uxN5 rfl (uxN5 rfl (uxN5 (sinc_ok rfl _) hI.2.2.2.2.2.2.2.2.1)))
    have k_xN6 : xN6 W := by
      rw [hW]
      exact (uxN6 rfl (uxN6 rfl (uxN6 (sinc_ok rfl _) hI.2.2.2.2.2.2.2.2.2.1)))
    have k_xH1 : xH1 W := by
      rw [hW]
      exact (uxH1 rfl (uxH1 rfl (uxH1 (sinc_ok rfl _) hI.2.2.2.2.2.2.2.2.2.2.1)))
    have k_xK1 : xK1 W := by
      rw [hW]
      exact (uxK1 rfl (uxK1 rfl (uxK1 (sinc_ok rfl _) hI.2.2.2.2.2.2.2.2.2.2.2.1)))
    have k_xC1 : xC1 W := by
      rw [hW]
      exact (uxC1 rfl (uxC1 rfl (uxC1 (sinc_ok rfl _) hI.2.2.2.2.2.2.2.2.2.2.2.2.1)))
    have k_xRW : xRW W := by
      rw [hW]
      exact (uxRW rfl (uxRW rfl (uxRW (sinc_ok rfl _) hI.2.2.2.2.2.2.2.2.2.2.2.2.2.1)))
    have k_xWT : xWT W := by
      rw [hW]
      exact (uxWT rfl (uxWT rfl (uxWT (sinc_ok rfl _) hI.2.2.2.2.2.2.2.2.2.2.2.2.2.2.1)))
    have k_xCU : xCU W := by
      rw [hW]
      exact (uxCU rfl (uxCU rfl (uxCU (sinc_ok rfl _) hI.2.2.2.2.2.2.2.2.2.2.2.2.2.2.2.1)))
    have k_xG2 : xG2 W := by
      rw [hW]
      exact (uxG2 rfl (uxG2 rfl (uxG2 (sinc_ok rfl _) hI.2.2.2.2.2.2.2.2.2.2.2.2.2.2.2.2.1)))
    have k_xG3 : xG3 W := by
      rw [hW]
      exact (uxG3 rfl (uxG3 rfl (uxG3 (sinc_ok rfl _) hI.2.2.2.2.2.2.2.2.2.2.2.2.2.2.2.2.2.1)))
    have k_xG4 : xG4 W := by
      rw [hW]
      exact (uxG4 rfl (uxG4 rfl (uxG4 (sinc_ok rfl _) hI.2.2.2.2.2.2.2.2.2.2.2.2.2.2.2.2.2.2.1)))
    have k_xG5 : xG5 W := by
      rw [hW]
      exact (uxG5 rfl (uxG5 rfl (uxG5 (sinc_ok rfl _) hI.2.2.2.2.2.2.2.2.2.2.2.2.2.2.2.2.2.2.2.1)))
    have k_xG6 : xG6 W := by
      rw [hW]
      exact (uxG6 rfl (uxG6 rfl (uxG6 (sinc_ok rfl _) hI.2.2.2.2.2.2.2.2.2.2.2.2.2.2.2.2.2.2.2.2.1)))
    have k_xS1 : xS1 W := by
      have r : W 4 100 = 0 := by
        have e := m6
        rw [hW, sU_ne (fun z => by omega), sU_ne (fun z => by omega), sU_ne (fun z => by omega)]
        omega
      intro h
      rw [r] at h
      exact absurd rfl h
    have k_xS2 : xS2 W := by
      have r : W 4 100 = 0 := by
        have e := m6
        rw [hW, sU_ne (fun z => by omega), sU_ne (fun z => by omega), sU_ne (fun z => by omega)]
        omega
      intro h
      rw [r] at h
      exact absurd rfl h
    have k_xS3 : xS3 W := by
      have r : W 4 100 = 0 := by
        have e := m6
        rw [hW, sU_ne (fun z => by omega), sU_ne (fun z => by omega), sU_ne (fun z => by omega)]
        omega
      intro h
      rw [r] at h
      exact absurd rfl h
    have k_xS4 : xS4 W := by
      rw [hW]
      exact (uxS4 rfl (uxS4 rfl (uxS4 (sinc_ok rfl _) hI.2.2.2.2.2.2.2.2.2.2.2.2.2.2.2.2.2.2.2.2.2.2.2.2.1)))
    have k_xS5 : xS5 W := by
      rw [hW]
      exact (uxS5 rfl (uxS5 rfl (uxS5 (sinc_ok rfl _) hI.2.2.2.2.2.2.2.2.2.2.2.2.2.2.2.2.2.2.2.2.2.2.2.2.2.1)))
    have k_xS6 : xS6 W := by
      rw [hW]
      exact (uxS6 rfl (uxS6 rfl (uxS6 (sinc_ok rfl _) hI.2.2.2.2.2.2.2.2.2.2.2.2.2.2.2.2.2.2.2.2.2.2.2.2.2.2.1)))
    have k_xS7 : xS7 W := by
      have r : W 4 200 = 0 := by
        have e := m7
        rw [hW, sU_ne (fun z => by omega), sU_ne (fun z => by omega), sU_ne (fun z => by omega)]
        omega
      intro h
      rw [r] at h
      omega
    have k_xS8 : xS8 W := by
      have r : W 4 210 = 0 := by
        have e := m8
        rw [hW, sU_ne (fun z => by omega), sU_ne (fun z => by omega), sU_ne (fun z => by omega)]
        omega
      intro h
      rw [r] at h
      omega
    have k_xS9 : xS9 W := by
      have r : W 4 212 = 0 := by
        have e := m9
        rw [hW, sU_ne (fun z => by omega), sU_ne (fun z => by omega), sU_ne (fun z => by omega)]
        omega
      intro h
      rw [r] at h
      omega
    have k_xSA : xSA W := by
      have r : W 4 214 = 0 := by
        have e := m10
        rw [hW, sU_ne (fun z => by omega), sU_ne (fun z => by omega), sU_ne (fun z => by omega)]
        omega
      intro h
      rw [r] at h
      omega
    have k_xSG : xSG W := by
      have r : W 4 235 = 0 := by
        have e := m13
        rw [hW, sU_ne (fun z => by omega), sU_ne (fun z => by omega), sU_ne (fun z => by omega)]
        omega
      intro h
      rw [r] at h
      omega
    have k_xSF : xSF W := by
      have r : W 4 233 = 0 := by
        have e := m12
        rw [hW, sU_ne (fun z => by omega), sU_ne (fun z => by omega), sU_ne (fun z => by omega)]
        omega
      intro h
      rw [r] at h
      omega
    have k_xSB : xSB W := by
      have r : W 4 220 = 0 := by
        have e := m11
        rw [hW, sU_ne (fun z => by omega), sU_ne (fun z => by omega), sU_ne (fun z => by omega)]
        omega
      intro h
      rw [r] at h
      omega
    have k_xSC : xSC W := by
      rw [hW]
      exact (uxSC rfl (uxSC rfl (uxSC (sinc_ok rfl _) hI.2.2.2.2.2.2.2.2.2.2.2.2.2.2.2.2.2.2.2.2.2.2.2.2.2.2.2.2.2.2.2.2.2.2.1)))
    have k_xSD : xSD W := by
      rw [hW]
      exact (uxSD rfl (uxSD rfl (uxSD (sinc_ok rfl _) hI.2.2.2.2.2.2.2.2.2.2.2.2.2.2.2.2.2.2.2.2.2.2.2.2.2.2.2.2.2.2.2.2.2.2.2.1)))
    have k_xSE : xSE W := by
      rw [hW]
      exact (uxSE rfl (uxSE rfl (uxSE (sinc_ok rfl _) hI.2.2.2.2.2.2.2.2.2.2.2.2.2.2.2.2.2.2.2.2.2.2.2.2.2.2.2.2.2.2.2.2.2.2.2.2.1)))
    have k_xSW : xSW W := by
      rw [hW]
      exact (uxSW rfl (uxSW rfl (uxSW (sinc_ok rfl _) hI.2.2.2.2.2.2.2.2.2.2.2.2.2.2.2.2.2.2.2.2.2.2.2.2.2.2.2.2.2.2.2.2.2.2.2.2.2.1)))
    have k_xST : xST W := by
      have r4_261 : W 4 261 = 1 * ρ 0 + (1 * ρ 3 + 0) := by rw [hW, sU_at]
      have c1 : ∀ k, W 1 k = M 1 k := fun k => by rw [hW, sU_ne (fun z => by omega), sU_ne (fun z => by omega), sU_ne (fun z => by omega)]
      have e1 : W 1 = M 1 := funext c1
      have c92 : ∀ k : Nat, k ≠ (1 * ρ 1 + 0).toNat → W 92 k = M 92 k := fun k hk => by rw [hW, sU_ne (fun z => by omega), sU_ne (fun z => by omega), sU_ne (fun z => by omega)]
      have a92 : W 92 (1 * ρ 1 + 0).toNat = 1 * ρ 2 + 0 := by rw [hW, sU_ne (fun z => by omega), sU_ne (fun z => by omega), sU_at]
      intro i hi
      rw [r4_261, h0] at hi
      rw [e1]
      by_cases hx : i = (1 * ρ 1 + 0).toNat
      · rw [hx, a92]
        obtain ⟨p1, p2, p3⟩ := gx_xSP hI
        have := p2 3 (by omega) (by omega)
        rw [show (M 4 263).toNat + 3 = (1 * ρ 1 + 0).toNat by omega] at this
        have this : M 1 (1 * ρ 1 + 0).toNat = tSn (tBy (M 4 265) 3) := this
        rw [this, ← tb]
        congr 1
        omega
      · rw [c92 i hx]
        exact qxST i (by omega)
    have k_xSP : xSP W := by
      have r4_262 : W 4 262 = M 4 262 := by rw [hW, sU_ne (fun z => by omega), sU_ne (fun z => by omega), sU_ne (fun z => by omega)]
      have r4_263 : W 4 263 = M 4 263 := by rw [hW, sU_ne (fun z => by omega), sU_ne (fun z => by omega), sU_ne (fun z => by omega)]
      have r4_264 : W 4 264 = M 4 264 := by rw [hW, sU_ne (fun z => by omega), sU_ne (fun z => by omega), sU_ne (fun z => by omega)]
      have r4_265 : W 4 265 = M 4 265 := by rw [hW, sU_ne (fun z => by omega), sU_ne (fun z => by omega), sU_ne (fun z => by omega)]
      have r4_266 : W 4 266 = M 4 266 := by rw [hW, sU_ne (fun z => by omega), sU_ne (fun z => by omega), sU_ne (fun z => by omega)]
      have r4_267 : W 4 267 = M 4 267 := by rw [hW, sU_ne (fun z => by omega), sU_ne (fun z => by omega), sU_ne (fun z => by omega)]
      have r4_268 : W 4 268 = M 4 268 := by rw [hW, sU_ne (fun z => by omega), sU_ne (fun z => by omega), sU_ne (fun z => by omega)]
      have r4_269 : W 4 269 = M 4 269 := by rw [hW, sU_ne (fun z => by omega), sU_ne (fun z => by omega), sU_ne (fun z => by omega)]
      have c1 : ∀ k, W 1 k = M 1 k := fun k => by rw [hW, sU_ne (fun z => by omega), sU_ne (fun z => by omega), sU_ne (fun z => by omega)]
      have e1 : W 1 = M 1 := funext c1
      have c92 : ∀ k : Nat, k ≠ (1 * ρ 1 + 0).toNat → W 92 k = M 92 k := fun k hk => by rw [hW, sU_ne (fun z => by omega), sU_ne (fun z => by omega), sU_ne (fun z => by omega)]
      have a92 : W 92 (1 * ρ 1 + 0).toNat = 1 * ρ 2 + 0 := by rw [hW, sU_ne (fun z => by omega), sU_ne (fun z => by omega), sU_at]
      unfold xSP
      rw [r4_262, r4_263, r4_264, e1]
      obtain ⟨p1, p2, p3⟩ := gx_xSP hI
      refine ⟨p1, fun q hq hl => ?_, fun q hq hl => by omega⟩
      have e4 : ∀ x, x ≠ 261 → W 4 x = M 4 x := fun x hx => by rw [hW, sU_ne (fun z => by omega), sU_ne (fun z => by omega), sU_ne (fun z => by omega)]
      rw [e4 _ (by omega)]
      exact p2 q hq hl
    have k_xSL : xSL W := by
      rw [hW]
      exact (uxSL rfl (uxSL rfl (uxSL (sinc_ok rfl _) hI.2.2.2.2.2.2.2.2.2.2.2.2.2.2.2.2.2.2.2.2.2.2.2.2.2.2.2.2.2.2.2.2.2.2.2.2.2.2.2.2.1)))
    have k_xSM : xSM W := by
      rw [hW]
      exact (uxSM rfl (uxSM rfl (uxSM (sinc_ok rfl _) hI.2.2.2.2.2.2.2.2.2.2.2.2.2.2.2.2.2.2.2.2.2.2.2.2.2.2.2.2.2.2.2.2.2.2.2.2.2.2.2.2.2.1)))
    have k_xSI : xSI W := by
      rw [hW]
      exact (uxSI rfl (uxSI rfl (uxSI (sinc_ok rfl _) hI.2.2.2.2.2.2.2.2.2.2.2.2.2.2.2.2.2.2.2.2.2.2.2.2.2.2.2.2.2.2.2.2.2.2.2.2.2.2.2.2.2.2)))
    have k_XC : XC W := ⟨k_xS1, k_xS2, k_xS3, k_xS4, k_xS5, k_xS6, k_xS7, k_xS8, k_xS9, k_xSA, k_xSG, k_xSF, k_xSB, k_xSC, k_xSD, k_xSE, k_xSW, k_xST, k_xSP, k_xSL, k_xSM, k_xSI⟩
    have kXB : XB W := ⟨k_xN1, k_xN2, k_xN3, k_xN4, k_xN5, k_xN6, k_xH1, k_xK1, k_xC1, k_xRW, k_xWT, k_xCU, k_xG2, k_xG3, k_xG4, k_xG5, k_xG6, k_XC⟩
    exact ⟨base, k2, k3, kXA, kXB⟩
-- fdC4
def xr_614 : qRu := (11, [[(-4, 0), (1, 1), (-1, 4)], [(4, 0), (-1, 1), (1, 4)], [(1, 1), (-1, 3)], [(1, 4)], [(699, 0), (-1, 1)], [(1, 1)], [(-24, 0), (1, 6)], [(24, 0), (-1, 6)], [(1, 5), (-1, 8)], [(-1, 5), (1, 8)], [(-1, 2), (1, 9)], [(1, 2), (-1, 9)], [(-1, 7), (1, 10)], [(1, 7), (-1, 10)], [(128, 0), (1, 2)], [(127, 0), (-1, 2)]], [(4, 100, []), (4, 261, [(1, 3)]), (4, 262, [(4, 0)]), (4, 263, [(1, 4)]), (4, 266, [(1, 8)]), (91, 259, [(1, 0)]), (91, 248, [(1, 10)]), (91, 258, [(1, 9)]), (91, 249, [(1, 0)]), (91, 250, [(1, 5)]), (91, 251, [(1, 6)]), (91, 252, [(1, 7)])], [(1, [(1, 1)], [(1, 2)])], [(4, 262, [(5, 0)])], [])
theorem xo_614 : qRok xr_614 := by
  intro ρ M h0 hf hm hI
  have f0 := hf [(-4, 0), (1, 1), (-1, 4)] (by decide)
  have f1 := hf [(4, 0), (-1, 1), (1, 4)] (by decide)
  have f2 := hf [(1, 1), (-1, 3)] (by decide)
  have f3 := hf [(1, 4)] (by decide)
  have f4 := hf [(699, 0), (-1, 1)] (by decide)
  have f5 := hf [(1, 1)] (by decide)
  have f6 := hf [(-24, 0), (1, 6)] (by decide)
  have f7 := hf [(24, 0), (-1, 6)] (by decide)
  have f8 := hf [(1, 5), (-1, 8)] (by decide)
  have f9 := hf [(-1, 5), (1, 8)] (by decide)
  have f10 := hf [(-1, 2), (1, 9)] (by decide)
  have f11 := hf [(1, 2), (-1, 9)] (by decide)
  have f12 := hf [(-1, 7), (1, 10)] (by decide)
  have f13 := hf [(1, 7), (-1, 10)] (by decide)
  have f14 := hf [(128, 0), (1, 2)] (by decide)
  have f15 := hf [(127, 0), (-1, 2)] (by decide)
  simp only [qD, h0] at f0 f1 f2 f3 f4 f5 f6 f7 f8 f9 f10 f11 f12 f13 f14 f15
  have m0 : M 4 100 = 0 := hm (4, 100, []) (by decide)
  have m1 : M 4 261 = 1 * ρ 3 + 0 := hm (4, 261, [(1, 3)]) (by decide)
  have m2 : M 4 262 = 4 * ρ 0 + 0 := hm (4, 262, [(4, 0)]) (by decide)
  have m3 : M 4 263 = 1 * ρ 4 + 0 := hm (4, 263, [(1, 4)]) (by decide)
  have m4 : M 4 266 = 1 * ρ 8 + 0 := hm (4, 266, [(1, 8)]) (by decide)
  have m5 : M 91 259 = 1 * ρ 0 + 0 := hm (91, 259, [(1, 0)]) (by decide)
  have m6 : M 91 248 = 1 * ρ 10 + 0 := hm (91, 248, [(1, 10)]) (by decide)
  have m7 : M 91 258 = 1 * ρ 9 + 0 := hm (91, 258, [(1, 9)]) (by decide)
  have m8 : M 91 249 = 1 * ρ 0 + 0 := hm (91, 249, [(1, 0)]) (by decide)
  have m9 : M 91 250 = 1 * ρ 5 + 0 := hm (91, 250, [(1, 5)]) (by decide)
  have m10 : M 91 251 = 1 * ρ 6 + 0 := hm (91, 251, [(1, 6)]) (by decide)
  have m11 : M 91 252 = 1 * ρ 7 + 0 := hm (91, 252, [(1, 7)]) (by decide)
  simp only [h0] at m2 m5 m8
  have qxST := hI.2.2.2.2.2.2.2.2.2.2.2.2.2.2.2.2.2.2.2.2.2.2.2.2.2.2.2.2.2.2.2.2.2.2.2.2.2.2.1
  have qxSP := hI.2.2.2.2.2.2.2.2.2.2.2.2.2.2.2.2.2.2.2.2.2.2.2.2.2.2.2.2.2.2.2.2.2.2.2.2.2.2.2.1
  obtain ⟨g1, g2, g3, g4⟩ := gx_xSE hI (by omega)
  have tb : xop 1 (M 91 252) 255 = tBy (M 4 266) 4 := by
    unfold tBy
    rw [g1, show M 91 250 = M 4 266 by omega, show M 91 251 = 24 by omega]
    rfl

  have gi := gx_xSI hI (by omega)
  rw [show M 91 248 = M 91 252 by omega] at gi
  refine ⟨ρ, fun _ _ => rfl, fun f h => ?_, ?_⟩
  · exact nomatch h
  · show sI (sU (sU M 1 (1 * ρ 1 + 0 : Int).toNat (1 * ρ 2 + 0)) 4 262 (5 * ρ 0 + 0))
    obtain ⟨W, hW⟩ : ∃ W, W = (sU (sU M 1 (1 * ρ 1 + 0).toNat (1 * ρ 2 + 0)) 4 262 (5 * ρ 0 + 0)) := ⟨_, rfl⟩
    rw [← hW]
    have base : sI0 W := by
      rw [hW]
      exact (si_u0 (si_u0 hI.1 (fun r hr => by rw [xt_1 hr]; exact ⟨by show (-128 : Int) ≤ _; omega, by show _ ≤ (127 : Int); omega⟩)) (fun r hr => by cases hr))
    have k2 : XI2 W := by
      rw [hW]
      exact (xi2_u rfl (xi2_u (sinc_ok rfl _) hI.2.1))
    have k3 : XI3 W := by
      rw [hW]
      exact (xi3_u rfl (xi3_u (sinc_ok rfl _) hI.2.2.1))
    have kXA : XA W := by
      rw [hW]
      exact (uXA rfl (uXA (sinc_ok rfl _) hI.2.2.2.1))
    have k_xN1 : xN1 W := by
      rw [hW]
      exact (uxN1 rfl (uxN1 (sinc_ok rfl _) hI.2.2.2.2.1))
    have k_xN2 : xN2 W := by
      rw [hW]
      exact (uxN2 rfl (uxN2 (sinc_ok rfl _) hI.2.2.2.2.2.1))
    have k_xN3 : xN3 W := by
      rw [hW]
      exact (uxN3 rfl (uxN3 (sinc_ok rfl _) hI.2.2.2.2.2.2.1))
    have k_xN4 : xN4 W := by
      rw [hW]
      exact (uxN4 rfl (uxN4 (sinc_ok rfl _) hI.2.2.2.2.2.2.2.1))
    have k_xN5 : xN5 W := by
      rw [hW]
      exact (uxN5 rfl (uxN5 (sinc_ok rfl _) hI.2.2.2.2.2.2.2.2.1))
    have k_xN6 : xN6 W := by
      rw [hW]
      exact (uxN6 rfl (uxN6 (sinc_ok rfl _) hI.2.2.2.2.2.2.2.2.2.1))
    have k_xH1 : xH1 W := by
      rw [hW]
      exact (uxH1 rfl (uxH1 (sinc_ok rfl _) hI.2.2.2.2.2.2.2.2.2.2.1))
    have k_xK1 : xK1 W := by
      rw [hW]
      exact (uxK1 rfl (uxK1 (sinc_ok rfl _) hI.2.2.2.2.2.2.2.2.2.2.2.1))
    have k_xC1 : xC1 W := by
      rw [hW]
      exact (uxC1 rfl (uxC1 (sinc_ok rfl _) hI.2.2.2.2.2.2.2.2.2.2.2.2.1))
    have k_xRW : xRW W := by
      rw [hW]
      exact (uxRW rfl (uxRW (sinc_ok rfl _) hI.2.2.2.2.2.2.2.2.2.2.2.2.2.1))
    have k_xWT : xWT W := by
      rw [hW]
      exact (uxWT rfl (uxWT (sinc_ok rfl _) hI.2.2.2.2.2.2.2.2.2.2.2.2.2.2.1))
    have k_xCU : xCU W := by
      rw [hW]
      exact (uxCU rfl (uxCU (sinc_ok rfl _) hI.2.2.2.2.2.2.2.2.2.2.2.2.2.2.2.1))
    have k_xG2 : xG2 W := by
      rw [hW]
      exact (uxG2 rfl (uxG2 (sinc_ok rfl _) hI.2.2.2.2.2.2.2.2.2.2.2.2.2.2.2.2.1))
    have k_xG3 : xG3 W := by
      rw [hW]
      exact (uxG3 rfl (uxG3 (sinc_ok rfl _) hI.2.2.2.2.2.2.2.2.2.2.2.2.2.2.2.2.2.1))
    have k_xG4 : xG4 W := by
      rw [hW]
      exact (uxG4 rfl (uxG4 (sinc_ok rfl _) hI.2.2.2.2.2.2.2.2.2.2.2.2.2.2.2.2.2.2.1))
    have k_xG5 : xG5 W := by
      rw [hW]
      exact (uxG5 rfl (uxG5 (sinc_ok rfl _) hI.2.2.2.2.2.2.2.2.2.2.2.2.2.2.2.2.2.2.2.1))
    have k_xG6 : xG6 W := by
      rw [hW]
      exact (uxG6 rfl (uxG6 (sinc_ok rfl _) hI.2.2.2.2.2.2.2.2.2.2.2.2.2.2.2.2.2.2.2.2.1))
    have k_xS1 : xS1 W := by
      have r : W 4 100 = 0 := by
        have e := m0
        rw [hW, sU_ne (fun z => by omega), sU_ne (fun z => by omega)]
        omega
      intro h
      rw [r] at h
      exact absurd rfl h
    have k_xS2 : xS2 W := by
      rw [hW]
      exact (uxS2 rfl (uxS2 (sinc_ok rfl _) hI.2.2.2.2.2.2.2.2.2.2.2.2.2.2.2.2.2.2.2.2.2.2.1))
    have k_xS3 : xS3 W := by
      rw [hW]
      exact (uxS3 rfl (uxS3 (sinc_ok rfl _) hI.2.2.2.2.2.2.2.2.2.2.2.2.2.2.2.2.2.2.2.2.2.2.2.1))
    have k_xS4 : xS4 W := by
      rw [hW]
      exact (uxS4 rfl (uxS4 (sinc_ok rfl _) hI.2.2.2.2.2.2.2.2.2.2.2.2.2.2.2.2.2.2.2.2.2.2.2.2.1))
    have k_xS5 : xS5 W := by
      rw [hW]
      exact (uxS5 rfl (uxS5 (sinc_ok rfl _) hI.2.2.2.2.2.2.2.2.2.2.2.2.2.2.2.2.2.2.2.2.2.2.2.2.2.1))
    have k_xS6 : xS6 W := by
      rw [hW]
      exact (uxS6 rfl (uxS6 (sinc_ok rfl _) hI.2.2.2.2.2.2.2.2.2.2.2.2.2.2.2.2.2.2.2.2.2.2.2.2.2.2.1))
    have k_xS7 : xS7 W := by
      rw [hW]
      exact (uxS7 rfl (uxS7 (sinc_ok rfl _) hI.2.2.2.2.2.2.2.2.2.2.2.2.2.2.2.2.2.2.2.2.2.2.2.2.2.2.2.1))
    have k_xS8 : xS8 W := by
      rw [hW]
      exact (uxS8 rfl (uxS8 (sinc_ok rfl _) hI.2.2.2.2.2.2.2.2.2.2.2.2.2.2.2.2.2.2.2.2.2.2.2.2.2.2.2.2.1))
    have k_xS9 : xS9 W := by
      rw [hW]
      exact (uxS9 rfl (uxS9 (sinc_ok rfl _) hI.2.2.2.2.2.2.2.2.2.2.2.2.2.2.2.2.2.2.2.2.2.2.2.2.2.2.2.2.2.1))
    have k_xSA : xSA W := by
      rw [hW]
      exact (uxSA rfl (uxSA (sinc_ok rfl _) hI.2.2.2.2.2.2.2.2.2.2.2.2.2.2.2.2.2.2.2.2.2.2.2.2.2.2.2.2.2.2.1))
    have k_xSG : xSG W := by
      rw [hW]
      exact (uxSG rfl (uxSG (sinc_ok rfl _) hI.2.2.2.2.2.2.2.2.2.2.2.2.2.2.2.2.2.2.2.2.2.2.2.2.2.2.2.2.2.2.2.1))
    have k_xSF : xSF W := by
      rw [hW]
      exact (uxSF rfl (uxSF (sinc_ok rfl _) hI.2.2.2.2.2.2.2.2.2.2.2.2.2.2.2.2.2.2.2.2.2.2.2.2.2.2.2.2.2.2.2.2.1))
    have k_xSB : xSB W := by
      rw [hW]
      exact (uxSB rfl (uxSB (sinc_ok rfl _) hI.2.2.2.2.2.2.2.2.2.2.2.2.2.2.2.2.2.2.2.2.2.2.2.2.2.2.2.2.2.2.2.2.2.1))
    have k_xSC : xSC W := by
      rw [hW]
      exact (uxSC rfl (uxSC (sinc_ok rfl _) hI.2.2.2.2.2.2.2.2.2.2.2.2.2.2.2.2.2.2.2.2.2.2.2.2.2.2.2.2.2.2.2.2.2.2.1))
    have k_xSD : xSD W := by
      rw [hW]
      exact (uxSD rfl (uxSD (sinc_ok rfl _) hI.2.2.2.2.2.2.2.2.2.2.2.2.2.2.2.2.2.2.2.2.2.2.2.2.2.2.2.2.2.2.2.2.2.2.2.1))
    have k_xSE : xSE W := by
      rw [hW]
      exact (uxSE rfl (uxSE (sinc_ok rfl _) hI.2.2.2.2.2.2.2.2.2.2.2.2.2.2.2.2.2.2.2.2.2.2.2.2.2.2.2.2.2.2.2.2.2.2.2.2.1))
    have k_xSW : xSW W := by
      rw [hW]
      exact (uxSW rfl (uxSW (sinc_ok rfl _) hI.2.2.2.2.2.2.2.2.2.2.2.2.2.2.2.2.2.2.2.2.2.2.2.2.2.2.2.2.2.2.2.2.2.2.2.2.2.1))
    have k_xST : xST W := by
      have r4_261 : W 4 261 = M 4 261 := by rw [hW, sU_ne (fun z => by omega), sU_ne (fun z => by omega)]
      have c1 : ∀ k : Nat, k ≠ (1 * ρ 1 + 0).toNat → W 1 k = M 1 k := fun k hk => by rw [hW, sU_ne (fun z => by omega), sU_ne (fun z => by omega)]
      have a1 : W 1 (1 * ρ 1 + 0).toNat = 1 * ρ 2 + 0 := by rw [hW, sU_ne (fun z => by omega), sU_at]
      have c92 : ∀ k, W 92 k = M 92 k := fun k => by rw [hW, sU_ne (fun z => by omega), sU_ne (fun z => by omega)]
      have e92 : W 92 = M 92 := funext c92
      intro i hi
      rw [r4_261] at hi
      rw [c1 i (by omega), e92]
      exact qxST i hi
    have k_xSP : xSP W := by
      have r4_262 : W 4 262 = 5 * ρ 0 + 0 := by rw [hW, sU_at]
      have r4_263 : W 4 263 = M 4 263 := by rw [hW, sU_ne (fun z => by omega), sU_ne (fun z => by omega)]
      have r4_264 : W 4 264 = M 4 264 := by rw [hW, sU_ne (fun z => by omega), sU_ne (fun z => by omega)]
      have r4_265 : W 4 265 = M 4 265 := by rw [hW, sU_ne (fun z => by omega), sU_ne (fun z => by omega)]
      have r4_266 : W 4 266 = M 4 266 := by rw [hW, sU_ne (fun z => by omega), sU_ne (fun z => by omega)]
      have r4_267 : W 4 267 = M 4 267 := by rw [hW, sU_ne (fun z => by omega), sU_ne (fun z => by omega)]
      have r4_268 : W 4 268 = M 4 268 := by rw [hW, sU_ne (fun z => by omega), sU_ne (fun z => by omega)]
      have r4_269 : W 4 269 = M 4 269 := by rw [hW, sU_ne (fun z => by omega), sU_ne (fun z => by omega)]
      have c1 : ∀ k : Nat, k ≠ (1 * ρ 1 + 0).toNat → W 1 k = M 1 k := fun k hk => by rw [hW, sU_ne (fun z => by omega), sU_ne (fun z => by omega)]
      have a1 : W 1 (1 * ρ 1 + 0).toNat = 1 * ρ 2 + 0 := by rw [hW, sU_ne (fun z => by omega), sU_at]
      have c92 : ∀ k, W 92 k = M 92 k := fun k => by rw [hW, sU_ne (fun z => by omega), sU_ne (fun z => by omega)]
      have e92 : W 92 = M 92 := funext c92
      unfold xSP
      rw [r4_262, r4_263, r4_264, e92]
      obtain ⟨p1, p2, p3⟩ := qxSP
      have e4 : ∀ x, x ≠ 262 → W 4 x = M 4 x := fun x hx => by rw [hW, sU_ne (fun z => by omega), sU_ne (fun z => by omega)]
      refine ⟨p1, fun q hq hl => ?_, fun q hq hl => by rw [e4 _ (by omega)]; exact p3 q hq hl⟩
      rw [h0] at hl
      rw [e4 _ (by omega)]
      by_cases hj : q = 4
      · subst hj
        show W 1 ((M 4 263).toNat + 4) = tSn (tBy (M 4 266) 4)
        rw [show (M 4 263).toNat + 4 = (1 * ρ 1 + 0).toNat by omega, a1, ← tb]
        have := xi2b (M 91 252)
        omega
      · rw [c1 _ (by omega)]
        exact p2 q hq (by omega)
    have k_xSL : xSL W := by
      rw [hW]
      exact (uxSL rfl (uxSL (sinc_ok rfl _) hI.2.2.2.2.2.2.2.2.2.2.2.2.2.2.2.2.2.2.2.2.2.2.2.2.2.2.2.2.2.2.2.2.2.2.2.2.2.2.2.2.1))
    have k_xSM : xSM W := by
      rw [hW]
      exact (uxSM rfl (uxSM (sinc_ok rfl _) hI.2.2.2.2.2.2.2.2.2.2.2.2.2.2.2.2.2.2.2.2.2.2.2.2.2.2.2.2.2.2.2.2.2.2.2.2.2.2.2.2.2.1))
    have k_xSI : xSI W := by
      rw [hW]
      exact (uxSI rfl (uxSI (sinc_ok rfl _) hI.2.2.2.2.2.2.2.2.2.2.2.2.2.2.2.2.2.2.2.2.2.2.2.2.2.2.2.2.2.2.2.2.2.2.2.2.2.2.2.2.2.2))
    have k_XC : XC W := ⟨k_xS1, k_xS2, k_xS3, k_xS4, k_xS5, k_xS6, k_xS7, k_xS8, k_xS9, k_xSA, k_xSG, k_xSF, k_xSB, k_xSC, k_xSD, k_xSE, k_xSW, k_xST, k_xSP, k_xSL, k_xSM, k_xSI⟩
    have kXB : XB W := ⟨k_xN1, k_xN2, k_xN3, k_xN4, k_xN5, k_xN6, k_xH1, k_xK1, k_xC1, k_xRW, k_xWT, k_xCU, k_xG2, k_xG3, k_xG4, k_xG5, k_xG6, k_XC⟩
    exact ⟨base, k2, k3, kXA, kXB⟩
-- fdW4
def xr_615 : qRu := (11, [[(-4, 0), (1, 1), (-1, 4)], [(4, 0), (-1, 1), (1, 4)], [(1, 1), (-1, 3)], [(-1, 1), (1, 3)], [(1, 4)], [(699, 0), (-1, 1)], [(1, 1)], [(-24, 0), (1, 6)], [(24, 0), (-1, 6)], [(1, 5), (-1, 8)], [(-1, 5), (1, 8)], [(-1, 2), (1, 9)], [(1, 2), (-1, 9)], [(1, 2)], [(255, 0), (-1, 2)]], [(4, 261, [(1, 3)]), (4, 262, [(20, 0)]), (4, 263, [(1, 4)]), (4, 264, []), (4, 266, [(1, 8)]), (91, 257, [(1, 9)]), (4, 100, []), (4, 200, []), (4, 210, []), (4, 212, []), (4, 214, []), (4, 220, []), (4, 233, []), (4, 235, []), (91, 249, [(1, 0)]), (91, 250, [(1, 5)]), (91, 251, [(1, 6)]), (91, 252, [(1, 7)])], [(92, [(1, 1)], [(1, 2)])], [(91, 990, [(1, 11)]), (4, 261, [(1, 0), (1, 3)])], [])
theorem xo_615 : qRok xr_615 := by
  intro ρ M h0 hf hm hI
  have f0 := hf [(-4, 0), (1, 1), (-1, 4)] (by decide)
  have f1 := hf [(4, 0), (-1, 1), (1, 4)] (by decide)
  have f2 := hf [(1, 1), (-1, 3)] (by decide)
  have f3 := hf [(-1, 1), (1, 3)] (by decide)
  have f4 := hf [(1, 4)] (by decide)
  have f5 := hf [(699, 0), (-1, 1)] (by decide)
  have f6 := hf [(1, 1)] (by decide)
  have f7 := hf [(-24, 0), (1, 6)] (by decide)
  have f8 := hf [(24, 0), (-1, 6)] (by decide)
  have f9 := hf [(1, 5), (-1, 8)] (by decide)
  have f10 := hf [(-1, 5), (1, 8)] (by decide)
  have f11 := hf [(-1, 2), (1, 9)] (by decide)
  have f12 := hf [(1, 2), (-1, 9)] (by decide)
  have f13 := hf [(1, 2)] (by decide)
  have f14 := hf [(255, 0), (-1, 2)] (by decide)
  simp only [qD, h0] at f0 f1 f2 f3 f4 f5 f6 f7 f8 f9 f10 f11 f12 f13 f14
  have m0 : M 4 261 = 1 * ρ 3 + 0 := hm (4, 261, [(1, 3)]) (by decide)
  have m1 : M 4 262 = 20 * ρ 0 + 0 := hm (4, 262, [(20, 0)]) (by decide)
  have m2 : M 4 263 = 1 * ρ 4 + 0 := hm (4, 263, [(1, 4)]) (by decide)
  have m3 : M 4 264 = 0 := hm (4, 264, []) (by decide)
  have m4 : M 4 266 = 1 * ρ 8 + 0 := hm (4, 266, [(1, 8)]) (by decide)
  have m5 : M 91 257 = 1 * ρ 9 + 0 := hm (91, 257, [(1, 9)]) (by decide)
  have m6 : M 4 100 = 0 := hm (4, 100, []) (by decide)
  have m7 : M 4 200 = 0 := hm (4, 200, []) (by decide)
  have m8 : M 4 210 = 0 := hm (4, 210, []) (by decide)
  have m9 : M 4 212 = 0 := hm (4, 212, []) (by decide)
  have m10 : M 4 214 = 0 := hm (4, 214, []) (by decide)
  have m11 : M 4 220 = 0 := hm (4, 220, []) (by decide)
  have m12 : M 4 233 = 0 := hm (4, 233, []) (by decide)
  have m13 : M 4 235 = 0 := hm (4, 235, []) (by decide)
  have m14 : M 91 249 = 1 * ρ 0 + 0 := hm (91, 249, [(1, 0)]) (by decide)
  have m15 : M 91 250 = 1 * ρ 5 + 0 := hm (91, 250, [(1, 5)]) (by decide)
  have m16 : M 91 251 = 1 * ρ 6 + 0 := hm (91, 251, [(1, 6)]) (by decide)
  have m17 : M 91 252 = 1 * ρ 7 + 0 := hm (91, 252, [(1, 7)]) (by decide)
  simp only [h0] at m1 m14
  have qxST := hI.2.2.2.2.2.2.2.2.2.2.2.2.2.2.2.2.2.2.2.2.2.2.2.2.2.2.2.2.2.2.2.2.2.2.2.2.2.2.1
  have qxSP := hI.2.2.2.2.2.2.2.2.2.2.2.2.2.2.2.2.2.2.2.2.2.2.2.2.2.2.2.2.2.2.2.2.2.2.2.2.2.2.2.1
  obtain ⟨g1, g2, g3, g4⟩ := gx_xSE hI (by omega)
  have tb : xop 1 (M 91 252) 255 = tBy (M 4 266) 4 := by
    unfold tBy
    rw [g1, show M 91 250 = M 4 266 by omega, show M 91 251 = 24 by omega]
    rfl

  have g257 := g4
  refine ⟨fun a => cond (Nat.blt a 11) (ρ a) (([xH (sU M 92 (1 * ρ 1 + 0).toNat (1 * ρ 2 + 0))] : List Int).getD (a - 11) 0), fun a ha => ?_, fun f h => ?_, ?_⟩
  · show cond (Nat.blt a 11) (ρ a) _ = ρ a
    rw [show Nat.blt a 11 = true from Nat.ble_eq_true_of_le ha]; rfl
  · exact nomatch h
  · show sI (sU (sU (sU M 92 (1 * ρ 1 + 0 : Int).toNat (1 * ρ 2 + 0)) 91 990 (1 * (xH (sU M 92 (1 * ρ 1 + 0).toNat (1 * ρ 2 + 0))) + 0)) 4 261 (1 * ρ 0 + (1 * ρ 3 + 0)))
    obtain ⟨W, hW⟩ : ∃ W, W = (sU (sU (sU M 92 (1 * ρ 1 + 0).toNat (1 * ρ 2 + 0)) 91 990 (1 * (xH (sU M 92 (1 * ρ 1 + 0).toNat (1 * ρ 2 + 0))) + 0)) 4 261 (1 * ρ 0 + (1 * ρ 3 + 0))) := ⟨_, rfl⟩
    rw [← hW]
    have base : sI0 W := by
      rw [hW]
      exact (si_u0 (si_u0 (si_u0 hI.1 (fun r hr => by rw [xt_92 hr]; exact ⟨by show (0 : Int) ≤ _; omega, by show _ ≤ (255 : Int); omega⟩)) (fun r hr => by cases hr)) (fun r hr => by cases hr))
    have k2 : XI2 W := by
      refine xi2_congr (fun o k hz ho => ?_) hI.2.1
      have h4 : ¬ (o = 4 ∧ k = 261) := fun z => by rw [z.1, z.2] at hz; exact absurd hz (by decide +kernel)
      rw [hW, sU_ne h4, sU_ne (fun z => by omega), sU_ne (fun z => by omega)]
    have k3 : XI3 W := by
      unfold XI3
      rw [hW]
      rw [sU_ne (fun z => by omega), sU_at]
      have e : ∀ o' k' x y, ¬ (o' = 91 ∧ k' = 990) → ¬ (o' = 4 ∧ k' = 261) → sU (sU (sU M 92 (1 * ρ 1 + 0).toNat (1 * ρ 2 + 0)) 91 990 x) 4 261 y o' k' = sU M 92 (1 * ρ 1 + 0).toNat (1 * ρ 2 + 0) o' k' := fun o' k' x y h h' => by rw [sU_ne h', sU_ne h]
      rw [show ∀ z : Int, 1 * z + 0 = z from fun z => by omega]
      unfold xH
      rw [e _ _ _ _ (by omega) (by omega), e _ _ _ _ (by omega) (by omega), e _ _ _ _ (by omega) (by omega)]
    have kXA : XA W := by
      rw [hW]
      exact (uXA rfl (uXA rfl (uXA (sinc_ok rfl _) hI.2.2.2.1)))
    have k_xN1 : xN1 W := by
      rw [hW]
      exact (uxN1 rfl (uxN1 rfl (uxN1 (sinc_ok rfl _) hI.2.2.2.2.1)))
    have k_xN2 : xN2 W := by
      rw [hW]
      exact (uxN2 rfl (uxN2 rfl (uxN2 (sinc_ok rfl _) hI.2.2.2.2.2.1)))
    have k_xN3 : xN3 W := by
      rw [hW]
      exact (uxN3 rfl (uxN3 rfl (uxN3 (sinc_ok rfl _) hI.2.2.2.2.2.2.1)))
    have k_xN4 : xN4 W := by
      rw [hW]
      exact (uxN4 rfl (uxN4 rfl (uxN4 (sinc_ok rfl _) hI.2.2.2.2.2.2.2.1)))
    have k_xN5 : xN5 W := by
      rw [hW]
      exact (uxN5 rfl (uxN5 rfl (uxN5 (sinc_ok rfl _) hI.2.2.2.2.2.2.2.2.1)))
    have k_xN6 : xN6 W := by
      rw [hW]
      exact (uxN6 rfl (uxN6 rfl (uxN6 (sinc_ok rfl _) hI.2.2.2.2.2.2.2.2.2.1)))
    have k_xH1 : xH1 W := by
      rw [hW]
      exact (uxH1 rfl (uxH1 rfl (uxH1 (sinc_ok rfl _) hI.2.2.2.2.2.2.2.2.2.2.1)))
    have k_xK1 : xK1 W := by
      rw [hW]
      exact (uxK1 rfl (uxK1 rfl (uxK1 (sinc_ok rfl _) hI.2.2.2.2.2.2.2.2.2.2.2.1)))
    have k_xC1 : xC1 W := by
      rw [hW]
      exact (uxC1 rfl (uxC1 rfl (uxC1 (sinc_ok rfl _) hI.2.2.2.2.2.2.2.2.2.2.2.2.1)))
    have k_xRW : xRW W := by
      rw [hW]
      exact (uxRW rfl (uxRW rfl (uxRW (sinc_ok rfl _) hI.2.2.2.2.2.2.2.2.2.2.2.2.2.1)))
    have k_xWT : xWT W := by
      rw [hW]
      exact (uxWT rfl (uxWT rfl (uxWT (sinc_ok rfl _) hI.2.2.2.2.2.2.2.2.2.2.2.2.2.2.1)))
    have k_xCU : xCU W := by
      rw [hW]
      exact (uxCU rfl (uxCU rfl (uxCU (sinc_ok rfl _) hI.2.2.2.2.2.2.2.2.2.2.2.2.2.2.2.1)))
    have k_xG2 : xG2 W := by
      rw [hW]
      exact (uxG2 rfl (uxG2 rfl (uxG2 (sinc_ok rfl _) hI.2.2.2.2.2.2.2.2.2.2.2.2.2.2.2.2.1)))
    have k_xG3 : xG3 W := by
      rw [hW]
      exact (uxG3 rfl (uxG3 rfl (uxG3 (sinc_ok rfl _) hI.2.2.2.2.2.2.2.2.2.2.2.2.2.2.2.2.2.1)))
    have k_xG4 : xG4 W := by
      rw [hW]
      exact (uxG4 rfl (uxG4 rfl (uxG4 (sinc_ok rfl _) hI.2.2.2.2.2.2.2.2.2.2.2.2.2.2.2.2.2.2.1)))
    have k_xG5 : xG5 W := by
      rw [hW]
      exact (uxG5 rfl (uxG5 rfl (uxG5 (sinc_ok rfl _) hI.2.2.2.2.2.2.2.2.2.2.2.2.2.2.2.2.2.2.2.1)))
    have k_xG6 : xG6 W := by
      rw [hW]
      exact (uxG6 rfl (uxG6 rfl (uxG6 (sinc_ok rfl _) hI.2.2.2.2.2.2.2.2.2.2.2.2.2.2.2.2.2.2.2.2.1)))
    have k_xS1 : xS1 W := by
      have r : W 4 100 = 0 := by
        have e := m6
        rw [hW, sU_ne (fun z => by omega), sU_ne (fun z => by omega), sU_ne (fun z => by omega)]
        omega
      intro h
      rw [r] at h
      exact absurd rfl h
    have k_xS2 : xS2 W := by
      have r : W 4 100 = 0 := by
        have e := m6
        rw [hW, sU_ne (fun z => by omega), sU_ne (fun z => by omega), sU_ne (fun z => by omega)]
        omega
      intro h
      rw [r] at h
      exact absurd rfl h
    have k_xS3 : xS3 W := by
      have r : W 4 100 = 0 := by
        have e := m6
        rw [hW, sU_ne (fun z => by omega), sU_ne (fun z => by omega), sU_ne (fun z => by omega)]
        omega
      intro h
      rw [r] at h
      exact absurd rfl h
    have k_xS4 : xS4 W := by
      rw [hW]
      exact (uxS4 rfl (uxS4 rfl (uxS4 (sinc_ok rfl _) hI.2.2.2.2.2.2.2.2.2.2.2.2.2.2.2.2.2.2.2.2.2.2.2.2.1)))
    have k_xS5 : xS5 W := by
      rw [hW]
      exact (uxS5 rfl (uxS5 rfl (uxS5 (sinc_ok rfl _) hI.2.2.2.2.2.2.2.2.2.2.2.2.2.2.2.2.2.2.2.2.2.2.2.2.2.1)))
    have k_xS6 : xS6 W := by
      rw [hW]
      exact (uxS6 rfl (uxS6 rfl (uxS6 (sinc_ok rfl _) hI.2.2.2.2.2.2.2.2.2.2.2.2.2.2.2.2.2.2.2.2.2.2.2.2.2.2.1)))
    have k_xS7 : xS7 W := by
      have r : W 4 200 = 0 := by
        have e := m7
        rw [hW, sU_ne (fun z => by omega), sU_ne (fun z => by omega), sU_ne (fun z => by omega)]
        omega
      intro h
      rw [r] at h
      omega
    have k_xS8 : xS8 W := by
      have r : W 4 210 = 0 := by
        have e := m8
        rw [hW, sU_ne (fun z => by omega), sU_ne (fun z => by omega), sU_ne (fun z => by omega)]
        omega
      intro h
      rw [r] at h
      omega
    have k_xS9 : xS9 W := by
      have r : W 4 212 = 0 := by
        have e := m9
        rw [hW, sU_ne (fun z => by omega), sU_ne (fun z => by omega), sU_ne (fun z => by omega)]
        omega
      intro h
      rw [r] at h
      omega
    have k_xSA : xSA W := by
      have r : W 4 214 = 0 := by
        have e := m10
        rw [hW, sU_ne (fun z => by omega), sU_ne (fun z => by omega), sU_ne (fun z => by omega)]
        omega
      intro h
      rw [r] at h
      omega
    have k_xSG : xSG W := by
      have r : W 4 235 = 0 := by
        have e := m13
        rw [hW, sU_ne (fun z => by omega), sU_ne (fun z => by omega), sU_ne (fun z => by omega)]
        omega
      intro h
      rw [r] at h
      omega
    have k_xSF : xSF W := by
      have r : W 4 233 = 0 := by
        have e := m12
        rw [hW, sU_ne (fun z => by omega), sU_ne (fun z => by omega), sU_ne (fun z => by omega)]
        omega
      intro h
      rw [r] at h
      omega
    have k_xSB : xSB W := by
      have r : W 4 220 = 0 := by
        have e := m11
        rw [hW, sU_ne (fun z => by omega), sU_ne (fun z => by omega), sU_ne (fun z => by omega)]
        omega
      intro h
      rw [r] at h
      omega
    have k_xSC : xSC W := by
      rw [hW]
      exact (uxSC rfl (uxSC rfl (uxSC (sinc_ok rfl _) hI.2.2.2.2.2.2.2.2.2.2.2.2.2.2.2.2.2.2.2.2.2.2.2.2.2.2.2.2.2.2.2.2.2.2.1)))
    have k_xSD : xSD W := by
      rw [hW]
      exact (uxSD rfl (uxSD rfl (uxSD (sinc_ok rfl _) hI.2.2.2.2.2.2.2.2.2.2.2.2.2.2.2.2.2.2.2.2.2.2.2.2.2.2.2.2.2.2.2.2.2.2.2.1)))
    have k_xSE : xSE W := by
      rw [hW]
      exact (uxSE rfl (uxSE rfl (uxSE (sinc_ok rfl _) hI.2.2.2.2.2.2.2.2.2.2.2.2.2.2.2.2.2.2.2.2.2.2.2.2.2.2.2.2.2.2.2.2.2.2.2.2.1)))
    have k_xSW : xSW W := by
      rw [hW]
      exact (uxSW rfl (uxSW rfl (uxSW (sinc_ok rfl _) hI.2.2.2.2.2.2.2.2.2.2.2.2.2.2.2.2.2.2.2.2.2.2.2.2.2.2.2.2.2.2.2.2.2.2.2.2.2.1)))
    have k_xST : xST W := by
      have r4_261 : W 4 261 = 1 * ρ 0 + (1 * ρ 3 + 0) := by rw [hW, sU_at]
      have c1 : ∀ k, W 1 k = M 1 k := fun k => by rw [hW, sU_ne (fun z => by omega), sU_ne (fun z => by omega), sU_ne (fun z => by omega)]
      have e1 : W 1 = M 1 := funext c1
      have c92 : ∀ k : Nat, k ≠ (1 * ρ 1 + 0).toNat → W 92 k = M 92 k := fun k hk => by rw [hW, sU_ne (fun z => by omega), sU_ne (fun z => by omega), sU_ne (fun z => by omega)]
      have a92 : W 92 (1 * ρ 1 + 0).toNat = 1 * ρ 2 + 0 := by rw [hW, sU_ne (fun z => by omega), sU_ne (fun z => by omega), sU_at]
      intro i hi
      rw [r4_261, h0] at hi
      rw [e1]
      by_cases hx : i = (1 * ρ 1 + 0).toNat
      · rw [hx, a92]
        obtain ⟨p1, p2, p3⟩ := gx_xSP hI
        have := p2 4 (by omega) (by omega)
        rw [show (M 4 263).toNat + 4 = (1 * ρ 1 + 0).toNat by omega] at this
        have this : M 1 (1 * ρ 1 + 0).toNat = tSn (tBy (M 4 266) 4) := this
        rw [this, ← tb]
        congr 1
        omega
      · rw [c92 i hx]
        exact qxST i (by omega)
    have k_xSP : xSP W := by
      have r4_262 : W 4 262 = M 4 262 := by rw [hW, sU_ne (fun z => by omega), sU_ne (fun z => by omega), sU_ne (fun z => by omega)]
      have r4_263 : W 4 263 = M 4 263 := by rw [hW, sU_ne (fun z => by omega), sU_ne (fun z => by omega), sU_ne (fun z => by omega)]
      have r4_264 : W 4 264 = M 4 264 := by rw [hW, sU_ne (fun z => by omega), sU_ne (fun z => by omega), sU_ne (fun z => by omega)]
      have r4_265 : W 4 265 = M 4 265 := by rw [hW, sU_ne (fun z => by omega), sU_ne (fun z => by omega), sU_ne (fun z => by omega)]
      have r4_266 : W 4 266 = M 4 266 := by rw [hW, sU_ne (fun z => by omega), sU_ne (fun z => by omega), sU_ne (fun z => by omega)]
      have r4_267 : W 4 267 = M 4 267 := by rw [hW, sU_ne (fun z => by omega), sU_ne (fun z => by omega), sU_ne (fun z => by omega)]
      have r4_268 : W 4 268 = M 4 268 := by rw [hW, sU_ne (fun z => by omega), sU_ne (fun z => by omega), sU_ne (fun z => by omega)]
      have r4_269 : W 4 269 = M 4 269 := by rw [hW, sU_ne (fun z => by omega), sU_ne (fun z => by omega), sU_ne (fun z => by omega)]
      have c1 : ∀ k, W 1 k = M 1 k := fun k => by rw [hW, sU_ne (fun z => by omega), sU_ne (fun z => by omega), sU_ne (fun z => by omega)]
      have e1 : W 1 = M 1 := funext c1
      have c92 : ∀ k : Nat, k ≠ (1 * ρ 1 + 0).toNat → W 92 k = M 92 k := fun k hk => by rw [hW, sU_ne (fun z => by omega), sU_ne (fun z => by omega), sU_ne (fun z => by omega)]
      have a92 : W 92 (1 * ρ 1 + 0).toNat = 1 * ρ 2 + 0 := by rw [hW, sU_ne (fun z => by omega), sU_ne (fun z => by omega), sU_at]
      unfold xSP
      rw [r4_262, r4_263, r4_264, e1]
      obtain ⟨p1, p2, p3⟩ := gx_xSP hI
      refine ⟨p1, fun q hq hl => ?_, fun q hq hl => by omega⟩
      have e4 : ∀ x, x ≠ 261 → W 4 x = M 4 x := fun x hx => by rw [hW, sU_ne (fun z => by omega), sU_ne (fun z => by omega), sU_ne (fun z => by omega)]
      rw [e4 _ (by omega)]
      exact p2 q hq hl
    have k_xSL : xSL W := by
      rw [hW]
      exact (uxSL rfl (uxSL rfl (uxSL (sinc_ok rfl _) hI.2.2.2.2.2.2.2.2.2.2.2.2.2.2.2.2.2.2.2.2.2.2.2.2.2.2.2.2.2.2.2.2.2.2.2.2.2.2.2.2.1)))
    have k_xSM : xSM W := by
      rw [hW]
      exact (uxSM rfl (uxSM rfl (uxSM (sinc_ok rfl _) hI.2.2.2.2.2.2.2.2.2.2.2.2.2.2.2.2.2.2.2.2.2.2.2.2.2.2.2.2.2.2.2.2.2.2.2.2.2.2.2.2.2.1)))
    have k_xSI : xSI W := by
      rw [hW]
      exact (uxSI rfl (uxSI rfl (uxSI (sinc_ok rfl _) hI.2.2.2.2.2.2.2.2.2.2.2.2.2.2.2.2.2.2.2.2.2.2.2.2.2.2.2.2.2.2.2.2.2.2.2.2.2.2.2.2.2.2)))
    have k_XC : XC W := ⟨k_xS1, k_xS2, k_xS3, k_xS4, k_xS5, k_xS6, k_xS7, k_xS8, k_xS9, k_xSA, k_xSG, k_xSF, k_xSB, k_xSC, k_xSD, k_xSE, k_xSW, k_xST, k_xSP, k_xSL, k_xSM, k_xSI⟩
    have kXB : XB W := ⟨k_xN1, k_xN2, k_xN3, k_xN4, k_xN5, k_xN6, k_xH1, k_xK1, k_xC1, k_xRW, k_xWT, k_xCU, k_xG2, k_xG3, k_xG4, k_xG5, k_xG6, k_XC⟩
    exact ⟨base, k2, k3, kXA, kXB⟩
-- fdC5
def xr_616 : qRu := (11, [[(-5, 0), (1, 1), (-1, 4)], [(5, 0), (-1, 1), (1, 4)], [(1, 1), (-1, 3)], [(1, 4)], [(699, 0), (-1, 1)], [(1, 1)], [(-16, 0), (1, 6)], [(16, 0), (-1, 6)], [(1, 5), (-1, 8)], [(-1, 5), (1, 8)], [(-1, 2), (1, 9)], [(1, 2), (-1, 9)], [(-1, 7), (1, 10)], [(1, 7), (-1, 10)], [(128, 0), (1, 2)], [(127, 0), (-1, 2)]], [(4, 100, []), (4, 261, [(1, 3)]), (4, 262, [(5, 0)]), (4, 263, [(1, 4)]), (4, 266, [(1, 8)]), (91, 259, [(1, 0)]), (91, 248, [(1, 10)]), (91, 258, [(1, 9)]), (91, 249, [(1, 0)]), (91, 250, [(1, 5)]), (91, 251, [(1, 6)]), (91, 252, [(1, 7)])], [(1, [(1, 1)], [(1, 2)])], [(4, 262, [(6, 0)])], [])
theorem xo_616 : qRok xr_616 := by
  intro ρ M h0 hf hm hI
  have f0 := hf [(-5, 0), (1, 1), (-1, 4)] (by decide)
  have f1 := hf [(5, 0), (-1, 1), (1, 4)] (by decide)
  have f2 := hf [(1, 1), (-1, 3)] (by decide)
  have f3 := hf [(1, 4)] (by decide)
  have f4 := hf [(699, 0), (-1, 1)] (by decide)
  have f5 := hf [(1, 1)] (by decide)
  have f6 := hf [(-16, 0), (1, 6)] (by decide)
  have f7 := hf [(16, 0), (-1, 6)] (by decide)
  have f8 := hf [(1, 5), (-1, 8)] (by decide)
  have f9 := hf [(-1, 5), (1, 8)] (by decide)
  have f10 := hf [(-1, 2), (1, 9)] (by decide)
  have f11 := hf [(1, 2), (-1, 9)] (by decide)
  have f12 := hf [(-1, 7), (1, 10)] (by decide)
  have f13 := hf [(1, 7), (-1, 10)] (by decide)
  have f14 := hf [(128, 0), (1, 2)] (by decide)
  have f15 := hf [(127, 0), (-1, 2)] (by decide)
  simp only [qD, h0] at f0 f1 f2 f3 f4 f5 f6 f7 f8 f9 f10 f11 f12 f13 f14 f15
  have m0 : M 4 100 = 0 := hm (4, 100, []) (by decide)
  have m1 : M 4 261 = 1 * ρ 3 + 0 := hm (4, 261, [(1, 3)]) (by decide)
  have m2 : M 4 262 = 5 * ρ 0 + 0 := hm (4, 262, [(5, 0)]) (by decide)
  have m3 : M 4 263 = 1 * ρ 4 + 0 := hm (4, 263, [(1, 4)]) (by decide)
  have m4 : M 4 266 = 1 * ρ 8 + 0 := hm (4, 266, [(1, 8)]) (by decide)
  have m5 : M 91 259 = 1 * ρ 0 + 0 := hm (91, 259, [(1, 0)]) (by decide)
  have m6 : M 91 248 = 1 * ρ 10 + 0 := hm (91, 248, [(1, 10)]) (by decide)
  have m7 : M 91 258 = 1 * ρ 9 + 0 := hm (91, 258, [(1, 9)]) (by decide)
  have m8 : M 91 249 = 1 * ρ 0 + 0 := hm (91, 249, [(1, 0)]) (by decide)
  have m9 : M 91 250 = 1 * ρ 5 + 0 := hm (91, 250, [(1, 5)]) (by decide)
  have m10 : M 91 251 = 1 * ρ 6 + 0 := hm (91, 251, [(1, 6)]) (by decide)
  have m11 : M 91 252 = 1 * ρ 7 + 0 := hm (91, 252, [(1, 7)]) (by decide)
  simp only [h0] at m2 m5 m8
  have qxST := hI.2.2.2.2.2.2.2.2.2.2.2.2.2.2.2.2.2.2.2.2.2.2.2.2.2.2.2.2.2.2.2.2.2.2.2.2.2.2.1
  have qxSP := hI.2.2.2.2.2.2.2.2.2.2.2.2.2.2.2.2.2.2.2.2.2.2.2.2.2.2.2.2.2.2.2.2.2.2.2.2.2.2.2.1
  obtain ⟨g1, g2, g3, g4⟩ := gx_xSE hI (by omega)
  have tb : xop 1 (M 91 252) 255 = tBy (M 4 266) 5 := by
    unfold tBy
    rw [g1, show M 91 250 = M 4 266 by omega, show M 91 251 = 16 by omega]
    rfl

  have gi := gx_xSI hI (by omega)
  rw [show M 91 248 = M 91 252 by omega] at gi
  refine ⟨ρ, fun _ _ => rfl, fun f h => ?_, ?_⟩
  · exact nomatch h
  · show sI (sU (sU M 1 (1 * ρ 1 + 0 : Int).toNat (1 * ρ 2 + 0)) 4 262 (6 * ρ 0 + 0))
    obtain ⟨W, hW⟩ : ∃ W, W = (sU (sU M 1 (1 * ρ 1 + 0).toNat (1 * ρ 2 + 0)) 4 262 (6 * ρ 0 + 0)) := ⟨_, rfl⟩
    rw [← hW]
    have base : sI0 W := by
      rw [hW]
      exact (si_u0 (si_u0 hI.1 (fun r hr => by rw [xt_1 hr]; exact ⟨by show (-128 : Int) ≤ _; omega, by show _ ≤ (127 : Int); omega⟩)) (fun r hr => by cases hr))
    have k2 : XI2 W := by
      rw [hW]
      exact (xi2_u rfl (xi2_u (sinc_ok rfl _) hI.2.1))
    have k3 : XI3 W := by
      rw [hW]
      exact (xi3_u rfl (xi3_u (sinc_ok rfl _) hI.2.2.1))
    have kXA : XA W := by
      rw [hW]
      exact (uXA rfl (uXA (sinc_ok rfl _) hI.2.2.2.1))
    have k_xN1 : xN1 W := by
      rw [hW]
      exact (uxN1 rfl (uxN1 (sinc_ok rfl _) hI.2.2.2.2.1))
    have k_xN2 : xN2 W := by
      rw [hW]
      exact (uxN2 rfl (uxN2 (sinc_ok rfl _) hI.2.2.2.2.2.1))
    have k_xN3 : xN3 W := by
      rw [hW]
      exact (uxN3 rfl (uxN3 (sinc_ok rfl _) hI.2.2.2.2.2.2.1))
    have k_xN4 : xN4 W := by
      rw [hW]
      exact (uxN4 rfl (uxN4 (sinc_ok rfl _) hI.2.2.2.2.2.2.2.1))
    have k_xN5 : xN5 W := by
      rw [hW]
      exact (uxN5 rfl (uxN5 (sinc_ok rfl _) hI.2.2.2.2.2.2.2.2.1))
    have k_xN6 : xN6 W := by
      rw [hW]
      exact (uxN6 rfl (uxN6 (sinc_ok rfl _) hI.2.2.2.2.2.2.2.2.2.1))
    have k_xH1 : xH1 W := by
      rw [hW]
      exact (uxH1 rfl (uxH1 (sinc_ok rfl _) hI.2.2.2.2.2.2.2.2.2.2.1))
    have k_xK1 : xK1 W := by
      rw [hW]
      exact (uxK1 rfl (uxK1 (sinc_ok rfl _) hI.2.2.2.2.2.2.2.2.2.2.2.1))
    have k_xC1 : xC1 W := by
      rw [hW]
      exact (uxC1 rfl (uxC1 (sinc_ok rfl _) hI.2.2.2.2.2.2.2.2.2.2.2.2.1))
    have k_xRW : xRW W := by
      rw [hW]
      exact (uxRW rfl (uxRW (sinc_ok rfl _) hI.2.2.2.2.2.2.2.2.2.2.2.2.2.1))
    have k_xWT : xWT W := by
      rw [hW]
      exact (uxWT rfl (uxWT (sinc_ok rfl _) hI.2.2.2.2.2.2.2.2.2.2.2.2.2.2.1))
    have k_xCU : xCU W := by
      rw [hW]
      exact (uxCU rfl (uxCU (sinc_ok rfl _) hI.2.2.2.2.2.2.2.2.2.2.2.2.2.2.2.1))
    have k_xG2 : xG2 W := by
      rw [hW]
      exact (uxG2 rfl (uxG2 (sinc_ok rfl _) hI.2.2.2.2.2.2.2.2.2.2.2.2.2.2.2.2.1))
    have k_xG3 : xG3 W := by
      rw [hW]
      exact (uxG3 rfl (uxG3 (sinc_ok rfl _) hI.2.2.2.2.2.2.2.2.2.2.2.2.2.2.2.2.2.1))
    have k_xG4 : xG4 W := by
      rw [hW]
      exact (uxG4 rfl (uxG4 (sinc_ok rfl _) hI.2.2.2.2.2.2.2.2.2.2.2.2.2.2.2.2.2.2.1))
    have k_xG5 : xG5 W := by
      rw [hW]
      exact (uxG5 rfl (uxG5 (sinc_ok rfl _) hI.2.2.2.2.2.2.2.2.2.2.2.2.2.2.2.2.2.2.2.1))
    have k_xG6 : xG6 W := by
      rw [hW]
      exact (uxG6 rfl (uxG6 (sinc_ok rfl _) hI.2.2.2.2.2.2.2.2.2.2.2.2.2.2.2.2.2.2.2.2.1))
    have k_xS1 : xS1 W := by
      have r : W 4 100 = 0 := by
        have e := m0
        rw [hW, sU_ne (fun z => by omega), sU_ne (fun z => by omega)]
        omega
      intro h
      rw [r] at h
      exact absurd rfl h
    have k_xS2 : xS2 W := by
      rw [hW]
      exact (uxS2 rfl (uxS2 (sinc_ok rfl _) hI.2.2.2.2.2.2.2.2.2.2.2.2.2.2.2.2.2.2.2.2.2.2.1))
    have k_xS3 : xS3 W := by
      rw [hW]
      exact (uxS3 rfl (uxS3 (sinc_ok rfl _) hI.2.2.2.2.2.2.2.2.2.2.2.2.2.2.2.2.2.2.2.2.2.2.2.1))
    have k_xS4 : xS4 W := by
      rw [hW]
      exact (uxS4 rfl (uxS4 (sinc_ok rfl _) hI.2.2.2.2.2.2.2.2.2.2.2.2.2.2.2.2.2.2.2.2.2.2.2.2.1))
    have k_xS5 : xS5 W := by
      rw [hW]
      exact (uxS5 rfl (uxS5 (sinc_ok rfl _) hI.2.2.2.2.2.2.2.2.2.2.2.2.2.2.2.2.2.2.2.2.2.2.2.2.2.1))
    have k_xS6 : xS6 W := by
      rw [hW]
      exact (uxS6 rfl (uxS6 (sinc_ok rfl _) hI.2.2.2.2.2.2.2.2.2.2.2.2.2.2.2.2.2.2.2.2.2.2.2.2.2.2.1))
    have k_xS7 : xS7 W := by
      rw [hW]
      exact (uxS7 rfl (uxS7 (sinc_ok rfl _) hI.2.2.2.2.2.2.2.2.2.2.2.2.2.2.2.2.2.2.2.2.2.2.2.2.2.2.2.1))
    have k_xS8 : xS8 W := by
      rw [hW]
      exact (uxS8 rfl (uxS8 (sinc_ok rfl _) hI.2.2.2.2.2.2.2.2.2.2.2.2.2.2.2.2.2.2.2.2.2.2.2.2.2.2.2.2.1))
    have k_xS9 : xS9 W := by
      rw [hW]
      exact (uxS9 rfl (uxS9 (sinc_ok rfl _) hI.2.2.2.2.2.2.2.2.2.2.2.2.2.2.2.2.2.2.2.2.2.2.2.2.2.2.2.2.2.1))
    have k_xSA : xSA W := by
      rw [hW]
      exact (uxSA rfl (uxSA (sinc_ok rfl _) hI.2.2.2.2.2.2.2.2.2.2.2.2.2.2.2.2.2.2.2.2.2.2.2.2.2.2.2.2.2.2.1))
    have k_xSG : xSG W := by
      rw [hW]
      exact (uxSG rfl (uxSG (sinc_ok rfl _) hI.2.2.2.2.2.2.2.2.2.2.2.2.2.2.2.2.2.2.2.2.2.2.2.2.2.2.2.2.2.2.2.1))
    have k_xSF : xSF W := by
      rw [hW]
      exact (uxSF rfl (uxSF (sinc_ok rfl _) hI.2.2.2.2.2.2.2.2.2.2.2.2.2.2.2.2.2.2.2.2.2.2.2.2.2.2.2.2.2.2.2.2.1))
    have k_xSB : xSB W := by
      rw [hW]
      exact (uxSB rfl (uxSB (sinc_ok rfl _) hI.2.2.2.2.2.2.2.2.2.2.2.2.2.2.2.2.2.2.2.2.2.2.2.2.2.2.2.2.2.2.2.2.2.1))
    have k_xSC : xSC W := by
      rw [hW]
      exact (uxSC rfl (uxSC (sinc_ok rfl _) hI.2.2.2.2.2.2.2.2.2.2.2.2.2.2.2.2.2.2.2.2.2.2.2.2.2.2.2.2.2.2.2.2.2.2.1))
    have k_xSD : xSD W := by
      rw [hW]
      exact (uxSD rfl (uxSD (sinc_ok rfl _) hI.2.2.2.2.2.2.2.2.2.2.2.2.2.2.2.2.2.2.2.2.2.2.2.2.2.2.2.2.2.2.2.2.2.2.2.1))
    have k_xSE : xSE W := by
      rw [hW]
      exact (uxSE rfl (uxSE (sinc_ok rfl _) hI.2.2.2.2.2.2.2.2.2.2.2.2.2.2.2.2.2.2.2.2.2.2.2.2.2.2.2.2.2.2.2.2.2.2.2.2.1))
    have k_xSW : xSW W := by
      rw [hW]
      exact (uxSW rfl (uxSW (sinc_ok rfl _) hI.2.2.2.2.2.2.2.2.2.2.2.2.2.2.2.2.2.2.2.2.2.2.2.2.2.2.2.2.2.2.2.2.2.2.2.2.2.1))
    have k_xST : xST W := by
      have r4_261 : W 4 261 = M 4 261 := by rw [hW, sU_ne (fun z => by omega), sU_ne (fun z => by omega)]
      have c1 : ∀ k : Nat, k ≠ (1 * ρ 1 + 0).toNat → W 1 k = M 1 k := fun k hk => by rw [hW, sU_ne (fun z => by omega), sU_ne (fun z => by omega)]
      have a1 : W 1 (1 * ρ 1 + 0).toNat = 1 * ρ 2 + 0 := by rw [hW, sU_ne (fun z => by omega), sU_at]
      have c92 : ∀ k, W 92 k = M 92 k := fun k => by rw [hW, sU_ne (fun z => by omega), sU_ne (fun z => by omega)]
      have e92 : W 92 = M 92 := funext c92
      intro i hi
      rw [r4_261] at hi
      rw [c1 i (by omega), e92]
      exact qxST i hi
    have k_xSP : xSP W := by
      have r4_262 : W 4 262 = 6 * ρ 0 + 0 := by rw [hW, sU_at]
      have r4_263 : W 4 263 = M 4 263 := by rw [hW, sU_ne (fun z => by omega), sU_ne (fun z => by omega)]
      have r4_264 : W 4 264 = M 4 264 := by rw [hW, sU_ne (fun z => by omega), sU_ne (fun z => by omega)]
      have r4_265 : W 4 265 = M 4 265 := by rw [hW, sU_ne (fun z => by omega), sU_ne (fun z => by omega)]
      have r4_266 : W 4 266 = M 4 266 := by rw [hW, sU_ne (fun z => by omega), sU_ne (fun z => by omega)]
      have r4_267 : W 4 267 = M 4 267 := by rw [hW, sU_ne (fun z => by omega), sU_ne (fun z => by omega)]
      have r4_268 : W 4 268 = M 4 268 := by rw [hW, sU_ne (fun z => by omega), sU_ne (fun z => by omega)]
      have r4_269 : W 4 269 = M 4 269 := by rw [hW, sU_ne (fun z => by omega), sU_ne (fun z => by omega)]
      have c1 : ∀ k : Nat, k ≠ (1 * ρ 1 + 0).toNat → W 1 k = M 1 k := fun k hk => by rw [hW, sU_ne (fun z => by omega), sU_ne (fun z => by omega)]
      have a1 : W 1 (1 * ρ 1 + 0).toNat = 1 * ρ 2 + 0 := by rw [hW, sU_ne (fun z => by omega), sU_at]
      have c92 : ∀ k, W 92 k = M 92 k := fun k => by rw [hW, sU_ne (fun z => by omega), sU_ne (fun z => by omega)]
      have e92 : W 92 = M 92 := funext c92
      unfold xSP
      rw [r4_262, r4_263, r4_264, e92]
      obtain ⟨p1, p2, p3⟩ := qxSP
      have e4 : ∀ x, x ≠ 262 → W 4 x = M 4 x := fun x hx => by rw [hW, sU_ne (fun z => by omega), sU_ne (fun z => by omega)]
      refine ⟨p1, fun q hq hl => ?_, fun q hq hl => by rw [e4 _ (by omega)]; exact p3 q hq hl⟩
      rw [h0] at hl
      rw [e4 _ (by omega)]
      by_cases hj : q = 5
      · subst hj
        show W 1 ((M 4 263).toNat + 5) = tSn (tBy (M 4 266) 5)
        rw [show (M 4 263).toNat + 5 = (1 * ρ 1 + 0).toNat by omega, a1, ← tb]
        have := xi2b (M 91 252)
        omega
      · rw [c1 _ (by omega)]
        exact p2 q hq (by omega)
    have k_xSL : xSL W := by
      rw [hW]
      exact (uxSL rfl (uxSL (sinc_ok rfl _) hI.2.2.2.2.2.2.2.2.2.2.2.2.2.2.2.2.2.2.2.2.2.2.2.2.2.2.2.2.2.2.2.2.2.2.2.2.2.2.2.2.1))
    have k_xSM : xSM W := by
      rw [hW]
      exact (uxSM rfl (uxSM (sinc_ok rfl _) hI.2.2.2.2.2.2.2.2.2.2.2.2.2.2.2.2.2.2.2.2.2.2.2.2.2.2.2.2.2.2.2.2.2.2.2.2.2.2.2.2.2.1))
    have k_xSI : xSI W := by
      rw [hW]
      exact (uxSI rfl (uxSI (sinc_ok rfl _) hI.2.2.2.2.2.2.2.2.2.2.2.2.2.2.2.2.2.2.2.2.2.2.2.2.2.2.2.2.2.2.2.2.2.2.2.2.2.2.2.2.2.2))
    have k_XC : XC W := ⟨k_xS1, k_xS2, k_xS3, k_xS4, k_xS5, k_xS6, k_xS7, k_xS8, k_xS9, k_xSA, k_xSG, k_xSF, k_xSB, k_xSC, k_xSD, k_xSE, k_xSW, k_xST, k_xSP, k_xSL, k_xSM, k_xSI⟩
    have kXB : XB W := ⟨k_xN1, k_xN2, k_xN3, k_xN4, k_xN5, k_xN6, k_xH1, k_xK1, k_xC1, k_xRW, k_xWT, k_xCU, k_xG2, k_xG3, k_xG4, k_xG5, k_xG6, k_XC⟩
    exact ⟨base, k2, k3, kXA, kXB⟩
-- fdW5
def xr_617 : qRu := (11, [[(-5, 0), (1, 1), (-1, 4)], [(5, 0), (-1, 1), (1, 4)], [(1, 1), (-1, 3)], [(-1, 1), (1, 3)], [(1, 4)], [(699, 0), (-1, 1)], [(1, 1)], [(-16, 0), (1, 6)], [(16, 0), (-1, 6)], [(1, 5), (-1, 8)], [(-1, 5), (1, 8)], [(-1, 2), (1, 9)], [(1, 2), (-1, 9)], [(1, 2)], [(255, 0), (-1, 2)]], [(4, 261, [(1, 3)]), (4, 262, [(20, 0)]), (4, 263, [(1, 4)]), (4, 264, []), (4, 266, [(1, 8)]), (91, 257, [(1, 9)]), (4, 100, []), (4, 200, []), (4, 210, []), (4, 212, []), (4, 214, []), (4, 220, []), (4, 233, []), (4, 235, []), (91, 249, [(1, 0)]), (91, 250, [(1, 5)]), (91, 251, [(1, 6)]), (91, 252, [(1, 7)])], [(92, [(1, 1)], [(1, 2)])], [(91, 990, [(1, 11)]), (4, 261, [(1, 0), (1, 3)])], [])
theorem xo_617 : qRok xr_617 := by
  intro ρ M h0 hf hm hI
  have f0 := hf [(-5, 0), (1, 1), (-1, 4)] (by decide)
  have f1 := hf [(5, 0), (-1, 1), (1, 4)] (by decide)
  have f2 := hf [(1, 1), (-1, 3)] (by decide)
  have f3 := hf [(-1, 1), (1, 3)] (by decide)
  have f4 := hf [(1, 4)] (by decide)
  have f5 := hf [(699, 0), (-1, 1)] (by decide)
  have f6 := hf [(1, 1)] (by decide)
  have f7 := hf [(-16, 0), (1, 6)] (by decide)
  have f8 := hf [(16, 0), (-1, 6)] (by decide)
  have f9 := hf [(1, 5), (-1, 8)] (by decide)
  have f10 := hf [(-1, 5), (1, 8)] (by decide)
  have f11 := hf [(-1, 2), (1, 9)] (by decide)
  have f12 := hf [(1, 2), (-1, 9)] (by decide)
  have f13 := hf [(1, 2)] (by decide)
  have f14 := hf [(255, 0), (-1, 2)] (by decide)
  simp only [qD, h0] at f0 f1 f2 f3 f4 f5 f6 f7 f8 f9 f10 f11 f12 f13 f14
  have m0 : M 4 261 = 1 * ρ 3 + 0 := hm (4, 261, [(1, 3)]) (by decide)
  have m1 : M 4 262 = 20 * ρ 0 + 0 := hm (4, 262, [(20, 0)]) (by decide)
  have m2 : M 4 263 = 1 * ρ 4 + 0 := hm (4, 263, [(1, 4)]) (by decide)
  have m3 : M 4 264 = 0 := hm (4, 264, []) (by decide)
  have m4 : M 4 266 = 1 * ρ 8 + 0 := hm (4, 266, [(1, 8)]) (by decide)
  have m5 : M 91 257 = 1 * ρ 9 + 0 := hm (91, 257, [(1, 9)]) (by decide)
  have m6 : M 4 100 = 0 := hm (4, 100, []) (by decide)
  have m7 : M 4 200 = 0 := hm (4, 200, []) (by decide)
  have m8 : M 4 210 = 0 := hm (4, 210, []) (by decide)
  have m9 : M 4 212 = 0 := hm (4, 212, []) (by decide)
  have m10 : M 4 214 = 0 := hm (4, 214, []) (by decide)
  have m11 : M 4 220 = 0 := hm (4, 220, []) (by decide)
  have m12 : M 4 233 = 0 := hm (4, 233, []) (by decide)
  have m13 : M 4 235 = 0 := hm (4, 235, []) (by decide)
  have m14 : M 91 249 = 1 * ρ 0 + 0 := hm (91, 249, [(1, 0)]) (by decide)
  have m15 : M 91 250 = 1 * ρ 5 + 0 := hm (91, 250, [(1, 5)]) (by decide)
  have m16 : M 91 251 = 1 * ρ 6 + 0 := hm (91, 251, [(1, 6)]) (by decide)
  have m17 : M 91 252 = 1 * ρ 7 + 0 := hm (91, 252, [(1, 7)]) (by decide)
  simp only [h0] at m1 m14
  have qxST := hI.2.2.2.2.2.2.2.2.2.2.2.2.2.2.2.2.2.2.2.2.2.2.2.2.2.2.2.2.2.2.2.2.2.2.2.2.2.2.1
  have qxSP := hI.2.2.2.2.2.2.2.2.2.2.2.2.2.2.2.2.2.2.2.2.2.2.2.2.2.2.2.2.2.2.2.2.2.2.2.2.2.2.2.1
  obtain ⟨g1, g2, g3, g4⟩ := gx_xSE hI (by omega)
  have tb : xop 1 (M 91 252) 255 = tBy (M 4 266) 5 := by
    unfold tBy
    rw [g1, show M 91 250 = M 4 266 by omega, show M 91 251 = 16 by omega]
    rfl

  have g257 := g4
  refine ⟨fun a => cond (Nat.blt a 11) (ρ a) (([xH (sU M 92 (1 * ρ 1 + 0).toNat (1 * ρ 2 + 0))] : List Int).getD (a - 11) 0), fun a ha => ?_, fun f h => ?_, ?_⟩
  · show cond (Nat.blt a 11) (ρ a) _ = ρ a
    rw [show Nat.blt a 11 = true from Nat.ble_eq_true_of_le ha]; rfl
  · exact nomatch h
  · show sI (sU (sU (sU M 92 (1 * ρ 1 + 0 : Int).toNat (1 * ρ 2 + 0)) 91 990 (1 * (xH (sU M 92 (1 * ρ 1 + 0).toNat (1 * ρ 2 + 0))) + 0)) 4 261 (1 * ρ 0 + (1 * ρ 3 + 0)))
    obtain ⟨W, hW⟩ : ∃ W, W = (sU (sU (sU M 92 (1 * ρ 1 + 0).toNat (1 * ρ 2 + 0)) 91 990 (1 * (xH (sU M 92 (1 * ρ 1 + 0).toNat (1 * ρ 2 + 0))) + 0)) 4 261 (1 * ρ 0 + (1 * ρ 3 + 0))) := ⟨_, rfl⟩
    rw [← hW]
    have base : sI0 W := by
      rw [hW]
      exact (si_u0 (si_u0 (si_u0 hI.1 (fun r hr => by rw [xt_92 hr]; exact ⟨by show (0 : Int) ≤ _; omega, by show _ ≤ (255 : Int); omega⟩)) (fun r hr => by cases hr)) (fun r hr => by cases hr))
    have k2 : XI2 W := by
      refine xi2_congr (fun o k hz ho => ?_) hI.2.1
      have h4 : ¬ (o = 4 ∧ k = 261) := fun z => by rw [z.1, z.2] at hz; exact absurd hz (by decide +kernel)
      rw [hW, sU_ne h4, sU_ne (fun z => by omega), sU_ne (fun z => by omega)]
    have k3 : XI3 W := by
      unfold XI3
      rw [hW]
      rw [sU_ne (fun z => by omega), sU_at]
      have e : ∀ o' k' x y, ¬ (o' = 91 ∧ k' = 990) → ¬ (o' = 4 ∧ k' = 261) → sU (sU (sU M 92 (1 * ρ 1 + 0).toNat (1 * ρ 2 + 0)) 91 990 x) 4 261 y o' k' = sU M 92 (1 * ρ 1 + 0).toNat (1 * ρ 2 + 0) o' k' := fun o' k' x y h h' => by rw [sU_ne h', sU_ne h]
      rw [show ∀ z : Int, 1 * z + 0 = z from fun z => by omega]
      unfold xH
      rw [e _ _ _ _ (by omega) (by omega), e _ _ _ _ (by omega) (by omega), e _ _ _ _ (by omega) (by omega)]
    have kXA : XA W := by
      rw [hW]
      exact (uXA rfl (uXA rfl (uXA (sinc_ok rfl _) hI.2.2.2.1)))
    have k_xN1 : xN1 W := by
      rw [hW]
      exact (uxN1 rfl (uxN1 rfl (uxN1 (sinc_ok rfl _) hI.2.2.2.2.1)))
    have k_xN2 : xN2 W := by
      rw [hW]
      exact (uxN2 rfl (uxN2 rfl (uxN2 (sinc_ok rfl _) hI.2.2.2.2.2.1)))
    have k_xN3 : xN3 W := by
      rw [hW]
      exact (uxN3 rfl (uxN3 rfl (uxN3 (sinc_ok rfl _) hI.2.2.2.2.2.2.1)))
    have k_xN4 : xN4 W := by
      rw [hW]
      exact (uxN4 rfl (uxN4 rfl (uxN4 (sinc_ok rfl _) hI.2.2.2.2.2.2.2.1)))
    have k_xN5 : xN5 W := by
      rw [hW]
      exact (uxN5 rfl (uxN5 rfl (uxN5 (sinc_ok rfl _) hI.2.2.2.2.2.2.2.2.1)))
    have k_xN6 : xN6 W := by
      rw [hW]
      exact (uxN6 rfl (uxN6 rfl (uxN6 (sinc_ok rfl _) hI.2.2.2.2.2.2.2.2.2.1)))
    have k_xH1 : xH1 W := by
      rw [hW]
      exact (uxH1 rfl (uxH1 rfl (uxH1 (sinc_ok rfl _) hI.2.2.2.2.2.2.2.2.2.2.1)))
    have k_xK1 : xK1 W := by
      rw [hW]
      exact (uxK1 rfl (uxK1 rfl (uxK1 (sinc_ok rfl _) hI.2.2.2.2.2.2.2.2.2.2.2.1)))
    have k_xC1 : xC1 W := by
      rw [hW]
      exact (uxC1 rfl (uxC1 rfl (uxC1 (sinc_ok rfl _) hI.2.2.2.2.2.2.2.2.2.2.2.2.1)))
    have k_xRW : xRW W := by
      rw [hW]
      exact (uxRW rfl (uxRW rfl (uxRW (sinc_ok rfl _) hI.2.2.2.2.2.2.2.2.2.2.2.2.2.1)))
    have k_xWT : xWT W := by
      rw [hW]
      exact (uxWT rfl (uxWT rfl (uxWT (sinc_ok rfl _) hI.2.2.2.2.2.2.2.2.2.2.2.2.2.2.1)))
    have k_xCU : xCU W := by
      rw [hW]
      exact (uxCU rfl (uxCU rfl (uxCU (sinc_ok rfl _) hI.2.2.2.2.2.2.2.2.2.2.2.2.2.2.2.1)))
    have k_xG2 : xG2 W := by
      rw [hW]
      exact (uxG2 rfl (uxG2 rfl (uxG2 (sinc_ok rfl _) hI.2.2.2.2.2.2.2.2.2.2.2.2.2.2.2.2.1)))
    have k_xG3 : xG3 W := by
      rw [hW]
      exact (uxG3 rfl (uxG3 rfl (uxG3 (sinc_ok rfl _) hI.2.2.2.2.2.2.2.2.2.2.2.2.2.2.2.2.2.1)))
    have k_xG4 : xG4 W := by
      rw [hW]
      exact (uxG4 rfl (uxG4 rfl (uxG4 (sinc_ok rfl _) hI.2.2.2.2.2.2.2.2.2.2.2.2.2.2.2.2.2.2.1)))
    have k_xG5 : xG5 W := by
      rw [hW]
      exact (uxG5 rfl (uxG5 rfl (uxG5 (sinc_ok rfl _) hI.2.2.2.2.2.2.2.2.2.2.2.2.2.2.2.2.2.2.2.1)))
    have k_xG6 : xG6 W := by
      rw [hW]
      exact (uxG6 rfl (uxG6 rfl (uxG6 (sinc_ok rfl _) hI.2.2.2.2.2.2.2.2.2.2.2.2.2.2.2.2.2.2.2.2.1)))
    have k_xS1 : xS1 W := by
      have r : W 4 100 = 0 := by
        have e := m6
        rw [hW, sU_ne (fun z => by omega), sU_ne (fun z => by omega), sU_ne (fun z => by omega)]
        omega
      intro h
      rw [r] at h
      exact absurd rfl h
    have k_xS2 : xS2 W := by
      have r : W 4 100 = 0 := by
        have e := m6
        rw [hW, sU_ne (fun z => by omega), sU_ne (fun z => by omega), sU_ne (fun z => by omega)]
        omega
      intro h
      rw [r] at h
      exact absurd rfl h
    have k_xS3 : xS3 W := by
      have r : W 4 100 = 0 := by
        have e := m6
        rw [hW, sU_ne (fun z => by omega), sU_ne (fun z => by omega), sU_ne (fun z => by omega)]
        omega
      intro h
      rw [r] at h
      exact absurd rfl h
    have k_xS4 : xS4 W := by
      rw [hW]
      exact (uxS4 rfl (uxS4 rfl (uxS4 (sinc_ok rfl _) hI.2.2.2.2.2.2.2.2.2.2.2.2.2.2.2.2.2.2.2.2.2.2.2.2.1)))
    have k_xS5 : xS5 W := by
      rw [hW]
      exact (uxS5 rfl (uxS5 rfl (uxS5 (sinc_ok rfl _) hI.2.2.2.2.2.2.2.2.2.2.2.2.2.2.2.2.2.2.2.2.2.2.2.2.2.1)))
    have k_xS6 : xS6 W := by
      rw [hW]
      exact (uxS6 rfl (uxS6 rfl (uxS6 (sinc_ok rfl _) hI.2.2.2.2.2.2.2.2.2.2.2.2.2.2.2.2.2.2.2.2.2.2.2.2.2.2.1)))
    have k_xS7 : xS7 W := by
      have r : W 4 200 = 0 := by
        have e := m7
        rw [hW, sU_ne (fun z => by omega), sU_ne (fun z => by omega), sU_ne (fun z => by omega)]
        omega
      intro h
      rw [r] at h
      omega
    have k_xS8 : xS8 W := by
      have r : W 4 210 = 0 := by
        have e := m8
        rw [hW, sU_ne (fun z => by omega), sU_ne (fun z => by omega), sU_ne (fun z => by omega)]
        omega
      intro h
      rw [r] at h
      omega
    have k_xS9 : xS9 W := by
      have r : W 4 212 = 0 := by
        have e := m9
        rw [hW, sU_ne (fun z => by omega), sU_ne (fun z => by omega), sU_ne (fun z => by omega)]
        omega
      intro h
      rw [r] at h
      omega
    have k_xSA : xSA W := by
      have r : W 4 214 = 0 := by
        have e := m10
        rw [hW, sU_ne (fun z => by omega), sU_ne (fun z => by omega), sU_ne (fun z => by omega)]
        omega
      intro h
      rw [r] at h
      omega
    have k_xSG : xSG W := by
      have r : W 4 235 = 0 := by
        have e := m13
        rw [hW, sU_ne (fun z => by omega), sU_ne (fun z => by omega), sU_ne (fun z => by omega)]
        omega
      intro h
      rw [r] at h
      omega
    have k_xSF : xSF W := by
      have r : W 4 233 = 0 := by
        have e := m12
        rw [hW, sU_ne (fun z => by omega), sU_ne (fun z => by omega), sU_ne (fun z => by omega)]
        omega
      intro h
      rw [r] at h
      omega
    have k_xSB : xSB W := by
      have r : W 4 220 = 0 := by
        have e := m11
        rw [hW, sU_ne (fun z => by omega), sU_ne (fun z => by omega), sU_ne (fun z => by omega)]
        omega
      intro h
      rw [r] at h
      omega
    have k_xSC : xSC W := by
      rw [hW]
      exact (uxSC rfl (uxSC rfl (uxSC (sinc_ok rfl _) hI.2.2.2.2.2.2.2.2.2.2.2.2.2.2.2.2.2.2.2.2.2.2.2.2.2.2.2.2.2.2.2.2.2.2.1)))
    have k_xSD : xSD W := by
      rw [hW]
      exact (uxSD rfl (uxSD rfl (uxSD (sinc_ok rfl _) hI.2.2.2.2.2.2.2.2.2.2.2.2.2.2.2.2.2.2.2.2.2.2.2.2.2.2.2.2.2.2.2.2.2.2.2.1)))
    have k_xSE : xSE W := by
      rw [hW]
      exact (uxSE rfl (uxSE rfl (uxSE (sinc_ok rfl _) hI.2.2.2.2.2.2.2.2.2.2.2.2.2.2.2.2.2.2.2.2.2.2.2.2.2.2.2.2.2.2.2.2.2.2.2.2.1)))
    have k_xSW : xSW W := by
      rw [hW]
      exact (uxSW rfl (uxSW rfl (uxSW (sinc_ok rfl _) hI.2.2.2.2.2.2.2.2.2.2.2.2.2.2.2.2.2.2.2.2.2.2.2.2.2.2.2.2.2.2.2.2.2.2.2.2.2.1)))
    have k_xST : xST W := by
      have r4_261 : W 4 261 = 1 * ρ 0 + (1 * ρ 3 + 0) := by rw [hW, sU_at]
      have c1 : ∀ k, W 1 k = M 1 k := fun k => by rw [hW, sU_ne (fun z => by omega), sU_ne (fun z => by omega), sU_ne (fun z => by omega)]
      have e1 : W 1 = M 1 := funext c1
      have c92 : ∀ k : Nat, k ≠ (1 * ρ 1 + 0).toNat → W 92 k = M 92 k := fun k hk => by rw [hW, sU_ne (fun z => by omega), sU_ne (fun z => by omega), sU_ne (fun z => by omega)]
      have a92 : W 92 (1 * ρ 1 + 0).toNat = 1 * ρ 2 + 0 := by rw [hW, sU_ne (fun z => by omega), sU_ne (fun z => by omega), sU_at]
      intro i hi
      rw [r4_261, h0] at hi
      rw [e1]
      by_cases hx : i = (1 * ρ 1 + 0).toNat
      · rw [hx, a92]
        obtain ⟨p1, p2, p3⟩ := gx_xSP hI
        have := p2 5 (by omega) (by omega)
        rw [show (M 4 263).toNat + 5 = (1 * ρ 1 + 0).toNat by omega] at this
        have this : M 1 (1 * ρ 1 + 0).toNat = tSn (tBy (M 4 266) 5) := this
        rw [this, ← tb]
        congr 1
        omega
      · rw [c92 i hx]
        exact qxST i (by omega)
    have k_xSP : xSP W := by
      have r4_262 : W 4 262 = M 4 262 := by rw [hW, sU_ne (fun z => by omega), sU_ne (fun z => by omega), sU_ne (fun z => by omega)]
      have r4_263 : W 4 263 = M 4 263 := by rw [hW, sU_ne (fun z => by omega), sU_ne (fun z => by omega), sU_ne (fun z => by omega)]
      have r4_264 : W 4 264 = M 4 264 := by rw [hW, sU_ne (fun z => by omega), sU_ne (fun z => by omega), sU_ne (fun z => by omega)]
      have r4_265 : W 4 265 = M 4 265 := by rw [hW, sU_ne (fun z => by omega), sU_ne (fun z => by omega), sU_ne (fun z => by omega)]
      have r4_266 : W 4 266 = M 4 266 := by rw [hW, sU_ne (fun z => by omega), sU_ne (fun z => by omega), sU_ne (fun z => by omega)]
      have r4_267 : W 4 267 = M 4 267 := by rw [hW, sU_ne (fun z => by omega), sU_ne (fun z => by omega), sU_ne (fun z => by omega)]
      have r4_268 : W 4 268 = M 4 268 := by rw [hW, sU_ne (fun z => by omega), sU_ne (fun z => by omega), sU_ne (fun z => by omega)]
      have r4_269 : W 4 269 = M 4 269 := by rw [hW, sU_ne (fun z => by omega), sU_ne (fun z => by omega), sU_ne (fun z => by omega)]
      have c1 : ∀ k, W 1 k = M 1 k := fun k => by rw [hW, sU_ne (fun z => by omega), sU_ne (fun z => by omega), sU_ne (fun z => by omega)]
      have e1 : W 1 = M 1 := funext c1
      have c92 : ∀ k : Nat, k ≠ (1 * ρ 1 + 0).toNat → W 92 k = M 92 k := fun k hk => by rw [hW, sU_ne (fun z => by omega), sU_ne (fun z => by omega), sU_ne (fun z => by omega)]
      have a92 : W 92 (1 * ρ 1 + 0).toNat = 1 * ρ 2 + 0 := by rw [hW, sU_ne (fun z => by omega), sU_ne (fun z => by omega), sU_at]
      unfold xSP
      rw [r4_262, r4_263, r4_264, e1]
      obtain ⟨p1, p2, p3⟩ := gx_xSP hI
      refine ⟨p1, fun q hq hl => ?_, fun q hq hl => by omega⟩
      have e4 : ∀ x, x ≠ 261 → W 4 x = M 4 x := fun x hx => by rw [hW, sU_ne (fun z => by omega), sU_ne (fun z => by omega), sU_ne (fun z => by omega)]
      rw [e4 _ (by omega)]
      exact p2 q hq hl
    have k_xSL : xSL W := by
      rw [hW]
      exact (uxSL rfl (uxSL rfl (uxSL (sinc_ok rfl _) hI.2.2.2.2.2.2.2.2.2.2.2.2.2.2.2.2.2.2.2.2.2.2.2.2.2.2.2.2.2.2.2.2.2.2.2.2.2.2.2.2.1)))
    have k_xSM : xSM W := by
      rw [hW]
      exact (uxSM rfl (uxSM rfl (uxSM (sinc_ok rfl _) hI.2.2.2.2.2.2.2.2.2.2.2.2.2.2.2.2.2.2.2.2.2.2.2.2.2.2.2.2.2.2.2.2.2.2.2.2.2.2.2.2.2.1)))
    have k_xSI : xSI W := by
      rw [hW]
      exact (uxSI rfl (uxSI rfl (uxSI (sinc_ok rfl _) hI.2.2.2.2.2.2.2.2.2.2.2.2.2.2.2.2.2.2.2.2.2.2.2.2.2.2.2.2.2.2.2.2.2.2.2.2.2.2.2.2.2.2)))
    have k_XC : XC W := ⟨k_xS1, k_xS2, k_xS3, k_xS4, k_xS5, k_xS6, k_xS7, k_xS8, k_xS9, k_xSA, k_xSG, k_xSF, k_xSB, k_xSC, k_xSD, k_xSE, k_xSW, k_xST, k_xSP, k_xSL, k_xSM, k_xSI⟩
    have kXB : XB W := ⟨k_xN1, k_xN2, k_xN3, k_xN4, k_xN5, k_xN6, k_xH1, k_xK1, k_xC1, k_xRW, k_xWT, k_xCU, k_xG2, k_xG3, k_xG4, k_xG5, k_xG6, k_XC⟩
    exact ⟨base, k2, k3, kXA, kXB⟩
-- fdC6
def xr_618 : qRu := (11, [[(-6, 0), (1, 1), (-1, 4)], [(6, 0), (-1, 1), (1, 4)], [(1, 1), (-1, 3)], [(1, 4)], [(699, 0), (-1, 1)], [(1, 1)], [(-8, 0), (1, 6)], [(8, 0), (-1, 6)], [(1, 5), (-1, 8)], [(-1, 5), (1, 8)], [(-1, 2), (1, 9)], [(1, 2), (-1, 9)], [(-1, 7), (1, 10)], [(1, 7), (-1, 10)], [(128, 0), (1, 2)], [(127, 0), (-1, 2)]], [(4, 100, []), (4, 261, [(1, 3)]), (4, 262, [(6, 0)]), (4, 263, [(1, 4)]), (4, 266, [(1, 8)]), (91, 259, [(1, 0)]), (91, 248, [(1, 10)]), (91, 258, [(1, 9)]), (91, 249, [(1, 0)]), (91, 250, [(1, 5)]), (91, 251, [(1, 6)]), (91, 252, [(1, 7)])], [(1, [(1, 1)], [(1, 2)])], [(4, 262, [(7, 0)])], [])
theorem xo_618 : qRok xr_618 := by
  intro ρ M h0 hf hm hI
  have f0 := hf [(-6, 0), (1, 1), (-1, 4)] (by decide)
  have f1 := hf [(6, 0), (-1, 1), (1, 4)] (by decide)
  have f2 := hf [(1, 1), (-1, 3)] (by decide)
  have f3 := hf [(1, 4)] (by decide)
  have f4 := hf [(699, 0), (-1, 1)] (by decide)
  have f5 := hf [(1, 1)] (by decide)
  have f6 := hf [(-8, 0), (1, 6)] (by decide)
  have f7 := hf [(8, 0), (-1, 6)] (by decide)
  have f8 := hf [(1, 5), (-1, 8)] (by decide)
  have f9 := hf [(-1, 5), (1, 8)] (by decide)
  have f10 := hf [(-1, 2), (1, 9)] (by decide)
  have f11 := hf [(1, 2), (-1, 9)] (by decide)
  have f12 := hf [(-1, 7), (1, 10)] (by decide)
  have f13 := hf [(1, 7), (-1, 10)] (by decide)
  have f14 := hf [(128, 0), (1, 2)] (by decide)
  have f15 := hf [(127, 0), (-1, 2)] (by decide)
  simp only [qD, h0] at f0 f1 f2 f3 f4 f5 f6 f7 f8 f9 f10 f11 f12 f13 f14 f15
  have m0 : M 4 100 = 0 := hm (4, 100, []) (by decide)
  have m1 : M 4 261 = 1 * ρ 3 + 0 := hm (4, 261, [(1, 3)]) (by decide)
  have m2 : M 4 262 = 6 * ρ 0 + 0 := hm (4, 262, [(6, 0)]) (by decide)
  have m3 : M 4 263 = 1 * ρ 4 + 0 := hm (4, 263, [(1, 4)]) (by decide)
  have m4 : M 4 266 = 1 * ρ 8 + 0 := hm (4, 266, [(1, 8)]) (by decide)
  have m5 : M 91 259 = 1 * ρ 0 + 0 := hm (91, 259, [(1, 0)]) (by decide)
  have m6 : M 91 248 = 1 * ρ 10 + 0 := hm (91, 248, [(1, 10)]) (by decide)
  have m7 : M 91 258 = 1 * ρ 9 + 0 := hm (91, 258, [(1, 9)]) (by decide)
  have m8 : M 91 249 = 1 * ρ 0 + 0 := hm (91, 249, [(1, 0)]) (by decide)
  have m9 : M 91 250 = 1 * ρ 5 + 0 := hm (91, 250, [(1, 5)]) (by decide)
  have m10 : M 91 251 = 1 * ρ 6 + 0 := hm (91, 251, [(1, 6)]) (by decide)
  have m11 : M 91 252 = 1 * ρ 7 + 0 := hm (91, 252, [(1, 7)]) (by decide)
  simp only [h0] at m2 m5 m8
  have qxST := hI.2.2.2.2.2.2.2.2.2.2.2.2.2.2.2.2.2.2.2.2.2.2.2.2.2.2.2.2.2.2.2.2.2.2.2.2.2.2.1
  have qxSP := hI.2.2.2.2.2.2.2.2.2.2.2.2.2.2.2.2.2.2.2.2.2.2.2.2.2.2.2.2.2.2.2.2.2.2.2.2.2.2.2.1
  obtain ⟨g1, g2, g3, g4⟩ := gx_xSE hI (by omega)
  have tb : xop 1 (M 91 252) 255 = tBy (M 4 266) 6 := by
    unfold tBy
    rw [g1, show M 91 250 = M 4 266 by omega, show M 91 251 = 8 by omega]
    rfl

  have gi := gx_xSI hI (by omega)
  rw [show M 91 248 = M 91 252 by omega] at gi
  refine ⟨ρ, fun _ _ => rfl, fun f h => ?_, ?_⟩
  · exact nomatch h
  · show sI (sU (sU M 1 (1 * ρ 1 + 0 : Int).toNat (1 * ρ 2 + 0)) 4 262 (7 * ρ 0 + 0))
    obtain ⟨W, hW⟩ : ∃ W, W = (sU (sU M 1 (1 * ρ 1 + 0).toNat (1 * ρ 2 + 0)) 4 262 (7 * ρ 0 + 0)) := ⟨_, rfl⟩
    rw [← hW]
    have base : sI0 W := by
      rw [hW]
      exact (si_u0 (si_u0 hI.1 (fun r hr => by rw [xt_1 hr]; exact ⟨by show (-128 : Int) ≤ _; omega, by show _ ≤ (127 : Int); omega⟩)) (fun r hr => by cases hr))
    have k2 : XI2 W := by
      rw [hW]
      exact (xi2_u rfl (xi2_u (sinc_ok rfl _) hI.2.1))
    have k3 : XI3 W := by
      rw [hW]
      exact (xi3_u rfl (xi3_u (sinc_ok rfl _) hI.2.2.1))
    have kXA : XA W := by
      rw [hW]
      exact (uXA rfl (uXA (sinc_ok rfl _) hI.2.2.2.1))
    have k_xN1 : xN1 W := by
      rw [hW]
      exact (uxN1 rfl (uxN1 (sinc_ok rfl _) hI.2.2.2.2.1))
    have k_xN2 : xN2 W := by
      rw [hW]
      exact (uxN2 rfl (uxN2 (sinc_ok rfl _) hI.2.2.2.2.2.1))
    have k_xN3 : xN3 W := by
      rw [hW]
      exact (uxN3 rfl (uxN3 (sinc_ok rfl _) hI.2.2.2.2.2.2.1))
    have k_xN4 : xN4 W := by
      rw [hW]
      exact (uxN4 rfl (uxN4 (sinc_ok rfl _) hI.2.2.2.2.2.2.2.1))
    have k_xN5 : xN5 W := by
      rw [hW]
      exact (uxN5 rfl (uxN5 (sinc_ok rfl _) hI.2.2.2.2.2.2.2.2.1))
    have k_xN6 : xN6 W := by
      rw [hW]
      exact (uxN6 rfl (uxN6 (sinc_ok rfl _) hI.2.2.2.2.2.2.2.2.2.1))
    have k_xH1 : xH1 W := by
      rw [hW]
      exact (uxH1 rfl (uxH1 (sinc_ok rfl _) hI.2.2.2.2.2.2.2.2.2.2.1))
    have k_xK1 : xK1 W := by
      rw [hW]
      exact (uxK1 rfl (uxK1 (sinc_ok rfl _) hI.2.2.2.2.2.2.2.2.2.2.2.1))
    have k_xC1 : xC1 W := by
      rw [hW]
      exact (uxC1 rfl (uxC1 (sinc_ok rfl _) hI.2.2.2.2.2.2.2.2.2.2.2.2.1))
    have k_xRW : xRW W := by
      rw [hW]
      exact (uxRW rfl (uxRW (sinc_ok rfl _) hI.2.2.2.2.2.2.2.2.2.2.2.2.2.1))
    have k_xWT : xWT W := by
      rw [hW]
      exact (uxWT rfl (uxWT (sinc_ok rfl _) hI.2.2.2.2.2.2.2.2.2.2.2.2.2.2.1))
    have k_xCU : xCU W := by
      rw [hW]
      exact (uxCU rfl (uxCU (sinc_ok rfl _) hI.2.2.2.2.2.2.2.2.2.2.2.2.2.2.2.1))
    have k_xG2 : xG2 W := by
      rw [hW]
      exact (uxG2 rfl (uxG2 (sinc_ok rfl _) hI.2.2.2.2.2.2.2.2.2.2.2.2.2.2.2.2.1))
    have k_xG3 : xG3 W := by
      rw [hW]
      exact (uxG3 rfl (uxG3 (sinc_ok rfl _) hI.2.2.2.2.2.2.2.2.2.2.2.2.2.2.2.2.2.1))
    have k_xG4 : xG4 W := by
      rw [hW]
      exact (uxG4 rfl (uxG4 (sinc_ok rfl _) hI.2.2.2.2.2.2.2.2.2.2.2.2.2.2.2.2.2.2.1))
    have k_xG5 : xG5 W := by
      rw [hW]
      exact (uxG5 rfl (uxG5 (sinc_ok rfl _) hI.2.2.2.2.2.2.2.2.2.2.2.2.2.2.2.2.2.2.2.1))
    have k_xG6 : xG6 W := by
      rw [hW]
      exact (uxG6 rfl (uxG6 (sinc_ok rfl _) hI.2.2.2.2.2.2.2.2.2.2.2.2.2.2.2.2.2.2.2.2.1))
    have k_xS1 : xS1 W := by
      have r : W 4 100 = 0 := by
        have e := m0
        rw [hW, sU_ne (fun z => by omega), sU_ne (fun z => by omega)]
        omega
      intro h
      rw [r] at h
      exact absurd rfl h
    have k_xS2 : xS2 W := by
      rw [hW]
      exact (uxS2 rfl (uxS2 (sinc_ok rfl _) hI.2.2.2.2.2.2.2.2.2.2.2.2.2.2.2.2.2.2.2.2.2.2.1))
    have k_xS3 : xS3 W := by
      rw [hW]
      exact (uxS3 rfl (uxS3 (sinc_ok rfl _) hI.2.2.2.2.2.2.2.2.2.2.2.2.2.2.2.2.2.2.2.2.2.2.2.1))
    have k_xS4 : xS4 W := by
      rw [hW]
      exact (uxS4 rfl (uxS4 (sinc_ok rfl _) hI.2.2.2.2.2.2.2.2.2.2.2.2.2.2.2.2.2.2.2.2.2.2.2.2.1))
    have k_xS5 : xS5 W := by
      rw [hW]
      exact (uxS5 rfl (uxS5 (sinc_ok rfl _) hI.2.2.2.2.2.2.2.2.2.2.2.2.2.2.2.2.2.2.2.2.2.2.2.2.2.1))
    have k_xS6 : xS6 W := by
      rw [hW]
      exact (uxS6 rfl (uxS6 (sinc_ok rfl _) hI.2.2.2.2.2.2.2.2.2.2.2.2.2.2.2.2.2.2.2.2.2.2.2.2.2.2.1))
    have k_xS7 : xS7 W := by
      rw [hW]
      exact (uxS7 rfl (uxS7 (sinc_ok rfl _) hI.2.2.2.2.2.2.2.2.2.2.2.2.2.2.2.2.2.2.2.2.2.2.2.2.2.2.2.1))
    have k_xS8 : xS8 W := by
      rw [hW]
      exact (uxS8 rfl (uxS8 (sinc_ok rfl _) hI.2.2.2.2.2.2.2.2.2.2.2.2.2.2.2.2.2.2.2.2.2.2.2.2.2.2.2.2.1))
    have k_xS9 : xS9 W := by
      rw [hW]
      exact (uxS9 rfl (uxS9 (sinc_ok rfl _) hI.2.2.2.2.2.2.2.2.2.2.2.2.2.2.2.2.2.2.2.2.2.2.2.2.2.2.2.2.2.1))
    have k_xSA : xSA W := by
      rw [hW]
      exact (uxSA rfl (uxSA (sinc_ok rfl _) hI.2.2.2.2.2.2.2.2.2.2.2.2.2.2.2.2.2.2.2.2.2.2.2.2.2.2.2.2.2.2.1))
    have k_xSG : xSG W := by
      rw [hW]
      exact (uxSG rfl (uxSG (sinc_ok rfl _) hI.2.2.2.2.2.2.2.2.2.2.2.2.2.2.2.2.2.2.2.2.2.2.2.2.2.2.2.2.2.2.2.1))
    have k_xSF : xSF W := by
      rw [hW]
      exact (uxSF rfl (uxSF (sinc_ok rfl _) hI.2.2.2.2.2.2.2.2.2.2.2.2.2.2.2.2.2.2.2.2.2.2.2.2.2.2.2.2.2.2.2.2.1))
    have k_xSB : xSB W := by
      rw [hW]
      exact (uxSB rfl (uxSB (sinc_ok rfl _) hI.2.2.2.2.2.2.2.2.2.2.2.2.2.2.2.2.2.2.2.2.2.2.2.2.2.2.2.2.2.2.2.2.2.1))
    have k_xSC : xSC W := by
      rw [hW]
      exact (uxSC rfl (uxSC (sinc_ok rfl _) hI.2.2.2.2.2.2.2.2.2.2.2.2.2.2.2.2.2.2.2.2.2.2.2.2.2.2.2.2.2.2.2.2.2.2.1))
    have k_xSD : xSD W := by
      rw [hW]
      exact (uxSD rfl (uxSD (sinc_ok rfl _) hI.2.2.2.2.2.2.2.2.2.2.2.2.2.2.2.2.2.2.2.2.2.2.2.2.2.2.2.2.2.2.2.2.2.2.2.1))
    have k_xSE : xSE W := by
      rw [hW]
      exact (uxSE rfl (uxSE (sinc_ok rfl _) hI.2.2.2.2.2.2.2.2.2.2.2.2.2.2.2.2.2.2.2.2.2.2.2.2.2.2.2.2.2.2.2.2.2.2.2.2.1))
    have k_xSW : xSW W := by
      rw [hW]
      exact (uxSW rfl (uxSW (sinc_ok rfl _) hI.2.2.2.2.2.2.2.2.2.2.2.2.2.2.2.2.2.2.2.2.2.2.2.2.2.2.2.2.2.2.2.2.2.2.2.2.2.1))
    have k_xST : xST W := by
      have r4_261 : W 4 261 = M 4 261 := by rw [hW, sU_ne (fun z => by omega), sU_ne (fun z => by omega)]
      have c1 : ∀ k : Nat, k ≠ (1 * ρ 1 + 0).toNat → W 1 k = M 1 k := fun k hk => by rw [hW, sU_ne (fun z => by omega), sU_ne (fun z => by omega)]
      have a1 : W 1 (1 * ρ 1 + 0).toNat = 1 * ρ 2 + 0 := by rw [hW, sU_ne (fun z => by omega), sU_at]
      have c92 : ∀ k, W 92 k = M 92 k := fun k => by rw [hW, sU_ne (fun z => by omega), sU_ne (fun z => by omega)]
      have e92 : W 92 = M 92 := funext c92
      intro i hi
      rw [r4_261] at hi
      rw [c1 i (by omega), e92]
      exact qxST i hi
    have k_xSP : xSP W := by
      have r4_262 : W 4 262 = 7 * ρ 0 + 0 := by rw [hW, sU_at]
      have r4_263 : W 4 263 = M 4 263 := by rw [hW, sU_ne (fun z => by omega), sU_ne (fun z => by omega)]
      have r4_264 : W 4 264 = M 4 264 := by rw [hW, sU_ne (fun z => by omega), sU_ne (fun z => by omega)]
      have r4_265 : W 4 265 = M 4 265 := by rw [hW, sU_ne (fun z => by omega), sU_ne (fun z => by omega)]
      have r4_266 : W 4 266 = M 4 266 := by rw [hW, sU_ne (fun z => by omega), sU_ne (fun z => by omega)]
      have r4_267 : W 4 267 = M 4 267 := by rw [hW, sU_ne (fun z => by omega), sU_ne (fun z => by omega)]
      have r4_268 : W 4 268 = M 4 268 := by rw [hW, sU_ne (fun z => by omega), sU_ne (fun z => by omega)]
      have r4_269 : W 4 269 = M 4 269 := by rw [hW, sU_ne (fun z => by omega), sU_ne (fun z => by omega)]
      have c1 : ∀ k : Nat, k ≠ (1 * ρ 1 + 0).toNat → W 1 k = M 1 k := fun k hk => by rw [hW, sU_ne (fun z => by omega), sU_ne (fun z => by omega)]
      have a1 : W 1 (1 * ρ 1 + 0).toNat = 1 * ρ 2 + 0 := by rw [hW, sU_ne (fun z => by omega), sU_at]
      have c92 : ∀ k, W 92 k = M 92 k := fun k => by rw [hW, sU_ne (fun z => by omega), sU_ne (fun z => by omega)]
      have e92 : W 92 = M 92 := funext c92
      unfold xSP
      rw [r4_262, r4_263, r4_264, e92]
      obtain ⟨p1, p2, p3⟩ := qxSP
      have e4 : ∀ x, x ≠ 262 → W 4 x = M 4 x := fun x hx => by rw [hW, sU_ne (fun z => by omega), sU_ne (fun z => by omega)]
      refine ⟨p1, fun q hq hl => ?_, fun q hq hl => by rw [e4 _ (by omega)]; exact p3 q hq hl⟩
      rw [h0] at hl
      rw [e4 _ (by omega)]
      by_cases hj : q = 6
      · subst hj
        show W 1 ((M 4 263).toNat + 6) = tSn (tBy (M 4 266) 6)
        rw [show (M 4 263).toNat + 6 = (1 * ρ 1 + 0).toNat by omega, a1, ← tb]
        have := xi2b (M 91 252)
        omega
      · rw [c1 _ (by omega)]
        exact p2 q hq (by omega)
    have k_xSL : xSL W := by
      rw [hW]
      exact (uxSL rfl (uxSL (sinc_ok rfl _) hI.2.2.2.2.2.2.2.2.2.2.2.2.2.2.2.2.2.2.2.2.2.2.2.2.2.2.2.2.2.2.2.2.2.2.2.2.2.2.2.2.1))
    have k_xSM : xSM W := by
      rw [hW]
      exact (uxSM rfl (uxSM (sinc_ok rfl _) hI.2.2.2.2.2.2.2.2.2.2.2.2.2.2.2.2.2.2.2.2.2.2.2.2.2.2.2.2.2.2.2.2.2.2.2.2.2.2.2.2.2.1))
    have k_xSI : xSI W := by
      rw [hW]
      exact (uxSI rfl (uxSI (sinc_ok rfl _) hI.2.2.2.2.2.2.2.2.2.2.2.2.2.2.2.2.2.2.2.2.2.2.2.2.2.2.2.2.2.2.2.2.2.2.2.2.2.2.2.2.2.2))
    have k_XC : XC W := ⟨k_xS1, k_xS2, k_xS3, k_xS4, k_xS5, k_xS6, k_xS7, k_xS8, k_xS9, k_xSA, k_xSG, k_xSF, k_xSB, k_xSC, k_xSD, k_xSE, k_xSW, k_xST, k_xSP, k_xSL, k_xSM, k_xSI⟩
    have kXB : XB W := ⟨k_xN1, k_xN2, k_xN3, k_xN4, k_xN5, k_xN6, k_xH1, k_xK1, k_xC1, k_xRW, k_xWT, k_xCU, k_xG2, k_xG3, k_xG4, k_xG5, k_xG6, k_XC⟩
    exact ⟨base, k2, k3, kXA, kXB⟩
-- fdW6
def xr_619 : qRu := (11, [[(-6, 0), (1, 1), (-1, 4)], [(6, 0), (-1, 1), (1, 4)], [(1, 1), (-1, 3)], [(-1, 1), (1, 3)], [(1, 4)], [(699, 0), (-1, 1)], [(1, 1)], [(-8, 0), (1, 6)], [(8, 0), (-1, 6)], [(1, 5), (-1, 8)], [(-1, 5), (1, 8)], [(-1, 2), (1, 9)], [(1, 2), (-1, 9)], [(1, 2)], [(255, 0), (-1, 2)]], [(4, 261, [(1, 3)]), (4, 262, [(20, 0)]), (4, 263, [(1, 4)]), (4, 264, []), (4, 266, [(1, 8)]), (91, 257, [(1, 9)]), (4, 100, []), (4, 200, []), (4, 210, []), (4, 212, []), (4, 214, []), (4, 220, []), (4, 233, []), (4, 235, []), (91, 249, [(1, 0)]), (91, 250, [(1, 5)]), (91, 251, [(1, 6)]), (91, 252, [(1, 7)])], [(92, [(1, 1)], [(1, 2)])], [(91, 990, [(1, 11)]), (4, 261, [(1, 0), (1, 3)])], [])
theorem xo_619 : qRok xr_619 := by
  intro ρ M h0 hf hm hI
  have f0 := hf [(-6, 0), (1, 1), (-1, 4)] (by decide)
  have f1 := hf [(6, 0), (-1, 1), (1, 4)] (by decide)
  have f2 := hf [(1, 1), (-1, 3)] (by decide)
  have f3 := hf [(-1, 1), (1, 3)] (by decide)
  have f4 := hf [(1, 4)] (by decide)
  have f5 := hf [(699, 0), (-1, 1)] (by decide)
  have f6 := hf [(1, 1)] (by decide)
  have f7 := hf [(-8, 0), (1, 6)] (by decide)
  have f8 := hf [(8, 0), (-1, 6)] (by decide)
  have f9 := hf [(1, 5), (-1, 8)] (by decide)
  have f10 := hf [(-1, 5), (1, 8)] (by decide)
  have f11 := hf [(-1, 2), (1, 9)] (by decide)
  have f12 := hf [(1, 2), (-1, 9)] (by decide)
  have f13 := hf [(1, 2)] (by decide)
  have f14 := hf [(255, 0), (-1, 2)] (by decide)
  simp only [qD, h0] at f0 f1 f2 f3 f4 f5 f6 f7 f8 f9 f10 f11 f12 f13 f14
  have m0 : M 4 261 = 1 * ρ 3 + 0 := hm (4, 261, [(1, 3)]) (by decide)
  have m1 : M 4 262 = 20 * ρ 0 + 0 := hm (4, 262, [(20, 0)]) (by decide)
  have m2 : M 4 263 = 1 * ρ 4 + 0 := hm (4, 263, [(1, 4)]) (by decide)
  have m3 : M 4 264 = 0 := hm (4, 264, []) (by decide)
  have m4 : M 4 266 = 1 * ρ 8 + 0 := hm (4, 266, [(1, 8)]) (by decide)
  have m5 : M 91 257 = 1 * ρ 9 + 0 := hm (91, 257, [(1, 9)]) (by decide)
  have m6 : M 4 100 = 0 := hm (4, 100, []) (by decide)
  have m7 : M 4 200 = 0 := hm (4, 200, []) (by decide)
  have m8 : M 4 210 = 0 := hm (4, 210, []) (by decide)
  have m9 : M 4 212 = 0 := hm (4, 212, []) (by decide)
  have m10 : M 4 214 = 0 := hm (4, 214, []) (by decide)
  have m11 : M 4 220 = 0 := hm (4, 220, []) (by decide)
  have m12 : M 4 233 = 0 := hm (4, 233, []) (by decide)
  have m13 : M 4 235 = 0 := hm (4, 235, []) (by decide)
  have m14 : M 91 249 = 1 * ρ 0 + 0 := hm (91, 249, [(1, 0)]) (by decide)
  have m15 : M 91 250 = 1 * ρ 5 + 0 := hm (91, 250, [(1, 5)]) (by decide)
  have m16 : M 91 251 = 1 * ρ 6 + 0 := hm (91, 251, [(1, 6)]) (by decide)
  have m17 : M 91 252 = 1 * ρ 7 + 0 := hm (91, 252, [(1, 7)]) (by decide)
  simp only [h0] at m1 m14
  have qxST := hI.2.2.2.2.2.2.2.2.2.2.2.2.2.2.2.2.2.2.2.2.2.2.2.2.2.2.2.2.2.2.2.2.2.2.2.2.2.2.1
  have qxSP := hI.2.2.2.2.2.2.2.2.2.2.2.2.2.2.2.2.2.2.2.2.2.2.2.2.2.2.2.2.2.2.2.2.2.2.2.2.2.2.2.1
  obtain ⟨g1, g2, g3, g4⟩ := gx_xSE hI (by omega)
  have tb : xop 1 (M 91 252) 255 = tBy (M 4 266) 6 := by
    unfold tBy
    rw [g1, show M 91 250 = M 4 266 by omega, show M 91 251 = 8 by omega]
    rfl

  have g257 := g4
  refine ⟨fun a => cond (Nat.blt a 11) (ρ a) (([xH (sU M 92 (1 * ρ 1 + 0).toNat (1 * ρ 2 + 0))] : List Int).getD (a - 11) 0), fun a ha => ?_, fun f h => ?_, ?_⟩
  · show cond (Nat.blt a 11) (ρ a) _ = ρ a
    rw [show Nat.blt a 11 = true from Nat.ble_eq_true_of_le ha]; rfl
  · exact nomatch h
  · show sI (sU (sU (sU M 92 (1 * ρ 1 + 0 : Int).toNat (1 * ρ 2 + 0)) 91 990 (1 * (xH (sU M 92 (1 * ρ 1 + 0).toNat (1 * ρ 2 + 0))) + 0)) 4 261 (1 * ρ 0 + (1 * ρ 3 + 0)))
    obtain ⟨W, hW⟩ : ∃ W, W = (sU (sU (sU M 92 (1 * ρ 1 + 0).toNat (1 * ρ 2 + 0)) 91 990 (1 * (xH (sU M 92 (1 * ρ 1 + 0).toNat (1 * ρ 2 + 0))) + 0)) 4 261 (1 * ρ 0 + (1 * ρ 3 + 0))) := ⟨_, rfl⟩
    rw [← hW]
    have base : sI0 W := by
      rw [hW]
      exact (si_u0 (si_u0 (si_u0 hI.1 (fun r hr => by rw [xt_92 hr]; exact ⟨by show (0 : Int) ≤ _; omega, by show _ ≤ (255 : Int); omega⟩)) (fun r hr => by cases hr)) (fun r hr => by cases hr))
    have k2 : XI2 W := by
      refine xi2_congr (fun o k hz ho => ?_) hI.2.1
      have h4 : ¬ (o = 4 ∧ k = 261) := fun z => by rw [z.1, z.2] at hz; exact absurd hz (by decide +kernel)
      rw [hW, sU_ne h4, sU_ne (fun z => by omega), sU_ne (fun z => by omega)]
    have k3 : XI3 W := by
      unfold XI3
      rw [hW]
      rw [sU_ne (fun z => by omega), sU_at]
      have e : ∀ o' k' x y, ¬ (o' = 91 ∧ k' = 990) → ¬ (o' = 4 ∧ k' = 261) → sU (sU (sU M 92 (1 * ρ 1 + 0).toNat (1 * ρ 2 + 0)) 91 990 x) 4 261 y o' k' = sU M 92 (1 * ρ 1 + 0).toNat (1 * ρ 2 + 0) o' k' := fun o' k' x y h h' => by rw [sU_ne h', sU_ne h]
      rw [show ∀ z : Int, 1 * z + 0 = z from fun z => by omega]
      unfold xH
      rw [e _ _ _ _ (by omega) (by omega), e _ _ _ _ (by omega) (by omega), e _ _ _ _ (by omega) (by omega)]
    have kXA : XA W := by
      rw [hW]
      exact (uXA rfl (uXA rfl (uXA (sinc_ok rfl _) hI.2.2.2.1)))
    have k_xN1 : xN1 W := by
      rw [hW]
      exact (uxN1 rfl (uxN1 rfl (uxN1 (sinc_ok rfl _) hI.2.2.2.2.1)))
    have k_xN2 : xN2 W := by
      rw [hW]
      exact (uxN2 rfl (uxN2 rfl (uxN2 (sinc_ok rfl _) hI.2.2.2.2.2.1)))
    have k_xN3 : xN3 W := by
      rw [hW]
      exact (uxN3 rfl (uxN3 rfl (uxN3 (sinc_ok rfl _) hI.2.2.2.2.2.2.1)))
    have k_xN4 : xN4 W := by
      rw [hW]
      exact (uxN4 rfl (uxN4 rfl (uxN4 (sinc_ok rfl _) hI.2.2.2.2.2.2.2.1)))
    have k_xN5 : xN5 W := by
      rw [hW]
      exact (uxN5 rfl (uxN5 rfl (uxN5 (sinc_ok rfl _) hI.2.2.2.2.2.2.2.2.1)))
    have k_xN6 : xN6 W := by
      rw [hW]
      exact (uxN6 rfl (uxN6 rfl (uxN6 (sinc_ok rfl _) hI.2.2.2.2.2.2.2.2.2.1)))
    have k_xH1 : xH1 W := by
      rw [hW]
      exact (uxH1 rfl (uxH1 rfl (uxH1 (sinc_ok rfl _) hI.2.2.2.2.2.2.2.2.2.2.1)))
    have k_xK1 : xK1 W := by
      rw [hW]
      exact (uxK1 rfl (uxK1 rfl (uxK1 (sinc_ok rfl _) hI.2.2.2.2.2.2.2.2.2.2.2.1)))
    have k_xC1 : xC1 W := by
      rw [hW]
      exact (uxC1 rfl (uxC1 rfl (uxC1 (sinc_ok rfl _) hI.2.2.2.2.2.2.2.2.2.2.2.2.1)))
    have k_xRW : xRW W := by
      rw [hW]
      exact (uxRW rfl (uxRW rfl (uxRW (sinc_ok rfl _) hI.2.2.2.2.2.2.2.2.2.2.2.2.2.1)))
    have k_xWT : xWT W := by
      rw [hW]
      exact (uxWT rfl (uxWT rfl (uxWT (sinc_ok rfl _) hI.2.2.2.2.2.2.2.2.2.2.2.2.2.2.1)))
    have k_xCU : xCU W := by
      rw [hW]
      exact (uxCU rfl (uxCU rfl (uxCU (sinc_ok rfl _) hI.2.2.2.2.2.2.2.2.2.2.2.2.2.2.2.1)))
    have k_xG2 : xG2 W := by
      rw [hW]
      exact (uxG2 rfl (uxG2 rfl (uxG2 (sinc_ok rfl _) hI.2.2.2.2.2.2.2.2.2.2.2.2.2.2.2.2.1)))
    have k_xG3 : xG3 W := by
      rw [hW]
      exact (uxG3 rfl (uxG3 rfl (uxG3 (sinc_ok rfl _) hI.2.2.2.2.2.2.2.2.2.2.2.2.2.2.2.2.2.1)))
    have k_xG4 : xG4 W := by
      rw [hW]
      exact (uxG4 rfl (uxG4 rfl (uxG4 (sinc_ok rfl _) hI.2.2.2.2.2.2.2.2.2.2.2.2.2.2.2.2.2.2.1)))
    have k_xG5 : xG5 W := by
      rw [hW]
      exact (uxG5 rfl (uxG5 rfl (uxG5 (sinc_ok rfl _) hI.2.2.2.2.2.2.2.2.2.2.2.2.2.2.2.2.2.2.2.1)))
    have k_xG6 : xG6 W := by
      rw [hW]
      exact (uxG6 rfl (uxG6 rfl (uxG6 (sinc_ok rfl _) hI.2.2.2.2.2.2.2.2.2.2.2.2.2.2.2.2.2.2.2.2.1)))
    have k_xS1 : xS1 W := by
      have r : W 4 100 = 0 := by
        have e := m6
        rw [hW, sU_ne (fun z => by omega), sU_ne (fun z => by omega), sU_ne (fun z => by omega)]
        omega
      intro h
      rw [r] at h
      exact absurd rfl h
    have k_xS2 : xS2 W := by
      have r : W 4 100 = 0 := by
        have e := m6
        rw [hW, sU_ne (fun z => by omega), sU_ne (fun z => by omega), sU_ne (fun z => by omega)]
        omega
      intro h
      rw [r] at h
      exact absurd rfl h
    have k_xS3 : xS3 W := by
      have r : W 4 100 = 0 := by
        have e := m6
        rw [hW, sU_ne (fun z => by omega), sU_ne (fun z => by omega), sU_ne (fun z => by omega)]
        omega
      intro h
      rw [r] at h
      exact absurd rfl h
    have k_xS4 : xS4 W := by
      rw [hW]
      exact (uxS4 rfl (uxS4 rfl (uxS4 (sinc_ok rfl _) hI.2.2.2.2.2.2.2.2.2.2.2.2.2.2.2.2.2.2.2.2.2.2.2.2.1)))
    have k_xS5 : xS5 W := by
      rw [hW]
      exact (uxS5 rfl (uxS5 rfl (uxS5 (sinc_ok rfl _) hI.2.2.2.2.2.2.2.2.2.2.2.2.2.2.2.2.2.2.2.2.2.2.2.2.2.1)))
    have k_xS6 : xS6 W := by
      rw [hW]
      exact (uxS6 rfl (uxS6 rfl (uxS6 (sinc_ok rfl _) hI.2.2.2.2.2.2.2.2.2.2.2.2.2.2.2.2.2.2.2.2.2.2.2.2.2.2.1)))
    have k_xS7 : xS7 W := by
      have r : W 4 200 = 0 := by
        have e := m7
        rw [hW, sU_ne (fun z => by omega), sU_ne (fun z => by omega), sU_ne (fun z => by omega)]
        omega
      intro h
      rw [r] at h
      omega
    have k_xS8 : xS8 W := by
      have r : W 4 210 = 0 := by
        have e := m8
        rw [hW, sU_ne (fun z => by omega), sU_ne (fun z => by omega), sU_ne (fun z => by omega)]
        omega
      intro h
      rw [r] at h
      omega
    have k_xS9 : xS9 W := by
      have r : W 4 212 = 0 := by
        have e := m9
        rw [hW, sU_ne (fun z => by omega), sU_ne (fun z => by omega), sU_ne (fun z => by omega)]
        omega
      intro h
      rw [r] at h
      omega
    have k_xSA : xSA W := by
      have r : W 4 214 = 0 := by
        have e := m10
        rw [hW, sU_ne (fun z => by omega), sU_ne (fun z => by omega), sU_ne (fun z => by omega)]
        omega
      intro h
      rw [r] at h
      omega
    have k_xSG : xSG W := by
      have r : W 4 235 = 0 := by
        have e := m13
        rw [hW, sU_ne (fun z => by omega), sU_ne (fun z => by omega), sU_ne (fun z => by omega)]
        omega
      intro h
      rw [r] at h
      omega
    have k_xSF : xSF W := by
      have r : W 4 233 = 0 := by
        have e := m12
        rw [hW, sU_ne (fun z => by omega), sU_ne (fun z => by omega), sU_ne (fun z => by omega)]
        omega
      intro h
      rw [r] at h
      omega
    have k_xSB : xSB W := by
      have r : W 4 220 = 0 := by
        have e := m11
        rw [hW, sU_ne (fun z => by omega), sU_ne (fun z => by omega), sU_ne (fun z => by omega)]
        omega
      intro h
      rw [r] at h
      omega
    have k_xSC : xSC W := by
      rw [hW]
      exact (uxSC rfl (uxSC rfl (uxSC (sinc_ok rfl _) hI.2.2.2.2.2.2.2.2.2.2.2.2.2.2.2.2.2.2.2.2.2.2.2.2.2.2.2.2.2.2.2.2.2.2.1)))
    have k_xSD : xSD W := by
      rw [hW]
      exact (uxSD rfl (uxSD rfl (uxSD (sinc_ok rfl _) hI.2.2.2.2.2.2.2.2.2.2.2.2.2.2.2.2.2.2.2.2.2.2.2.2.2.2.2.2.2.2.2.2.2.2.2.1)))
    have k_xSE : xSE W := by
      rw [hW]
      exact (uxSE rfl (uxSE rfl (uxSE (sinc_ok rfl _) hI.2.2.2.2.2.2.2.2.2.2.2.2.2.2.2.2.2.2.2.2.2.2.2.2.2.2.2.2.2.2.2.2.2.2.2.2.1)))
    have k_xSW : xSW W := by
      rw [hW]
      exact (uxSW rfl (uxSW rfl (uxSW (sinc_ok rfl _) hI.2.2.2.2.2.2.2.2.2.2.2.2.2.2.2.2.2.2.2.2.2.2.2.2.2.2.2.2.2.2.2.2.2.2.2.2.2.1)))
    have k_xST : xST W := by
      have r4_261 : W 4 261 = 1 * ρ 0 + (1 * ρ 3 + 0) := by rw [hW, sU_at]
      have c1 : ∀ k, W 1 k = M 1 k := fun k => by rw [hW, sU_ne (fun z => by omega), sU_ne (fun z => by omega), sU_ne (fun z => by omega)]
      have e1 : W 1 = M 1 := funext c1
      have c92 : ∀ k : Nat, k ≠ (1 * ρ 1 + 0).toNat → W 92 k = M 92 k := fun k hk => by rw [hW, sU_ne (fun z => by omega), sU_ne (fun z => by omega), sU_ne (fun z => by omega)]
      have a92 : W 92 (1 * ρ 1 + 0).toNat = 1 * ρ 2 + 0 := by rw [hW, sU_ne (fun z => by omega), sU_ne (fun z => by omega), sU_at]
      intro i hi
      rw [r4_261, h0] at hi
      rw [e1]
      by_cases hx : i = (1 * ρ 1 + 0).toNat
      · rw [hx, a92]
        obtain ⟨p1, p2, p3⟩ := gx_xSP hI
        have := p2 6 (by omega) (by omega)
        rw [show (M 4 263).toNat + 6 = (1 * ρ 1 + 0).toNat by omega] at this
        have this : M 1 (1 * ρ 1 + 0).toNat = tSn (tBy (M 4 266) 6) := this
        rw [this, ← tb]
        congr 1
        omega
      · rw [c92 i hx]
        exact qxST i (by omega)
    have k_xSP : xSP W := by
      have r4_262 : W 4 262 = M 4 262 := by rw [hW, sU_ne (fun z => by omega), sU_ne (fun z => by omega), sU_ne (fun z => by omega)]
      have r4_263 : W 4 263 = M 4 263 := by rw [hW, sU_ne (fun z => by omega), sU_ne (fun z => by omega), sU_ne (fun z => by omega)]
      have r4_264 : W 4 264 = M 4 264 := by rw [hW, sU_ne (fun z => by omega), sU_ne (fun z => by omega), sU_ne (fun z => by omega)]
      have r4_265 : W 4 265 = M 4 265 := by rw [hW, sU_ne (fun z => by omega), sU_ne (fun z => by omega), sU_ne (fun z => by omega)]
      have r4_266 : W 4 266 = M 4 266 := by rw [hW, sU_ne (fun z => by omega), sU_ne (fun z => by omega), sU_ne (fun z => by omega)]
      have r4_267 : W 4 267 = M 4 267 := by rw [hW, sU_ne (fun z => by omega), sU_ne (fun z => by omega), sU_ne (fun z => by omega)]
      have r4_268 : W 4 268 = M 4 268 := by rw [hW, sU_ne (fun z => by omega), sU_ne (fun z => by omega), sU_ne (fun z => by omega)]
      have r4_269 : W 4 269 = M 4 269 := by rw [hW, sU_ne (fun z => by omega), sU_ne (fun z => by omega), sU_ne (fun z => by omega)]
      have c1 : ∀ k, W 1 k = M 1 k := fun k => by rw [hW, sU_ne (fun z => by omega), sU_ne (fun z => by omega), sU_ne (fun z => by omega)]
      have e1 : W 1 = M 1 := funext c1
      have c92 : ∀ k : Nat, k ≠ (1 * ρ 1 + 0).toNat → W 92 k = M 92 k := fun k hk => by rw [hW, sU_ne (fun z => by omega), sU_ne (fun z => by omega), sU_ne (fun z => by omega)]
      have a92 : W 92 (1 * ρ 1 + 0).toNat = 1 * ρ 2 + 0 := by rw [hW, sU_ne (fun z => by omega), sU_ne (fun z => by omega), sU_at]
      unfold xSP
      rw [r4_262, r4_263, r4_264, e1]
      obtain ⟨p1, p2, p3⟩ := gx_xSP hI
      refine ⟨p1, fun q hq hl => ?_, fun q hq hl => by omega⟩
      have e4 : ∀ x, x ≠ 261 → W 4 x = M 4 x := fun x hx => by rw [hW, sU_ne (fun z => by omega), sU_ne (fun z => by omega), sU_ne (fun z => by omega)]
      rw [e4 _ (by omega)]
      exact p2 q hq hl
    have k_xSL : xSL W := by
      rw [hW]
      exact (uxSL rfl (uxSL rfl (uxSL (sinc_ok rfl _) hI.2.2.2.2.2.2.2.2.2.2.2.2.2.2.2.2.2.2.2.2.2.2.2.2.2.2.2.2.2.2.2.2.2.2.2.2.2.2.2.2.1)))
    have k_xSM : xSM W := by
      rw [hW]
      exact (uxSM rfl (uxSM rfl (uxSM (sinc_ok rfl _) hI.2.2.2.2.2.2.2.2.2.2.2.2.2.2.2.2.2.2.2.2.2.2.2.2.2.2.2.2.2.2.2.2.2.2.2.2.2.2.2.2.2.1)))
    have k_xSI : xSI W := by
      rw [hW]
      exact (uxSI rfl (uxSI rfl (uxSI (sinc_ok rfl _) hI.2.2.2.2.2.2.2.2.2.2.2.2.2.2.2.2.2.2.2.2.2.2.2.2.2.2.2.2.2.2.2.2.2.2.2.2.2.2.2.2.2.2)))
    have k_XC : XC W := ⟨k_xS1, k_xS2, k_xS3, k_xS4, k_xS5, k_xS6, k_xS7, k_xS8, k_xS9, k_xSA, k_xSG, k_xSF, k_xSB, k_xSC, k_xSD, k_xSE, k_xSW, k_xST, k_xSP, k_xSL, k_xSM, k_xSI⟩
    have kXB : XB W := ⟨k_xN1, k_xN2, k_xN3, k_xN4, k_xN5, k_xN6, k_xH1, k_xK1, k_xC1, k_xRW, k_xWT, k_xCU, k_xG2, k_xG3, k_xG4, k_xG5, k_xG6, k_XC⟩
    exact ⟨base, k2, k3, kXA, kXB⟩
