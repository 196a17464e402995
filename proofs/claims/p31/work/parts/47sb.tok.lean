/-! RULES OF TOKENS (wip/p3/xsr.py). -/
-- scan
def xr_137 : qRu := (4, [[(-1, 0), (1, 3)]], [(4, 100, [(1, 3)]), (4, 210, []), (4, 212, []), (4, 233, []), (4, 102, [(1, 1)]), (4, 101, [(1, 2)])], [], [(4, 210, [(1, 0)]), (4, 211, [(1, 1)])], [[(1, 1)], [(-1, 1), (1, 2)], [(700, 0), (-1, 2)]])
theorem xo_137 : qRok xr_137 := by
  intro ρ M h0 hf hm hI
  have f0 := hf [(-1, 0), (1, 3)] (by decide)
  simp only [qD, h0] at f0
  have m0 : M 4 100 = 1 * ρ 3 + 0 := hm (4, 100, [(1, 3)]) (by decide)
  have m1 : M 4 210 = 0 := hm (4, 210, []) (by decide)
  have m2 : M 4 212 = 0 := hm (4, 212, []) (by decide)
  have m3 : M 4 233 = 0 := hm (4, 233, []) (by decide)
  have m4 : M 4 102 = 1 * ρ 1 + 0 := hm (4, 102, [(1, 1)]) (by decide)
  have m5 : M 4 101 = 1 * ρ 2 + 0 := hm (4, 101, [(1, 2)]) (by decide)
  have qxS8 := hI.2.2.2.2.2.2.2.2.2.2.2.2.2.2.2.2.2.2.2.2.2.2.2.2.2.2.2.2.1
  obtain ⟨o1, o2, _⟩ := gx_xS2 hI (by omega)
  obtain ⟨o4, o5, _⟩ := gx_xS1 hI (by omega)
  refine ⟨ρ, fun _ _ => rfl, fun f h => ?_, ?_⟩
  · have h : f ∈ ([[(1, 1)], [(-1, 1), (1, 2)], [(700, 0), (-1, 2)]] : List qF) := h
    simp only [List.mem_cons, List.not_mem_nil, or_false] at h
    rcases h with rfl | rfl | rfl
    · show 0 ≤ 1 * ρ 1 + 0
      (try rw [h0]); omega
    · show 0 ≤ -1 * ρ 1 + (1 * ρ 2 + 0)
      (try rw [h0]); omega
    · show 0 ≤ 700 * ρ 0 + (-1 * ρ 2 + 0)
      (try rw [h0]); omega
  · show sI (sU (sU M 4 210 (1 * ρ 0 + 0)) 4 211 (1 * ρ 1 + 0))
    obtain ⟨W, hW⟩ : ∃ W, W = (sU (sU M 4 210 (1 * ρ 0 + 0)) 4 211 (1 * ρ 1 + 0)) := ⟨_, rfl⟩
    rw [← hW]
    have base : sI0 W := by
      rw [hW]
      exact (si_u0 (si_u0 hI.1 (fun r hr => by cases hr)) (fun r hr => by cases hr))
    have k2 : XI2 W := by
      rw [hW]
      exact (xi2_u rfl (xi2_u rfl hI.2.1))
    have k3 : XI3 W := by
      rw [hW]
      exact (xi3_u rfl (xi3_u rfl hI.2.2.1))
    have kXA : XA W := by
      rw [hW]
      exact (uXA rfl (uXA rfl hI.2.2.2.1))
    have k_xN1 : xN1 W := by
      rw [hW]
      exact (uxN1 rfl (uxN1 rfl hI.2.2.2.2.1))
    have k_xN2 : xN2 W := by
      rw [hW]
      exact (uxN2 rfl (uxN2 rfl hI.2.2.2.2.2.1))
    have k_xN3 : xN3 W := by
      rw [hW]
      exact (uxN3 rfl (uxN3 rfl hI.2.2.2.2.2.2.1))
    have k_xN4 : xN4 W := by
      rw [hW]
      exact (uxN4 rfl (uxN4 rfl hI.2.2.2.2.2.2.2.1))
    have k_xN5 : xN5 W := by
      rw [hW]
      exact (uxN5 rfl (uxN5 rfl hI.2.2.2.2.2.2.2.2.1))
    have k_xN6 : xN6 W := by
      rw [hW]
      exact (uxN6 rfl (uxN6 rfl hI.2.2.2.2.2.2.2.2.2.1))
    have k_xH1 : xH1 W := by
      rw [hW]
      exact (uxH1 rfl (uxH1 rfl hI.2.2.2.2.2.2.2.2.2.2.1))
    have k_xK1 : xK1 W := by
      rw [hW]
      exact (uxK1 rfl (uxK1 rfl hI.2.2.2.2.2.2.2.2.2.2.2.1))
    have k_xC1 : xC1 W := by
      rw [hW]
      exact (uxC1 rfl (uxC1 rfl hI.2.2.2.2.2.2.2.2.2.2.2.2.1))
    have k_xRW : xRW W := by
      rw [hW]
      exact (uxRW rfl (uxRW rfl hI.2.2.2.2.2.2.2.2.2.2.2.2.2.1))
    have k_xWT : xWT W := by
      rw [hW]
      exact (uxWT rfl (uxWT rfl hI.2.2.2.2.2.2.2.2.2.2.2.2.2.2.1))
    have k_xCU : xCU W := by
      rw [hW]
      exact (uxCU rfl (uxCU rfl hI.2.2.2.2.2.2.2.2.2.2.2.2.2.2.2.1))
    have k_xG2 : xG2 W := by
      rw [hW]
      exact (uxG2 rfl (uxG2 rfl hI.2.2.2.2.2.2.2.2.2.2.2.2.2.2.2.2.1))
    have k_xG3 : xG3 W := by
      rw [hW]
      exact (uxG3 rfl (uxG3 rfl hI.2.2.2.2.2.2.2.2.2.2.2.2.2.2.2.2.2.1))
    have k_xG4 : xG4 W := by
      rw [hW]
      exact (uxG4 rfl (uxG4 rfl hI.2.2.2.2.2.2.2.2.2.2.2.2.2.2.2.2.2.2.1))
    have k_xG5 : xG5 W := by
      rw [hW]
      exact (uxG5 rfl (uxG5 rfl hI.2.2.2.2.2.2.2.2.2.2.2.2.2.2.2.2.2.2.2.1))
    have k_xG6 : xG6 W := by
      rw [hW]
      exact (uxG6 rfl (uxG6 rfl hI.2.2.2.2.2.2.2.2.2.2.2.2.2.2.2.2.2.2.2.2.1))
    have k_xS1 : xS1 W := by
      rw [hW]
      exact (uxS1 rfl (uxS1 rfl hI.2.2.2.2.2.2.2.2.2.2.2.2.2.2.2.2.2.2.2.2.2.1))
    have k_xS2 : xS2 W := by
      rw [hW]
      exact (uxS2 rfl (uxS2 rfl hI.2.2.2.2.2.2.2.2.2.2.2.2.2.2.2.2.2.2.2.2.2.2.1))
    have k_xS3 : xS3 W := by
      rw [hW]
      exact (uxS3 rfl (uxS3 rfl hI.2.2.2.2.2.2.2.2.2.2.2.2.2.2.2.2.2.2.2.2.2.2.2.1))
    have k_xS4 : xS4 W := by
      rw [hW]
      exact (uxS4 rfl (uxS4 rfl hI.2.2.2.2.2.2.2.2.2.2.2.2.2.2.2.2.2.2.2.2.2.2.2.2.1))
    have k_xS5 : xS5 W := by
      rw [hW]
      exact (uxS5 rfl (uxS5 rfl hI.2.2.2.2.2.2.2.2.2.2.2.2.2.2.2.2.2.2.2.2.2.2.2.2.2.1))
    have k_xS6 : xS6 W := by
      rw [hW]
      exact (uxS6 rfl (uxS6 rfl hI.2.2.2.2.2.2.2.2.2.2.2.2.2.2.2.2.2.2.2.2.2.2.2.2.2.2.1))
    have k_xS7 : xS7 W := by
      rw [hW]
      exact (uxS7 rfl (uxS7 rfl hI.2.2.2.2.2.2.2.2.2.2.2.2.2.2.2.2.2.2.2.2.2.2.2.2.2.2.2.1))
    have k_xS8 : xS8 W := by
      have r4_210 : W 4 210 = 1 * ρ 0 + 0 := by rw [hW, sU_ne (fun z => by omega), sU_at]
      have r4_211 : W 4 211 = 1 * ρ 1 + 0 := by rw [hW, sU_at]
      have r4_101 : W 4 101 = M 4 101 := by rw [hW, sU_ne (fun z => by omega), sU_ne (fun z => by omega)]
      have r4_102 : W 4 102 = M 4 102 := by rw [hW, sU_ne (fun z => by omega), sU_ne (fun z => by omega)]
      have r4_107 : W 4 107 = M 4 107 := by rw [hW, sU_ne (fun z => by omega), sU_ne (fun z => by omega)]
      have r4_108 : W 4 108 = M 4 108 := by rw [hW, sU_ne (fun z => by omega), sU_ne (fun z => by omega)]
      have c92 : ∀ k, W 92 k = M 92 k := fun k => by rw [hW, sU_ne (fun z => by omega), sU_ne (fun z => by omega)]
      have e92 : W 92 = M 92 := funext c92
      intro h
      rw [r4_211, r4_101, r4_102, r4_107, r4_108, e92]
      exact ⟨by omega, by omega, by rw [m4]⟩
    have k_xS9 : xS9 W := by
      have r : W 4 212 = 0 := by
        have e := m2
        rw [hW, sU_ne (fun z => by omega), sU_ne (fun z => by omega)]
        omega
      intro h
      rw [r] at h
      omega
    have k_xSA : xSA W := by
      rw [hW]
      exact (uxSA rfl (uxSA rfl hI.2.2.2.2.2.2.2.2.2.2.2.2.2.2.2.2.2.2.2.2.2.2.2.2.2.2.2.2.2.2.1))
    have k_xSG : xSG W := by
      rw [hW]
      exact (uxSG rfl (uxSG rfl hI.2.2.2.2.2.2.2.2.2.2.2.2.2.2.2.2.2.2.2.2.2.2.2.2.2.2.2.2.2.2.2.1))
    have k_xSF : xSF W := by
      have r : W 4 233 = 0 := by
        have e := m3
        rw [hW, sU_ne (fun z => by omega), sU_ne (fun z => by omega)]
        omega
      intro h
      rw [r] at h
      omega
    have k_xSB : xSB W := by
      rw [hW]
      exact (uxSB rfl (uxSB rfl hI.2.2.2.2.2.2.2.2.2.2.2.2.2.2.2.2.2.2.2.2.2.2.2.2.2.2.2.2.2.2.2.2.2.1))
    have k_xSC : xSC W := by
      rw [hW]
      exact (uxSC rfl (uxSC rfl hI.2.2.2.2.2.2.2.2.2.2.2.2.2.2.2.2.2.2.2.2.2.2.2.2.2.2.2.2.2.2.2.2.2.2.1))
    have k_xSD : xSD W := by
      rw [hW]
      exact (uxSD rfl (uxSD rfl hI.2.2.2.2.2.2.2.2.2.2.2.2.2.2.2.2.2.2.2.2.2.2.2.2.2.2.2.2.2.2.2.2.2.2.2.1))
    have k_xSE : xSE W := by
      rw [hW]
      exact (uxSE rfl (uxSE rfl hI.2.2.2.2.2.2.2.2.2.2.2.2.2.2.2.2.2.2.2.2.2.2.2.2.2.2.2.2.2.2.2.2.2.2.2.2.1))
    have k_xSW : xSW W := by
      rw [hW]
      exact (uxSW rfl (uxSW rfl hI.2.2.2.2.2.2.2.2.2.2.2.2.2.2.2.2.2.2.2.2.2.2.2.2.2.2.2.2.2.2.2.2.2.2.2.2.2.1))
    have k_xST : xST W := by
      rw [hW]
      exact (uxST rfl (uxST rfl hI.2.2.2.2.2.2.2.2.2.2.2.2.2.2.2.2.2.2.2.2.2.2.2.2.2.2.2.2.2.2.2.2.2.2.2.2.2.2.1))
    have k_xSP : xSP W := by
      rw [hW]
      exact (uxSP rfl (uxSP rfl hI.2.2.2.2.2.2.2.2.2.2.2.2.2.2.2.2.2.2.2.2.2.2.2.2.2.2.2.2.2.2.2.2.2.2.2.2.2.2.2.1))
    have k_xSL : xSL W := by
      rw [hW]
      exact (uxSL rfl (uxSL rfl hI.2.2.2.2.2.2.2.2.2.2.2.2.2.2.2.2.2.2.2.2.2.2.2.2.2.2.2.2.2.2.2.2.2.2.2.2.2.2.2.2.1))
    have k_xSM : xSM W := by
      rw [hW]
      exact (uxSM rfl (uxSM rfl hI.2.2.2.2.2.2.2.2.2.2.2.2.2.2.2.2.2.2.2.2.2.2.2.2.2.2.2.2.2.2.2.2.2.2.2.2.2.2.2.2.2.1))
    have k_xSI : xSI W := by
      rw [hW]
      exact (uxSI rfl (uxSI rfl hI.2.2.2.2.2.2.2.2.2.2.2.2.2.2.2.2.2.2.2.2.2.2.2.2.2.2.2.2.2.2.2.2.2.2.2.2.2.2.2.2.2.2))
    have k_XC : XC W := ⟨k_xS1, k_xS2, k_xS3, k_xS4, k_xS5, k_xS6, k_xS7, k_xS8, k_xS9, k_xSA, k_xSG, k_xSF, k_xSB, k_xSC, k_xSD, k_xSE, k_xSW, k_xST, k_xSP, k_xSL, k_xSM, k_xSI⟩
    have kXB : XB W := ⟨k_xN1, k_xN2, k_xN3, k_xN4, k_xN5, k_xN6, k_xH1, k_xK1, k_xC1, k_xRW, k_xWT, k_xCU, k_xG2, k_xG3, k_xG4, k_xG5, k_xG6, k_XC⟩
    exact ⟨base, k2, k3, kXA, kXB⟩
-- scanOff
def xr_138 : qRu := (1, [], [], [], [(4, 210, []), (4, 212, []), (4, 233, [])], [])
theorem xo_138 : qRok xr_138 := by
  intro ρ M h0 hf hm hI
  refine ⟨ρ, fun _ _ => rfl, fun f h => ?_, ?_⟩
  · exact nomatch h
  · show sI (sU (sU (sU M 4 210 (0)) 4 212 (0)) 4 233 (0))
    obtain ⟨W, hW⟩ : ∃ W, W = (sU (sU (sU M 4 210 (0)) 4 212 (0)) 4 233 (0)) := ⟨_, rfl⟩
    rw [← hW]
    have base : sI0 W := by
      rw [hW]
      exact (si_u0 (si_u0 (si_u0 hI.1 (fun r hr => by cases hr)) (fun r hr => by cases hr)) (fun r hr => by cases hr))
    have k2 : XI2 W := by
      rw [hW]
      exact (xi2_u rfl (xi2_u rfl (xi2_u rfl hI.2.1)))
    have k3 : XI3 W := by
      rw [hW]
      exact (xi3_u rfl (xi3_u rfl (xi3_u rfl hI.2.2.1)))
    have kXA : XA W := by
      rw [hW]
      exact (uXA rfl (uXA rfl (uXA rfl hI.2.2.2.1)))
    have k_xN1 : xN1 W := by
      rw [hW]
      exact (uxN1 rfl (uxN1 rfl (uxN1 rfl hI.2.2.2.2.1)))
    have k_xN2 : xN2 W := by
      rw [hW]
      exact (uxN2 rfl (uxN2 rfl (uxN2 rfl hI.2.2.2.2.2.1)))
    have k_xN3 : xN3 W := by
      rw [hW]
      exact (uxN3 rfl (uxN3 rfl (uxN3 rfl hI.2.2.2.2.2.2.1)))
    have k_xN4 : xN4 W := by
      rw [hW]
      exact (uxN4 rfl (uxN4 rfl (uxN4 rfl hI.2.2.2.2.2.2.2.1)))
    have k_xN5 : xN5 W := by
      rw [hW]
      exact (uxN5 rfl (uxN5 rfl (uxN5 rfl hI.2.2.2.2.2.2.2.2.1)))
    have k_xN6 : xN6 W := by
      rw [hW]
      exact (uxN6 rfl (uxN6 rfl (uxN6 rfl hI.2.2.2.2.2.2.2.2.2.1)))
    have k_xH1 : xH1 W := by
      rw [hW]
      exact (uxH1 rfl (uxH1 rfl (uxH1 rfl hI.2.2.2.2.2.2.2.2.2.2.1)))
    have k_xK1 : xK1 W := by
      rw [hW]
      exact (uxK1 rfl (uxK1 rfl (uxK1 rfl hI.2.2.2.2.2.2.2.2.2.2.2.1)))
    have k_xC1 : xC1 W := by
      rw [hW]
      exact (uxC1 rfl (uxC1 rfl (uxC1 rfl hI.2.2.2.2.2.2.2.2.2.2.2.2.1)))
    have k_xRW : xRW W := by
      rw [hW]
      exact (uxRW rfl (uxRW rfl (uxRW rfl hI.2.2.2.2.2.2.2.2.2.2.2.2.2.1)))
    have k_xWT : xWT W := by
      rw [hW]
      exact (uxWT rfl (uxWT rfl (uxWT rfl hI.2.2.2.2.2.2.2.2.2.2.2.2.2.2.1)))
    have k_xCU : xCU W := by
      rw [hW]
      exact (uxCU rfl (uxCU rfl (uxCU rfl hI.2.2.2.2.2.2.2.2.2.2.2.2.2.2.2.1)))
    have k_xG2 : xG2 W := by
      rw [hW]
      exact (uxG2 rfl (uxG2 rfl (uxG2 rfl hI.2.2.2.2.2.2.2.2.2.2.2.2.2.2.2.2.1)))
    have k_xG3 : xG3 W := by
      rw [hW]
      exact (uxG3 rfl (uxG3 rfl (uxG3 rfl hI.2.2.2.2.2.2.2.2.2.2.2.2.2.2.2.2.2.1)))
    have k_xG4 : xG4 W := by
      rw [hW]
      exact (uxG4 rfl (uxG4 rfl (uxG4 rfl hI.2.2.2.2.2.2.2.2.2.2.2.2.2.2.2.2.2.2.1)))
    have k_xG5 : xG5 W := by
      rw [hW]
      exact (uxG5 rfl (uxG5 rfl (uxG5 rfl hI.2.2.2.2.2.2.2.2.2.2.2.2.2.2.2.2.2.2.2.1)))
    have k_xG6 : xG6 W := by
      rw [hW]
      exact (uxG6 rfl (uxG6 rfl (uxG6 rfl hI.2.2.2.2.2.2.2.2.2.2.2.2.2.2.2.2.2.2.2.2.1)))
    have k_xS1 : xS1 W := by
      rw [hW]
      exact (uxS1 rfl (uxS1 rfl (uxS1 rfl hI.2.2.2.2.2.2.2.2.2.2.2.2.2.2.2.2.2.2.2.2.2.1)))
    have k_xS2 : xS2 W := by
      rw [hW]
      exact (uxS2 rfl (uxS2 rfl (uxS2 rfl hI.2.2.2.2.2.2.2.2.2.2.2.2.2.2.2.2.2.2.2.2.2.2.1)))
    have k_xS3 : xS3 W := by
      rw [hW]
      exact (uxS3 rfl (uxS3 rfl (uxS3 rfl hI.2.2.2.2.2.2.2.2.2.2.2.2.2.2.2.2.2.2.2.2.2.2.2.1)))
    have k_xS4 : xS4 W := by
      rw [hW]
      exact (uxS4 rfl (uxS4 rfl (uxS4 rfl hI.2.2.2.2.2.2.2.2.2.2.2.2.2.2.2.2.2.2.2.2.2.2.2.2.1)))
    have k_xS5 : xS5 W := by
      rw [hW]
      exact (uxS5 rfl (uxS5 rfl (uxS5 rfl hI.2.2.2.2.2.2.2.2.2.2.2.2.2.2.2.2.2.2.2.2.2.2.2.2.2.1)))
    have k_xS6 : xS6 W := by
      rw [hW]
      exact (uxS6 rfl (uxS6 rfl (uxS6 rfl hI.2.2.2.2.2.2.2.2.2.2.2.2.2.2.2.2.2.2.2.2.2.2.2.2.2.2.1)))
    have k_xS7 : xS7 W := by
      rw [hW]
      exact (uxS7 rfl (uxS7 rfl (uxS7 rfl hI.2.2.2.2.2.2.2.2.2.2.2.2.2.2.2.2.2.2.2.2.2.2.2.2.2.2.2.1)))
    have k_xS8 : xS8 W := by
      have r : W 4 210 = 0 := by rw [hW, sU_ne (fun z => by omega), sU_ne (fun z => by omega), sU_at]
      intro h
      rw [r] at h
      omega
    have k_xS9 : xS9 W := by
      have r : W 4 212 = 0 := by rw [hW, sU_ne (fun z => by omega), sU_at]
      intro h
      rw [r] at h
      omega
    have k_xSA : xSA W := by
      rw [hW]
      exact (uxSA rfl (uxSA rfl (uxSA rfl hI.2.2.2.2.2.2.2.2.2.2.2.2.2.2.2.2.2.2.2.2.2.2.2.2.2.2.2.2.2.2.1)))
    have k_xSG : xSG W := by
      rw [hW]
      exact (uxSG rfl (uxSG rfl (uxSG rfl hI.2.2.2.2.2.2.2.2.2.2.2.2.2.2.2.2.2.2.2.2.2.2.2.2.2.2.2.2.2.2.2.1)))
    have k_xSF : xSF W := by
      have r : W 4 233 = 0 := by rw [hW, sU_at]
      intro h
      rw [r] at h
      omega
    have k_xSB : xSB W := by
      rw [hW]
      exact (uxSB rfl (uxSB rfl (uxSB rfl hI.2.2.2.2.2.2.2.2.2.2.2.2.2.2.2.2.2.2.2.2.2.2.2.2.2.2.2.2.2.2.2.2.2.1)))
    have k_xSC : xSC W := by
      rw [hW]
      exact (uxSC rfl (uxSC rfl (uxSC rfl hI.2.2.2.2.2.2.2.2.2.2.2.2.2.2.2.2.2.2.2.2.2.2.2.2.2.2.2.2.2.2.2.2.2.2.1)))
    have k_xSD : xSD W := by
      rw [hW]
      exact (uxSD rfl (uxSD rfl (uxSD rfl hI.2.2.2.2.2.2.2.2.2.2.2.2.2.2.2.2.2.2.2.2.2.2.2.2.2.2.2.2.2.2.2.2.2.2.2.1)))
    have k_xSE : xSE W := by
      rw [hW]
      exact (uxSE rfl (uxSE rfl (uxSE rfl hI.2.2.2.2.2.2.2.2.2.2.2.2.2.2.2.2.2.2.2.2.2.2.2.2.2.2.2.2.2.2.2.2.2.2.2.2.1)))
    have k_xSW : xSW W := by
      rw [hW]
      exact (uxSW rfl (uxSW rfl (uxSW rfl hI.2.2.2.2.2.2.2.2.2.2.2.2.2.2.2.2.2.2.2.2.2.2.2.2.2.2.2.2.2.2.2.2.2.2.2.2.2.1)))
    have k_xST : xST W := by
      rw [hW]
      exact (uxST rfl (uxST rfl (uxST rfl hI.2.2.2.2.2.2.2.2.2.2.2.2.2.2.2.2.2.2.2.2.2.2.2.2.2.2.2.2.2.2.2.2.2.2.2.2.2.2.1)))
    have k_xSP : xSP W := by
      rw [hW]
      exact (uxSP rfl (uxSP rfl (uxSP rfl hI.2.2.2.2.2.2.2.2.2.2.2.2.2.2.2.2.2.2.2.2.2.2.2.2.2.2.2.2.2.2.2.2.2.2.2.2.2.2.2.1)))
    have k_xSL : xSL W := by
      rw [hW]
      exact (uxSL rfl (uxSL rfl (uxSL rfl hI.2.2.2.2.2.2.2.2.2.2.2.2.2.2.2.2.2.2.2.2.2.2.2.2.2.2.2.2.2.2.2.2.2.2.2.2.2.2.2.2.1)))
    have k_xSM : xSM W := by
      rw [hW]
      exact (uxSM rfl (uxSM rfl (uxSM rfl hI.2.2.2.2.2.2.2.2.2.2.2.2.2.2.2.2.2.2.2.2.2.2.2.2.2.2.2.2.2.2.2.2.2.2.2.2.2.2.2.2.2.1)))
    have k_xSI : xSI W := by
      rw [hW]
      exact (uxSI rfl (uxSI rfl (uxSI rfl hI.2.2.2.2.2.2.2.2.2.2.2.2.2.2.2.2.2.2.2.2.2.2.2.2.2.2.2.2.2.2.2.2.2.2.2.2.2.2.2.2.2.2)))
    have k_XC : XC W := ⟨k_xS1, k_xS2, k_xS3, k_xS4, k_xS5, k_xS6, k_xS7, k_xS8, k_xS9, k_xSA, k_xSG, k_xSF, k_xSB, k_xSC, k_xSD, k_xSE, k_xSW, k_xST, k_xSP, k_xSL, k_xSM, k_xSI⟩
    have kXB : XB W := ⟨k_xN1, k_xN2, k_xN3, k_xN4, k_xN5, k_xN6, k_xH1, k_xK1, k_xC1, k_xRW, k_xWT, k_xCU, k_xG2, k_xG3, k_xG4, k_xG5, k_xG6, k_XC⟩
    exact ⟨base, k2, k3, kXA, kXB⟩
-- blank10
def xr_139 : qRu := (4, [[(-10, 0), (1, 3)], [(10, 0), (-1, 3)], [(1, 1)], [(-1, 0), (-1, 1), (1, 2)]], [(4, 210, [(1, 0)]), (4, 212, []), (4, 233, []), (4, 211, [(1, 1)]), (4, 101, [(1, 2)]), (4, 100, [(1, 0)]), (1, 1001, [(1, 3)])], [], [(4, 211, [(1, 0), (1, 1)])], [])
theorem xo_139 : qRok xr_139 := by
  intro ρ M h0 hf hm hI
  have f0 := hf [(-10, 0), (1, 3)] (by decide)
  have f1 := hf [(10, 0), (-1, 3)] (by decide)
  have f2 := hf [(1, 1)] (by decide)
  have f3 := hf [(-1, 0), (-1, 1), (1, 2)] (by decide)
  simp only [qD, h0] at f0 f1 f2 f3
  have m0 : M 4 210 = 1 * ρ 0 + 0 := hm (4, 210, [(1, 0)]) (by decide)
  have m1 : M 4 212 = 0 := hm (4, 212, []) (by decide)
  have m2 : M 4 233 = 0 := hm (4, 233, []) (by decide)
  have m3 : M 4 211 = 1 * ρ 1 + 0 := hm (4, 211, [(1, 1)]) (by decide)
  have m4 : M 4 101 = 1 * ρ 2 + 0 := hm (4, 101, [(1, 2)]) (by decide)
  have m5 : M 4 100 = 1 * ρ 0 + 0 := hm (4, 100, [(1, 0)]) (by decide)
  have m6 : M 1 (zIx ρ (1000 + 1)) = 1 * ρ 3 + 0 := hm (1, 1001, [(1, 3)]) (by decide)
  rw [zix_p] at m6
  simp only [h0] at m0 m5
  have qxS8 := hI.2.2.2.2.2.2.2.2.2.2.2.2.2.2.2.2.2.2.2.2.2.2.2.2.2.2.2.2.1
  obtain ⟨hb, hc, _⟩ := xs_by hI (by omega) (k := (ρ 1).toNat) (by omega)
  have hx : M 92 (ρ 1).toNat = 10 := by omega
  refine ⟨ρ, fun _ _ => rfl, fun f h => ?_, ?_⟩
  · exact nomatch h
  · show sI (sU M 4 211 (1 * ρ 0 + (1 * ρ 1 + 0)))
    obtain ⟨W, hW⟩ : ∃ W, W = (sU M 4 211 (1 * ρ 0 + (1 * ρ 1 + 0))) := ⟨_, rfl⟩
    rw [← hW]
    have base : sI0 W := by
      rw [hW]
      exact (si_u0 hI.1 (fun r hr => by cases hr))
    have k2 : XI2 W := by
      rw [hW]
      exact (xi2_u rfl hI.2.1)
    have k3 : XI3 W := by
      rw [hW]
      exact (xi3_u rfl hI.2.2.1)
    have kXA : XA W := by
      rw [hW]
      exact (uXA rfl hI.2.2.2.1)
    have k_xN1 : xN1 W := by
      rw [hW]
      exact (uxN1 rfl hI.2.2.2.2.1)
    have k_xN2 : xN2 W := by
      rw [hW]
      exact (uxN2 rfl hI.2.2.2.2.2.1)
    have k_xN3 : xN3 W := by
      rw [hW]
      exact (uxN3 rfl hI.2.2.2.2.2.2.1)
    have k_xN4 : xN4 W := by
      rw [hW]
      exact (uxN4 rfl hI.2.2.2.2.2.2.2.1)
    have k_xN5 : xN5 W := by
      rw [hW]
      exact (uxN5 rfl hI.2.2.2.2.2.2.2.2.1)
    have k_xN6 : xN6 W := by
      rw [hW]
      exact (uxN6 rfl hI.2.2.2.2.2.2.2.2.2.1)
    have k_xH1 : xH1 W := by
      rw [hW]
      exact (uxH1 rfl hI.2.2.2.2.2.2.2.2.2.2.1)
    have k_xK1 : xK1 W := by
      rw [hW]
      exact (uxK1 rfl hI.2.2.2.2.2.2.2.2.2.2.2.1)
    have k_xC1 : xC1 W := by
      rw [hW]
      exact (uxC1 rfl hI.2.2.2.2.2.2.2.2.2.2.2.2.1)
    have k_xRW : xRW W := by
      rw [hW]
      exact (uxRW rfl hI.2.2.2.2.2.2.2.2.2.2.2.2.2.1)
    have k_xWT : xWT W := by
      rw [hW]
      exact (uxWT rfl hI.2.2.2.2.2.2.2.2.2.2.2.2.2.2.1)
    have k_xCU : xCU W := by
      rw [hW]
      exact (uxCU rfl hI.2.2.2.2.2.2.2.2.2.2.2.2.2.2.2.1)
    have k_xG2 : xG2 W := by
      rw [hW]
      exact (uxG2 rfl hI.2.2.2.2.2.2.2.2.2.2.2.2.2.2.2.2.1)
    have k_xG3 : xG3 W := by
      rw [hW]
      exact (uxG3 rfl hI.2.2.2.2.2.2.2.2.2.2.2.2.2.2.2.2.2.1)
    have k_xG4 : xG4 W := by
      rw [hW]
      exact (uxG4 rfl hI.2.2.2.2.2.2.2.2.2.2.2.2.2.2.2.2.2.2.1)
    have k_xG5 : xG5 W := by
      rw [hW]
      exact (uxG5 rfl hI.2.2.2.2.2.2.2.2.2.2.2.2.2.2.2.2.2.2.2.1)
    have k_xG6 : xG6 W := by
      rw [hW]
      exact (uxG6 rfl hI.2.2.2.2.2.2.2.2.2.2.2.2.2.2.2.2.2.2.2.2.1)
    have k_xS1 : xS1 W := by
      rw [hW]
      exact (uxS1 rfl hI.2.2.2.2.2.2.2.2.2.2.2.2.2.2.2.2.2.2.2.2.2.1)
    have k_xS2 : xS2 W := by
      rw [hW]
      exact (uxS2 rfl hI.2.2.2.2.2.2.2.2.2.2.2.2.2.2.2.2.2.2.2.2.2.2.1)
    have k_xS3 : xS3 W := by
      rw [hW]
      exact (uxS3 rfl hI.2.2.2.2.2.2.2.2.2.2.2.2.2.2.2.2.2.2.2.2.2.2.2.1)
    have k_xS4 : xS4 W := by
      rw [hW]
      exact (uxS4 rfl hI.2.2.2.2.2.2.2.2.2.2.2.2.2.2.2.2.2.2.2.2.2.2.2.2.1)
    have k_xS5 : xS5 W := by
      rw [hW]
      exact (uxS5 rfl hI.2.2.2.2.2.2.2.2.2.2.2.2.2.2.2.2.2.2.2.2.2.2.2.2.2.1)
    have k_xS6 : xS6 W := by
      rw [hW]
      exact (uxS6 rfl hI.2.2.2.2.2.2.2.2.2.2.2.2.2.2.2.2.2.2.2.2.2.2.2.2.2.2.1)
    have k_xS7 : xS7 W := by
      rw [hW]
      exact (uxS7 rfl hI.2.2.2.2.2.2.2.2.2.2.2.2.2.2.2.2.2.2.2.2.2.2.2.2.2.2.2.1)
    have k_xS8 : xS8 W := by
      have r4_210 : W 4 210 = M 4 210 := by rw [hW, sU_ne (fun z => by omega)]
      have r4_211 : W 4 211 = 1 * ρ 0 + (1 * ρ 1 + 0) := by rw [hW, sU_at]
      have r4_101 : W 4 101 = M 4 101 := by rw [hW, sU_ne (fun z => by omega)]
      have r4_102 : W 4 102 = M 4 102 := by rw [hW, sU_ne (fun z => by omega)]
      have r4_107 : W 4 107 = M 4 107 := by rw [hW, sU_ne (fun z => by omega)]
      have r4_108 : W 4 108 = M 4 108 := by rw [hW, sU_ne (fun z => by omega)]
      have c92 : ∀ k, W 92 k = M 92 k := fun k => by rw [hW, sU_ne (fun z => by omega)]
      have e92 : W 92 = M 92 := funext c92
      intro h
      rw [r4_211, r4_101, r4_102, r4_107, r4_108, e92]
      obtain ⟨u1, u2, u3⟩ := qxS8 (by omega)
      refine ⟨by omega, by omega, ?_⟩
      rw [← u3, m3, show (1 * ρ 0 + (1 * ρ 1 + 0)).toNat = (ρ 1).toNat + 1 by rw [h0]; omega, show (1 * ρ 1 + 0).toNat = (ρ 1).toNat by omega]
      exact (tto_on (by omega) (Or.inl hx)).symm
    have k_xS9 : xS9 W := by
      have r : W 4 212 = 0 := by
        have e := m1
        rw [hW, sU_ne (fun z => by omega)]
        omega
      intro h
      rw [r] at h
      omega
    have k_xSA : xSA W := by
      rw [hW]
      exact (uxSA rfl hI.2.2.2.2.2.2.2.2.2.2.2.2.2.2.2.2.2.2.2.2.2.2.2.2.2.2.2.2.2.2.1)
    have k_xSG : xSG W := by
      rw [hW]
      exact (uxSG rfl hI.2.2.2.2.2.2.2.2.2.2.2.2.2.2.2.2.2.2.2.2.2.2.2.2.2.2.2.2.2.2.2.1)
    have k_xSF : xSF W := by
      have r : W 4 233 = 0 := by
        have e := m2
        rw [hW, sU_ne (fun z => by omega)]
        omega
      intro h
      rw [r] at h
      omega
    have k_xSB : xSB W := by
      rw [hW]
      exact (uxSB rfl hI.2.2.2.2.2.2.2.2.2.2.2.2.2.2.2.2.2.2.2.2.2.2.2.2.2.2.2.2.2.2.2.2.2.1)
    have k_xSC : xSC W := by
      rw [hW]
      exact (uxSC rfl hI.2.2.2.2.2.2.2.2.2.2.2.2.2.2.2.2.2.2.2.2.2.2.2.2.2.2.2.2.2.2.2.2.2.2.1)
    have k_xSD : xSD W := by
      rw [hW]
      exact (uxSD rfl hI.2.2.2.2.2.2.2.2.2.2.2.2.2.2.2.2.2.2.2.2.2.2.2.2.2.2.2.2.2.2.2.2.2.2.2.1)
    have k_xSE : xSE W := by
      rw [hW]
      exact (uxSE rfl hI.2.2.2.2.2.2.2.2.2.2.2.2.2.2.2.2.2.2.2.2.2.2.2.2.2.2.2.2.2.2.2.2.2.2.2.2.1)
    have k_xSW : xSW W := by
      rw [hW]
      exact (uxSW rfl hI.2.2.2.2.2.2.2.2.2.2.2.2.2.2.2.2.2.2.2.2.2.2.2.2.2.2.2.2.2.2.2.2.2.2.2.2.2.1)
    have k_xST : xST W := by
      rw [hW]
      exact (uxST rfl hI.2.2.2.2.2.2.2.2.2.2.2.2.2.2.2.2.2.2.2.2.2.2.2.2.2.2.2.2.2.2.2.2.2.2.2.2.2.2.1)
    have k_xSP : xSP W := by
      rw [hW]
      exact (uxSP rfl hI.2.2.2.2.2.2.2.2.2.2.2.2.2.2.2.2.2.2.2.2.2.2.2.2.2.2.2.2.2.2.2.2.2.2.2.2.2.2.2.1)
    have k_xSL : xSL W := by
      rw [hW]
      exact (uxSL rfl hI.2.2.2.2.2.2.2.2.2.2.2.2.2.2.2.2.2.2.2.2.2.2.2.2.2.2.2.2.2.2.2.2.2.2.2.2.2.2.2.2.1)
    have k_xSM : xSM W := by
      rw [hW]
      exact (uxSM rfl hI.2.2.2.2.2.2.2.2.2.2.2.2.2.2.2.2.2.2.2.2.2.2.2.2.2.2.2.2.2.2.2.2.2.2.2.2.2.2.2.2.2.1)
    have k_xSI : xSI W := by
      rw [hW]
      exact (uxSI rfl hI.2.2.2.2.2.2.2.2.2.2.2.2.2.2.2.2.2.2.2.2.2.2.2.2.2.2.2.2.2.2.2.2.2.2.2.2.2.2.2.2.2.2)
    have k_XC : XC W := ⟨k_xS1, k_xS2, k_xS3, k_xS4, k_xS5, k_xS6, k_xS7, k_xS8, k_xS9, k_xSA, k_xSG, k_xSF, k_xSB, k_xSC, k_xSD, k_xSE, k_xSW, k_xST, k_xSP, k_xSL, k_xSM, k_xSI⟩
    have kXB : XB W := ⟨k_xN1, k_xN2, k_xN3, k_xN4, k_xN5, k_xN6, k_xH1, k_xK1, k_xC1, k_xRW, k_xWT, k_xCU, k_xG2, k_xG3, k_xG4, k_xG5, k_xG6, k_XC⟩
    exact ⟨base, k2, k3, kXA, kXB⟩
-- rblank10
def xr_140 : qRu := (6, [[(-1, 1), (1, 3)], [(1, 1), (-1, 3)], [(-1, 2), (1, 4)], [(1, 2), (-1, 4)], [(-10, 0), (1, 5)], [(10, 0), (-1, 5)], [(1, 1)], [(-1, 0), (-1, 1), (1, 2)]], [(4, 210, [(1, 0)]), (4, 212, []), (4, 233, []), (4, 211, [(1, 1)]), (4, 101, [(1, 2)]), (91, 27, [(1, 3)]), (91, 26, [(1, 4)]), (91, 990, [(1, 5)])], [], [(4, 211, [(1, 0), (1, 1)])], [])
theorem xo_140 : qRok xr_140 := by
  intro ρ M h0 hf hm hI
  have f0 := hf [(-1, 1), (1, 3)] (by decide)
  have f1 := hf [(1, 1), (-1, 3)] (by decide)
  have f2 := hf [(-1, 2), (1, 4)] (by decide)
  have f3 := hf [(1, 2), (-1, 4)] (by decide)
  have f4 := hf [(-10, 0), (1, 5)] (by decide)
  have f5 := hf [(10, 0), (-1, 5)] (by decide)
  have f6 := hf [(1, 1)] (by decide)
  have f7 := hf [(-1, 0), (-1, 1), (1, 2)] (by decide)
  simp only [qD, h0] at f0 f1 f2 f3 f4 f5 f6 f7
  have m0 : M 4 210 = 1 * ρ 0 + 0 := hm (4, 210, [(1, 0)]) (by decide)
  have m1 : M 4 212 = 0 := hm (4, 212, []) (by decide)
  have m2 : M 4 233 = 0 := hm (4, 233, []) (by decide)
  have m3 : M 4 211 = 1 * ρ 1 + 0 := hm (4, 211, [(1, 1)]) (by decide)
  have m4 : M 4 101 = 1 * ρ 2 + 0 := hm (4, 101, [(1, 2)]) (by decide)
  have m5 : M 91 27 = 1 * ρ 3 + 0 := hm (91, 27, [(1, 3)]) (by decide)
  have m6 : M 91 26 = 1 * ρ 4 + 0 := hm (91, 26, [(1, 4)]) (by decide)
  have m7 : M 91 990 = 1 * ρ 5 + 0 := hm (91, 990, [(1, 5)]) (by decide)
  simp only [h0] at m0
  have qxS8 := hI.2.2.2.2.2.2.2.2.2.2.2.2.2.2.2.2.2.2.2.2.2.2.2.2.2.2.2.2.1
  have hh := xs_hr hI (by omega)
  have hx : M 92 (ρ 1).toNat = 10 := by rw [show (ρ 1).toNat = (M 91 27).toNat by omega, ← hh]; omega
  refine ⟨ρ, fun _ _ => rfl, fun f h => ?_, ?_⟩
  · exact nomatch h
  · show sI (sU M 4 211 (1 * ρ 0 + (1 * ρ 1 + 0)))
    obtain ⟨W, hW⟩ : ∃ W, W = (sU M 4 211 (1 * ρ 0 + (1 * ρ 1 + 0))) := ⟨_, rfl⟩
    rw [← hW]
    have base : sI0 W := by
      rw [hW]
      exact (si_u0 hI.1 (fun r hr => by cases hr))
    have k2 : XI2 W := by
      rw [hW]
      exact (xi2_u rfl hI.2.1)
    have k3 : XI3 W := by
      rw [hW]
      exact (xi3_u rfl hI.2.2.1)
    have kXA : XA W := by
      rw [hW]
      exact (uXA rfl hI.2.2.2.1)
    have k_xN1 : xN1 W := by
      rw [hW]
      exact (uxN1 rfl hI.2.2.2.2.1)
    have k_xN2 : xN2 W := by
      rw [hW]
      exact (uxN2 rfl hI.2.2.2.2.2.1)
    have k_xN3 : xN3 W := by
      rw [hW]
      exact (uxN3 rfl hI.2.2.2.2.2.2.1)
    have k_xN4 : xN4 W := by
      rw [hW]
      exact (uxN4 rfl hI.2.2.2.2.2.2.2.1)
    have k_xN5 : xN5 W := by
      rw [hW]
      exact (uxN5 rfl hI.2.2.2.2.2.2.2.2.1)
    have k_xN6 : xN6 W := by
      rw [hW]
      exact (uxN6 rfl hI.2.2.2.2.2.2.2.2.2.1)
    have k_xH1 : xH1 W := by
      rw [hW]
      exact (uxH1 rfl hI.2.2.2.2.2.2.2.2.2.2.1)
    have k_xK1 : xK1 W := by
      rw [hW]
      exact (uxK1 rfl hI.2.2.2.2.2.2.2.2.2.2.2.1)
    have k_xC1 : xC1 W := by
      rw [hW]
      exact (uxC1 rfl hI.2.2.2.2.2.2.2.2.2.2.2.2.1)
    have k_xRW : xRW W := by
      rw [hW]
      exact (uxRW rfl hI.2.2.2.2.2.2.2.2.2.2.2.2.2.1)
    have k_xWT : xWT W := by
      rw [hW]
      exact (uxWT rfl hI.2.2.2.2.2.2.2.2.2.2.2.2.2.2.1)
    have k_xCU : xCU W := by
      rw [hW]
      exact (uxCU rfl hI.2.2.2.2.2.2.2.2.2.2.2.2.2.2.2.1)
    have k_xG2 : xG2 W := by
      rw [hW]
      exact (uxG2 rfl hI.2.2.2.2.2.2.2.2.2.2.2.2.2.2.2.2.1)
    have k_xG3 : xG3 W := by
      rw [hW]
      exact (uxG3 rfl hI.2.2.2.2.2.2.2.2.2.2.2.2.2.2.2.2.2.1)
    have k_xG4 : xG4 W := by
      rw [hW]
      exact (uxG4 rfl hI.2.2.2.2.2.2.2.2.2.2.2.2.2.2.2.2.2.2.1)
    have k_xG5 : xG5 W := by
      rw [hW]
      exact (uxG5 rfl hI.2.2.2.2.2.2.2.2.2.2.2.2.2.2.2.2.2.2.2.1)
    have k_xG6 : xG6 W := by
      rw [hW]
      exact (uxG6 rfl hI.2.2.2.2.2.2.2.2.2.2.2.2.2.2.2.2.2.2.2.2.1)
    have k_xS1 : xS1 W := by
      rw [hW]
      exact (uxS1 rfl hI.2.2.2.2.2.2.2.2.2.2.2.2.2.2.2.2.2.2.2.2.2.1)
    have k_xS2 : xS2 W := by
      rw [hW]
      exact (uxS2 rfl hI.2.2.2.2.2.2.2.2.2.2.2.2.2.2.2.2.2.2.2.2.2.2.1)
    have k_xS3 : xS3 W := by
      rw [hW]
      exact (uxS3 rfl hI.2.2.2.2.2.2.2.2.2.2.2.2.2.2.2.2.2.2.2.2.2.2.2.1)
    have k_xS4 : xS4 W := by
      rw [hW]
      exact (uxS4 rfl hI.2.2.2.2.2.2.2.2.2.2.2.2.2.2.2.2.2.2.2.2.2.2.2.2.1)
    have k_xS5 : xS5 W := by
      rw [hW]
      exact (uxS5 rfl hI.2.2.2.2.2.2.2.2.2.2.2.2.2.2.2.2.2.2.2.2.2.2.2.2.2.1)
    have k_xS6 : xS6 W := by
      rw [hW]
      exact (uxS6 rfl hI.2.2.2.2.2.2.2.2.2.2.2.2.2.2.2.2.2.2.2.2.2.2.2.2.2.2.1)
    have k_xS7 : xS7 W := by
      rw [hW]
      exact (uxS7 rfl hI.2.2.2.2.2.2.2.2.2.2.2.2.2.2.2.2.2.2.2.2.2.2.2.2.2.2.2.1)
    have k_xS8 : xS8 W := by
      have r4_210 : W 4 210 = M 4 210 := by rw [hW, sU_ne (fun z => by omega)]
      have r4_211 : W 4 211 = 1 * ρ 0 + (1 * ρ 1 + 0) := by rw [hW, sU_at]
      have r4_101 : W 4 101 = M 4 101 := by rw [hW, sU_ne (fun z => by omega)]
      have r4_102 : W 4 102 = M 4 102 := by rw [hW, sU_ne (fun z => by omega)]
      have r4_107 : W 4 107 = M 4 107 := by rw [hW, sU_ne (fun z => by omega)]
      have r4_108 : W 4 108 = M 4 108 := by rw [hW, sU_ne (fun z => by omega)]
      have c92 : ∀ k, W 92 k = M 92 k := fun k => by rw [hW, sU_ne (fun z => by omega)]
      have e92 : W 92 = M 92 := funext c92
      intro h
      rw [r4_211, r4_101, r4_102, r4_107, r4_108, e92]
      obtain ⟨u1, u2, u3⟩ := qxS8 (by omega)
      refine ⟨by omega, by omega, ?_⟩
      rw [← u3, m3, show (1 * ρ 0 + (1 * ρ 1 + 0)).toNat = (ρ 1).toNat + 1 by rw [h0]; omega, show (1 * ρ 1 + 0).toNat = (ρ 1).toNat by omega]
      exact (tto_on (by omega) (Or.inl hx)).symm
    have k_xS9 : xS9 W := by
      have r : W 4 212 = 0 := by
        have e := m1
        rw [hW, sU_ne (fun z => by omega)]
        omega
      intro h
      rw [r] at h
      omega
    have k_xSA : xSA W := by
      rw [hW]
      exact (uxSA rfl hI.2.2.2.2.2.2.2.2.2.2.2.2.2.2.2.2.2.2.2.2.2.2.2.2.2.2.2.2.2.2.1)
    have k_xSG : xSG W := by
      rw [hW]
      exact (uxSG rfl hI.2.2.2.2.2.2.2.2.2.2.2.2.2.2.2.2.2.2.2.2.2.2.2.2.2.2.2.2.2.2.2.1)
    have k_xSF : xSF W := by
      have r : W 4 233 = 0 := by
        have e := m2
        rw [hW, sU_ne (fun z => by omega)]
        omega
      intro h
      rw [r] at h
      omega
    have k_xSB : xSB W := by
      rw [hW]
      exact (uxSB rfl hI.2.2.2.2.2.2.2.2.2.2.2.2.2.2.2.2.2.2.2.2.2.2.2.2.2.2.2.2.2.2.2.2.2.1)
    have k_xSC : xSC W := by
      rw [hW]
      exact (uxSC rfl hI.2.2.2.2.2.2.2.2.2.2.2.2.2.2.2.2.2.2.2.2.2.2.2.2.2.2.2.2.2.2.2.2.2.2.1)
    have k_xSD : xSD W := by
      rw [hW]
      exact (uxSD rfl hI.2.2.2.2.2.2.2.2.2.2.2.2.2.2.2.2.2.2.2.2.2.2.2.2.2.2.2.2.2.2.2.2.2.2.2.1)
    have k_xSE : xSE W := by
      rw [hW]
      exact (uxSE rfl hI.2.2.2.2.2.2.2.2.2.2.2.2.2.2.2.2.2.2.2.2.2.2.2.2.2.2.2.2.2.2.2.2.2.2.2.2.1)
    have k_xSW : xSW W := by
      rw [hW]
      exact (uxSW rfl hI.2.2.2.2.2.2.2.2.2.2.2.2.2.2.2.2.2.2.2.2.2.2.2.2.2.2.2.2.2.2.2.2.2.2.2.2.2.1)
    have k_xST : xST W := by
      rw [hW]
      exact (uxST rfl hI.2.2.2.2.2.2.2.2.2.2.2.2.2.2.2.2.2.2.2.2.2.2.2.2.2.2.2.2.2.2.2.2.2.2.2.2.2.2.1)
    have k_xSP : xSP W := by
      rw [hW]
      exact (uxSP rfl hI.2.2.2.2.2.2.2.2.2.2.2.2.2.2.2.2.2.2.2.2.2.2.2.2.2.2.2.2.2.2.2.2.2.2.2.2.2.2.2.1)
    have k_xSL : xSL W := by
      rw [hW]
      exact (uxSL rfl hI.2.2.2.2.2.2.2.2.2.2.2.2.2.2.2.2.2.2.2.2.2.2.2.2.2.2.2.2.2.2.2.2.2.2.2.2.2.2.2.2.1)
    have k_xSM : xSM W := by
      rw [hW]
      exact (uxSM rfl hI.2.2.2.2.2.2.2.2.2.2.2.2.2.2.2.2.2.2.2.2.2.2.2.2.2.2.2.2.2.2.2.2.2.2.2.2.2.2.2.2.2.1)
    have k_xSI : xSI W := by
      rw [hW]
      exact (uxSI rfl hI.2.2.2.2.2.2.2.2.2.2.2.2.2.2.2.2.2.2.2.2.2.2.2.2.2.2.2.2.2.2.2.2.2.2.2.2.2.2.2.2.2.2)
    have k_XC : XC W := ⟨k_xS1, k_xS2, k_xS3, k_xS4, k_xS5, k_xS6, k_xS7, k_xS8, k_xS9, k_xSA, k_xSG, k_xSF, k_xSB, k_xSC, k_xSD, k_xSE, k_xSW, k_xST, k_xSP, k_xSL, k_xSM, k_xSI⟩
    have kXB : XB W := ⟨k_xN1, k_xN2, k_xN3, k_xN4, k_xN5, k_xN6, k_xH1, k_xK1, k_xC1, k_xRW, k_xWT, k_xCU, k_xG2, k_xG3, k_xG4, k_xG5, k_xG6, k_XC⟩
    exact ⟨base, k2, k3, kXA, kXB⟩
-- blank32
def xr_141 : qRu := (4, [[(-32, 0), (1, 3)], [(32, 0), (-1, 3)], [(1, 1)], [(-1, 0), (-1, 1), (1, 2)]], [(4, 210, [(1, 0)]), (4, 212, []), (4, 233, []), (4, 211, [(1, 1)]), (4, 101, [(1, 2)]), (4, 100, [(1, 0)]), (1, 1001, [(1, 3)])], [], [(4, 211, [(1, 0), (1, 1)])], [])
theorem xo_141 : qRok xr_141 := by
  intro ρ M h0 hf hm hI
  have f0 := hf [(-32, 0), (1, 3)] (by decide)
  have f1 := hf [(32, 0), (-1, 3)] (by decide)
  have f2 := hf [(1, 1)] (by decide)
  have f3 := hf [(-1, 0), (-1, 1), (1, 2)] (by decide)
  simp only [qD, h0] at f0 f1 f2 f3
  have m0 : M 4 210 = 1 * ρ 0 + 0 := hm (4, 210, [(1, 0)]) (by decide)
  have m1 : M 4 212 = 0 := hm (4, 212, []) (by decide)
  have m2 : M 4 233 = 0 := hm (4, 233, []) (by decide)
  have m3 : M 4 211 = 1 * ρ 1 + 0 := hm (4, 211, [(1, 1)]) (by decide)
  have m4 : M 4 101 = 1 * ρ 2 + 0 := hm (4, 101, [(1, 2)]) (by decide)
  have m5 : M 4 100 = 1 * ρ 0 + 0 := hm (4, 100, [(1, 0)]) (by decide)
  have m6 : M 1 (zIx ρ (1000 + 1)) = 1 * ρ 3 + 0 := hm (1, 1001, [(1, 3)]) (by decide)
  rw [zix_p] at m6
  simp only [h0] at m0 m5
  have qxS8 := hI.2.2.2.2.2.2.2.2.2.2.2.2.2.2.2.2.2.2.2.2.2.2.2.2.2.2.2.2.1
  obtain ⟨hb, hc, _⟩ := xs_by hI (by omega) (k := (ρ 1).toNat) (by omega)
  have hx : M 92 (ρ 1).toNat = 32 := by omega
  refine ⟨ρ, fun _ _ => rfl, fun f h => ?_, ?_⟩
  · exact nomatch h
  · show sI (sU M 4 211 (1 * ρ 0 + (1 * ρ 1 + 0)))
    obtain ⟨W, hW⟩ : ∃ W, W = (sU M 4 211 (1 * ρ 0 + (1 * ρ 1 + 0))) := ⟨_, rfl⟩
    rw [← hW]
    have base : sI0 W := by
      rw [hW]
      exact (si_u0 hI.1 (fun r hr => by cases hr))
    have k2 : XI2 W := by
      rw [hW]
      exact (xi2_u rfl hI.2.1)
    have k3 : XI3 W := by
      rw [hW]
      exact (xi3_u rfl hI.2.2.1)
    have kXA : XA W := by
      rw [hW]
      exact (uXA rfl hI.2.2.2.1)
    have k_xN1 : xN1 W := by
      rw [hW]
      exact (uxN1 rfl hI.2.2.2.2.1)
    have k_xN2 : xN2 W := by
      rw [hW]
      exact (uxN2 rfl hI.2.2.2.2.2.1)
    have k_xN3 : xN3 W := by
      rw [hW]
      exact (uxN3 rfl hI.2.2.2.2.2.2.1)
    have k_xN4 : xN4 W := by
      rw [hW]
      exact (uxN4 rfl hI.2.2.2.2.2.2.2.1)
    have k_xN5 : xN5 W := by
      rw [hW]
      exact (uxN5 rfl hI.2.2.2.2.2.2.2.2.1)
    have k_xN6 : xN6 W := by
      rw [hW]
      exact (uxN6 rfl hI.2.2.2.2.2.2.2.2.2.1)
    have k_xH1 : xH1 W := by
      rw [hW]
      exact (uxH1 rfl hI.2.2.2.2.2.2.2.2.2.2.1)
    have k_xK1 : xK1 W := by
      rw [hW]
      exact (uxK1 rfl hI.2.2.2.2.2.2.2.2.2.2.2.1)
    have k_xC1 : xC1 W := by
      rw [hW]
      exact (uxC1 rfl hI.2.2.2.2.2.2.2.2.2.2.2.2.1)
    have k_xRW : xRW W := by
      rw [hW]
      exact (uxRW rfl hI.2.2.2.2.2.2.2.2.2.2.2.2.2.1)
    have k_xWT : xWT W := by
      rw [hW]
      exact (uxWT rfl hI.2.2.2.2.2.2.2.2.2.2.2.2.2.2.1)
    have k_xCU : xCU W := by
      rw [hW]
      exact (uxCU rfl hI.2.2.2.2.2.2.2.2.2.2.2.2.2.2.2.1)
    have k_xG2 : xG2 W := by
      rw [hW]
      exact (uxG2 rfl hI.2.2.2.2.2.2.2.2.2.2.2.2.2.2.2.2.1)
    have k_xG3 : xG3 W := by
      rw [hW]
      exact (uxG3 rfl hI.2.2.2.2.2.2.2.2.2.2.2.2.2.2.2.2.2.1)
    have k_xG4 : xG4 W := by
      rw [hW]
      exact (uxG4 rfl hI.2.2.2.2.2.2.2.2.2.2.2.2.2.2.2.2.2.2.1)
    have k_xG5 : xG5 W := by
      rw [hW]
      exact (uxG5 rfl hI.2.2.2.2.2.2.2.2.2.2.2.2.2.2.2.2.2.2.2.1)
    have k_xG6 : xG6 W := by
      rw [hW]
      exact (uxG6 rfl hI.2.2.2.2.2.2.2.2.2.2.2.2.2.2.2.2.2.2.2.2.1)
    have k_xS1 : xS1 W := by
      rw [hW]
      exact (uxS1 rfl hI.2.2.2.2.2.2.2.2.2.2.2.2.2.2.2.2.2.2.2.2.2.1)
    have k_xS2 : xS2 W := by
      rw [hW]
      exact (uxS2 rfl hI.2.2.2.2.2.2.2.2.2.2.2.2.2.2.2.2.2.2.2.2.2.2.1)
    have k_xS3 : xS3 W := by
      rw [hW]
      exact (uxS3 rfl hI.2.2.2.2.2.2.2.2.2.2.2.2.2.2.2.2.2.2.2.2.2.2.2.1)
    have k_xS4 : xS4 W := by
      rw [hW]
      exact (uxS4 rfl hI.2.2.2.2.2.2.2.2.2.2.2.2.2.2.2.2.2.2.2.2.2.2.2.2.1)
    have k_xS5 : xS5 W := by
      rw [hW]
      exact (uxS5 rfl hI.2.2.2.2.2.2.2.2.2.2.2.2.2.2.2.2.2.2.2.2.2.2.2.2.2.1)
    have k_xS6 : xS6 W := by
      rw [hW]
      exact (uxS6 rfl hI.2.2.2.2.2.2.2.2.2.2.2.2.2.2.2.2.2.2.2.2.2.2.2.2.2.2.1)
    have k_xS7 : xS7 W := by
      rw [hW]
      exact (uxS7 rfl hI.2.2.2.2.2.2.2.2.2.2.2.2.2.2.2.2.2.2.2.2.2.2.2.2.2.2.2.1)
    have k_xS8 : xS8 W := by
      have r4_210 : W 4 210 = M 4 210 := by rw [hW, sU_ne (fun z => by omega)]
      have r4_211 : W 4 211 = 1 * ρ 0 + (1 * ρ 1 + 0) := by rw [hW, sU_at]
      have r4_101 : W 4 101 = M 4 101 := by rw [hW, sU_ne (fun z => by omega)]
      have r4_102 : W 4 102 = M 4 102 := by rw [hW, sU_ne (fun z => by omega)]
      have r4_107 : W 4 107 = M 4 107 := by rw [hW, sU_ne (fun z => by omega)]
      have r4_108 : W 4 108 = M 4 108 := by rw [hW, sU_ne (fun z => by omega)]
      have c92 : ∀ k, W 92 k = M 92 k := fun k => by rw [hW, sU_ne (fun z => by omega)]
      have e92 : W 92 = M 92 := funext c92
      intro h
      rw [r4_211, r4_101, r4_102, r4_107, r4_108, e92]
      obtain ⟨u1, u2, u3⟩ := qxS8 (by omega)
      refine ⟨by omega, by omega, ?_⟩
      rw [← u3, m3, show (1 * ρ 0 + (1 * ρ 1 + 0)).toNat = (ρ 1).toNat + 1 by rw [h0]; omega, show (1 * ρ 1 + 0).toNat = (ρ 1).toNat by omega]
      exact (tto_on (by omega) (Or.inr hx)).symm
    have k_xS9 : xS9 W := by
      have r : W 4 212 = 0 := by
        have e := m1
        rw [hW, sU_ne (fun z => by omega)]
        omega
      intro h
      rw [r] at h
      omega
    have k_xSA : xSA W := by
      rw [hW]
      exact (uxSA rfl hI.2.2.2.2.2.2.2.2.2.2.2.2.2.2.2.2.2.2.2.2.2.2.2.2.2.2.2.2.2.2.1)
    have k_xSG : xSG W := by
      rw [hW]
      exact (uxSG rfl hI.2.2.2.2.2.2.2.2.2.2.2.2.2.2.2.2.2.2.2.2.2.2.2.2.2.2.2.2.2.2.2.1)
    have k_xSF : xSF W := by
      have r : W 4 233 = 0 := by
        have e := m2
        rw [hW, sU_ne (fun z => by omega)]
        omega
      intro h
      rw [r] at h
      omega
    have k_xSB : xSB W := by
      rw [hW]
      exact (uxSB rfl hI.2.2.2.2.2.2.2.2.2.2.2.2.2.2.2.2.2.2.2.2.2.2.2.2.2.2.2.2.2.2.2.2.2.1)
    have k_xSC : xSC W := by
      rw [hW]
      exact (uxSC rfl hI.2.2.2.2.2.2.2.2.2.2.2.2.2.2.2.2.2.2.2.2.2.2.2.2.2.2.2.2.2.2.2.2.2.2.1)
    have k_xSD : xSD W := by
      rw [hW]
      exact (uxSD rfl hI.2.2.2.2.2.2.2.2.2.2.2.2.2.2.2.2.2.2.2.2.2.2.2.2.2.2.2.2.2.2.2.2.2.2.2.1)
    have k_xSE : xSE W := by
      rw [hW]
      exact (uxSE rfl hI.2.2.2.2.2.2.2.2.2.2.2.2.2.2.2.2.2.2.2.2.2.2.2.2.2.2.2.2.2.2.2.2.2.2.2.2.1)
    have k_xSW : xSW W := by
      rw [hW]
      exact (uxSW rfl hI.2.2.2.2.2.2.2.2.2.2.2.2.2.2.2.2.2.2.2.2.2.2.2.2.2.2.2.2.2.2.2.2.2.2.2.2.2.1)
    have k_xST : xST W := by
      rw [hW]
      exact (uxST rfl hI.2.2.2.2.2.2.2.2.2.2.2.2.2.2.2.2.2.2.2.2.2.2.2.2.2.2.2.2.2.2.2.2.2.2.2.2.2.2.1)
    have k_xSP : xSP W := by
      rw [hW]
      exact (uxSP rfl hI.2.2.2.2.2.2.2.2.2.2.2.2.2.2.2.2.2.2.2.2.2.2.2.2.2.2.2.2.2.2.2.2.2.2.2.2.2.2.2.1)
    have k_xSL : xSL W := by
      rw [hW]
      exact (uxSL rfl hI.2.2.2.2.2.2.2.2.2.2.2.2.2.2.2.2.2.2.2.2.2.2.2.2.2.2.2.2.2.2.2.2.2.2.2.2.2.2.2.2.1)
    have k_xSM : xSM W := by
      rw [hW]
      exact (uxSM rfl hI.2.2.2.2.2.2.2.2.2.2.2.2.2.2.2.2.2.2.2.2.2.2.2.2.2.2.2.2.2.2.2.2.2.2.2.2.2.2.2.2.2.1)
    have k_xSI : xSI W := by
      rw [hW]
      exact (uxSI rfl hI.2.2.2.2.2.2.2.2.2.2.2.2.2.2.2.2.2.2.2.2.2.2.2.2.2.2.2.2.2.2.2.2.2.2.2.2.2.2.2.2.2.2)
    have k_XC : XC W := ⟨k_xS1, k_xS2, k_xS3, k_xS4, k_xS5, k_xS6, k_xS7, k_xS8, k_xS9, k_xSA, k_xSG, k_xSF, k_xSB, k_xSC, k_xSD, k_xSE, k_xSW, k_xST, k_xSP, k_xSL, k_xSM, k_xSI⟩
    have kXB : XB W := ⟨k_xN1, k_xN2, k_xN3, k_xN4, k_xN5, k_xN6, k_xH1, k_xK1, k_xC1, k_xRW, k_xWT, k_xCU, k_xG2, k_xG3, k_xG4, k_xG5, k_xG6, k_XC⟩
    exact ⟨base, k2, k3, kXA, kXB⟩
-- rblank32
def xr_142 : qRu := (6, [[(-1, 1), (1, 3)], [(1, 1), (-1, 3)], [(-1, 2), (1, 4)], [(1, 2), (-1, 4)], [(-32, 0), (1, 5)], [(32, 0), (-1, 5)], [(1, 1)], [(-1, 0), (-1, 1), (1, 2)]], [(4, 210, [(1, 0)]), (4, 212, []), (4, 233, []), (4, 211, [(1, 1)]), (4, 101, [(1, 2)]), (91, 27, [(1, 3)]), (91, 26, [(1, 4)]), (91, 990, [(1, 5)])], [], [(4, 211, [(1, 0), (1, 1)])], [])
theorem xo_142 : qRok xr_142 := by
  intro ρ M h0 hf hm hI
  have f0 := hf [(-1, 1), (1, 3)] (by decide)
  have f1 := hf [(1, 1), (-1, 3)] (by decide)
  have f2 := hf [(-1, 2), (1, 4)] (by decide)
  have f3 := hf [(1, 2), (-1, 4)] (by decide)
  have f4 := hf [(-32, 0), (1, 5)] (by decide)
  have f5 := hf [(32, 0), (-1, 5)] (by decide)
  have f6 := hf [(1, 1)] (by decide)
  have f7 := hf [(-1, 0), (-1, 1), (1, 2)] (by decide)
  simp only [qD, h0] at f0 f1 f2 f3 f4 f5 f6 f7
  have m0 : M 4 210 = 1 * ρ 0 + 0 := hm (4, 210, [(1, 0)]) (by decide)
  have m1 : M 4 212 = 0 := hm (4, 212, []) (by decide)
  have m2 : M 4 233 = 0 := hm (4, 233, []) (by decide)
  have m3 : M 4 211 = 1 * ρ 1 + 0 := hm (4, 211, [(1, 1)]) (by decide)
  have m4 : M 4 101 = 1 * ρ 2 + 0 := hm (4, 101, [(1, 2)]) (by decide)
  have m5 : M 91 27 = 1 * ρ 3 + 0 := hm (91, 27, [(1, 3)]) (by decide)
  have m6 : M 91 26 = 1 * ρ 4 + 0 := hm (91, 26, [(1, 4)]) (by decide)
  have m7 : M 91 990 = 1 * ρ 5 + 0 := hm (91, 990, [(1, 5)]) (by decide)
  simp only [h0] at m0
  have qxS8 := hI.2.2.2.2.2.2.2.2.2.2.2.2.2.2.2.2.2.2.2.2.2.2.2.2.2.2.2.2.1
  have hh := xs_hr hI (by omega)
  have hx : M 92 (ρ 1).toNat = 32 := by rw [show (ρ 1).toNat = (M 91 27).toNat by omega, ← hh]; omega
  refine ⟨ρ, fun _ _ => rfl, fun f h => ?_, ?_⟩
  · exact nomatch h
  · show sI (sU M 4 211 (1 * ρ 0 + (1 * ρ 1 + 0)))
    obtain ⟨W, hW⟩ : ∃ W, W = (sU M 4 211 (1 * ρ 0 + (1 * ρ 1 + 0))) := ⟨_, rfl⟩
    rw [← hW]
    have base : sI0 W := by
      rw [hW]
      exact (si_u0 hI.1 (fun r hr => by cases hr))
    have k2 : XI2 W := by
      rw [hW]
      exact (xi2_u rfl hI.2.1)
    have k3 : XI3 W := by
      rw [hW]
      exact (xi3_u rfl hI.2.2.1)
    have kXA : XA W := by
      rw [hW]
      exact (uXA rfl hI.2.2.2.1)
    have k_xN1 : xN1 W := by
      rw [hW]
      exact (uxN1 rfl hI.2.2.2.2.1)
    have k_xN2 : xN2 W := by
      rw [hW]
      exact (uxN2 rfl hI.2.2.2.2.2.1)
    have k_xN3 : xN3 W := by
      rw [hW]
      exact (uxN3 rfl hI.2.2.2.2.2.2.1)
    have k_xN4 : xN4 W := by
      rw [hW]
      exact (uxN4 rfl hI.2.2.2.2.2.2.2.1)
    have k_xN5 : xN5 W := by
      rw [hW]
      exact (uxN5 rfl hI.2.2.2.2.2.2.2.2.1)
    have k_xN6 : xN6 W := by
      rw [hW]
      exact (uxN6 rfl hI.2.2.2.2.2.2.2.2.2.1)
    have k_xH1 : xH1 W := by
      rw [hW]
      exact (uxH1 rfl hI.2.2.2.2.2.2.2.2.2.2.1)
    have k_xK1 : xK1 W := by
      rw [hW]
      exact (uxK1 rfl hI.2.2.2.2.2.2.2.2.2.2.2.1)
    have k_xC1 : xC1 W := by
      rw [hW]
      exact (uxC1 rfl hI.2.2.2.2.2.2.2.2.2.2.2.2.1)
    have k_xRW : xRW W := by
      rw [hW]
      exact (uxRW rfl hI.2.2.2.2.2.2.2.2.2.2.2.2.2.1)
    have k_xWT : xWT W := by
      rw [hW]
      exact (uxWT rfl hI.2.2.2.2.2.2.2.2.2.2.2.2.2.2.1)
    have k_xCU : xCU W := by
      rw [hW]
      exact (uxCU rfl hI.2.2.2.2.2.2.2.2.2.2.2.2.2.2.2.1)
    have k_xG2 : xG2 W := by
      rw [hW]
      exact (uxG2 rfl hI.2.2.2.2.2.2.2.2.2.2.2.2.2.2.2.2.1)
    have k_xG3 : xG3 W := by
      rw [hW]
      exact (uxG3 rfl hI.2.2.2.2.2.2.2.2.2.2.2.2.2.2.2.2.2.1)
    have k_xG4 : xG4 W := by
      rw [hW]
      exact (uxG4 rfl hI.2.2.2.2.2.2.2.2.2.2.2.2.2.2.2.2.2.2.1)
    have k_xG5 : xG5 W := by
      rw [hW]
      exact (uxG5 rfl hI.2.2.2.2.2.2.2.2.2.2.2.2.2.2.2.2.2.2.2.1)
    have k_xG6 : xG6 W := by
      rw [hW]
      exact (uxG6 rfl hI.2.2.2.2.2.2.2.2.2.2.2.2.2.2.2.2.2.2.2.2.1)
    have k_xS1 : xS1 W := by
      rw [hW]
      exact (uxS1 rfl hI.2.2.2.2.2.2.2.2.2.2.2.2.2.2.2.2.2.2.2.2.2.1)
    have k_xS2 : xS2 W := by
      rw [hW]
      exact (uxS2 rfl hI.2.2.2.2.2.2.2.2.2.2.2.2.2.2.2.2.2.2.2.2.2.2.1)
    have k_xS3 : xS3 W := by
      rw [hW]
      exact (uxS3 rfl hI.2.2.2.2.2.2.2.2.2.2.2.2.2.2.2.2.2.2.2.2.2.2.2.1)
    have k_xS4 : xS4 W := by
      rw [hW]
      exact (uxS4 rfl hI.2.2.2.2.2.2.2.2.2.2.2.2.2.2.2.2.2.2.2.2.2.2.2.2.1)
    have k_xS5 : xS5 W := by
      rw [hW]
      exact (uxS5 rfl hI.2.2.2.2.2.2.2.2.2.2.2.2.2.2.2.2.2.2.2.2.2.2.2.2.2.1)
    have k_xS6 : xS6 W := by
      rw [hW]
      exact (uxS6 rfl hI.2.2.2.2.2.2.2.2.2.2.2.2.2.2.2.2.2.2.2.2.2.2.2.2.2.2.1)
    have k_xS7 : xS7 W := by
      rw [hW]
      exact (uxS7 rfl hI.2.2.2.2.2.2.2.2.2.2.2.2.2.2.2.2.2.2.2.2.2.2.2.2.2.2.2.1)
    have k_xS8 : xS8 W := by
      have r4_210 : W 4 210 = M 4 210 := by rw [hW, sU_ne (fun z => by omega)]
      have r4_211 : W 4 211 = 1 * ρ 0 + (1 * ρ 1 + 0) := by rw [hW, sU_at]
      have r4_101 : W 4 101 = M 4 101 := by rw [hW, sU_ne (fun z => by omega)]
      have r4_102 : W 4 102 = M 4 102 := by rw [hW, sU_ne (fun z => by omega)]
      have r4_107 : W 4 107 = M 4 107 := by rw [hW, sU_ne (fun z => by omega)]
      have r4_108 : W 4 108 = M 4 108 := by rw [hW, sU_ne (fun z => by omega)]
      have c92 : ∀ k, W 92 k = M 92 k := fun k => by rw [hW, sU_ne (fun z => by omega)]
      have e92 : W 92 = M 92 := funext c92
      intro h
      rw [r4_211, r4_101, r4_102, r4_107, r4_108, e92]
      obtain ⟨u1, u2, u3⟩ := qxS8 (by omega)
      refine ⟨by omega, by omega, ?_⟩
      rw [← u3, m3, show (1 * ρ 0 + (1 * ρ 1 + 0)).toNat = (ρ 1).toNat + 1 by rw [h0]; omega, show (1 * ρ 1 + 0).toNat = (ρ 1).toNat by omega]
      exact (tto_on (by omega) (Or.inr hx)).symm
    have k_xS9 : xS9 W := by
      have r : W 4 212 = 0 := by
        have e := m1
        rw [hW, sU_ne (fun z => by omega)]
        omega
      intro h
      rw [r] at h
      omega
    have k_xSA : xSA W := by
      rw [hW]
      exact (uxSA rfl hI.2.2.2.2.2.2.2.2.2.2.2.2.2.2.2.2.2.2.2.2.2.2.2.2.2.2.2.2.2.2.1)
    have k_xSG : xSG W := by
      rw [hW]
      exact (uxSG rfl hI.2.2.2.2.2.2.2.2.2.2.2.2.2.2.2.2.2.2.2.2.2.2.2.2.2.2.2.2.2.2.2.1)
    have k_xSF : xSF W := by
      have r : W 4 233 = 0 := by
        have e := m2
        rw [hW, sU_ne (fun z => by omega)]
        omega
      intro h
      rw [r] at h
      omega
    have k_xSB : xSB W := by
      rw [hW]
      exact (uxSB rfl hI.2.2.2.2.2.2.2.2.2.2.2.2.2.2.2.2.2.2.2.2.2.2.2.2.2.2.2.2.2.2.2.2.2.1)
    have k_xSC : xSC W := by
      rw [hW]
      exact (uxSC rfl hI.2.2.2.2.2.2.2.2.2.2.2.2.2.2.2.2.2.2.2.2.2.2.2.2.2.2.2.2.2.2.2.2.2.2.1)
    have k_xSD : xSD W := by
      rw [hW]
      exact (uxSD rfl hI.2.2.2.2.2.2.2.2.2.2.2.2.2.2.2.2.2.2.2.2.2.2.2.2.2.2.2.2.2.2.2.2.2.2.2.1)
    have k_xSE : xSE W := by
      rw [hW]
      exact (uxSE rfl hI.2.2.2.2.2.2.2.2.2.2.2.2.2.2.2.2.2.2.2.2.2.2.2.2.2.2.2.2.2.2.2.2.2.2.2.2.1)
    have k_xSW : xSW W := by
      rw [hW]
      exact (uxSW rfl hI.2.2.2.2.2.2.2.2.2.2.2.2.2.2.2.2.2.2.2.2.2.2.2.2.2.2.2.2.2.2.2.2.2.2.2.2.2.1)
    have k_xST : xST W := by
      rw [hW]
      exact (uxST rfl hI.2.2.2.2.2.2.2.2.2.2.2.2.2.2.2.2.2.2.2.2.2.2.2.2.2.2.2.2.2.2.2.2.2.2.2.2.2.2.1)
    have k_xSP : xSP W := by
      rw [hW]
      exact (uxSP rfl hI.2.2.2.2.2.2.2.2.2.2.2.2.2.2.2.2.2.2.2.2.2.2.2.2.2.2.2.2.2.2.2.2.2.2.2.2.2.2.2.1)
    have k_xSL : xSL W := by
      rw [hW]
      exact (uxSL rfl hI.2.2.2.2.2.2.2.2.2.2.2.2.2.2.2.2.2.2.2.2.2.2.2.2.2.2.2.2.2.2.2.2.2.2.2.2.2.2.2.2.1)
    have k_xSM : xSM W := by
      rw [hW]
      exact (uxSM rfl hI.2.2.2.2.2.2.2.2.2.2.2.2.2.2.2.2.2.2.2.2.2.2.2.2.2.2.2.2.2.2.2.2.2.2.2.2.2.2.2.2.2.1)
    have k_xSI : xSI W := by
      rw [hW]
      exact (uxSI rfl hI.2.2.2.2.2.2.2.2.2.2.2.2.2.2.2.2.2.2.2.2.2.2.2.2.2.2.2.2.2.2.2.2.2.2.2.2.2.2.2.2.2.2)
    have k_XC : XC W := ⟨k_xS1, k_xS2, k_xS3, k_xS4, k_xS5, k_xS6, k_xS7, k_xS8, k_xS9, k_xSA, k_xSG, k_xSF, k_xSB, k_xSC, k_xSD, k_xSE, k_xSW, k_xST, k_xSP, k_xSL, k_xSM, k_xSI⟩
    have kXB : XB W := ⟨k_xN1, k_xN2, k_xN3, k_xN4, k_xN5, k_xN6, k_xH1, k_xK1, k_xC1, k_xRW, k_xWT, k_xCU, k_xG2, k_xG3, k_xG4, k_xG5, k_xG6, k_XC⟩
    exact ⟨base, k2, k3, kXA, kXB⟩
-- byteC
def xr_143 : qRu := (4, [[(1, 1)], [(-1, 0), (-1, 1), (1, 2)], [(1, 3)]], [(4, 100, [(1, 0)]), (4, 211, [(1, 1)]), (4, 101, [(1, 2)]), (1, 1001, [(1, 3)])], [], [(4, 212, [(1, 0)]), (4, 213, [(1, 3)])], [[(1, 3)], [(255, 0), (-1, 3)]])
theorem xo_143 : qRok xr_143 := by
  intro ρ M h0 hf hm hI
  have f0 := hf [(1, 1)] (by decide)
  have f1 := hf [(-1, 0), (-1, 1), (1, 2)] (by decide)
  have f2 := hf [(1, 3)] (by decide)
  simp only [qD, h0] at f0 f1 f2
  have m0 : M 4 100 = 1 * ρ 0 + 0 := hm (4, 100, [(1, 0)]) (by decide)
  have m1 : M 4 211 = 1 * ρ 1 + 0 := hm (4, 211, [(1, 1)]) (by decide)
  have m2 : M 4 101 = 1 * ρ 2 + 0 := hm (4, 101, [(1, 2)]) (by decide)
  have m3 : M 1 (zIx ρ (1000 + 1)) = 1 * ρ 3 + 0 := hm (1, 1001, [(1, 3)]) (by decide)
  rw [zix_p] at m3
  simp only [h0] at m0
  have qxS9 := hI.2.2.2.2.2.2.2.2.2.2.2.2.2.2.2.2.2.2.2.2.2.2.2.2.2.2.2.2.2.1
  have hb := xs_by hI (by omega) (k := (ρ 1).toNat) (by omega)
  refine ⟨ρ, fun _ _ => rfl, fun f h => ?_, ?_⟩
  · have h : f ∈ ([[(1, 3)], [(255, 0), (-1, 3)]] : List qF) := h
    simp only [List.mem_cons, List.not_mem_nil, or_false] at h
    rcases h with rfl | rfl
    · show 0 ≤ 1 * ρ 3 + 0
      (try rw [h0]); omega
    · show 0 ≤ 255 * ρ 0 + (-1 * ρ 3 + 0)
      (try rw [h0]); omega
  · show sI (sU (sU M 4 212 (1 * ρ 0 + 0)) 4 213 (1 * ρ 3 + 0))
    obtain ⟨W, hW⟩ : ∃ W, W = (sU (sU M 4 212 (1 * ρ 0 + 0)) 4 213 (1 * ρ 3 + 0)) := ⟨_, rfl⟩
    rw [← hW]
    have base : sI0 W := by
      rw [hW]
      exact (si_u0 (si_u0 hI.1 (fun r hr => by cases hr)) (fun r hr => by cases hr))
    have k2 : XI2 W := by
      rw [hW]
      exact (xi2_u rfl (xi2_u rfl hI.2.1))
    have k3 : XI3 W := by
      rw [hW]
      exact (xi3_u rfl (xi3_u rfl hI.2.2.1))
    have kXA : XA W := by
      rw [hW]
      exact (uXA rfl (uXA rfl hI.2.2.2.1))
    have k_xN1 : xN1 W := by
      rw [hW]
      exact (uxN1 rfl (uxN1 rfl hI.2.2.2.2.1))
    have k_xN2 : xN2 W := by
      rw [hW]
      exact (uxN2 rfl (uxN2 rfl hI.2.2.2.2.2.1))
    have k_xN3 : xN3 W := by
      rw [hW]
      exact (uxN3 rfl (uxN3 rfl hI.2.2.2.2.2.2.1))
    have k_xN4 : xN4 W := by
      rw [hW]
      exact (uxN4 rfl (uxN4 rfl hI.2.2.2.2.2.2.2.1))
    have k_xN5 : xN5 W := by
      rw [hW]
      exact (uxN5 rfl (uxN5 rfl hI.2.2.2.2.2.2.2.2.1))
    have k_xN6 : xN6 W := by
      rw [hW]
      exact (uxN6 rfl (uxN6 rfl hI.2.2.2.2.2.2.2.2.2.1))
    have k_xH1 : xH1 W := by
      rw [hW]
      exact (uxH1 rfl (uxH1 rfl hI.2.2.2.2.2.2.2.2.2.2.1))
    have k_xK1 : xK1 W := by
      rw [hW]
      exact (uxK1 rfl (uxK1 rfl hI.2.2.2.2.2.2.2.2.2.2.2.1))
    have k_xC1 : xC1 W := by
      rw [hW]
      exact (uxC1 rfl (uxC1 rfl hI.2.2.2.2.2.2.2.2.2.2.2.2.1))
    have k_xRW : xRW W := by
      rw [hW]
      exact (uxRW rfl (uxRW rfl hI.2.2.2.2.2.2.2.2.2.2.2.2.2.1))
    have k_xWT : xWT W := by
      rw [hW]
      exact (uxWT rfl (uxWT rfl hI.2.2.2.2.2.2.2.2.2.2.2.2.2.2.1))
    have k_xCU : xCU W := by
      rw [hW]
      exact (uxCU rfl (uxCU rfl hI.2.2.2.2.2.2.2.2.2.2.2.2.2.2.2.1))
    have k_xG2 : xG2 W := by
      rw [hW]
      exact (uxG2 rfl (uxG2 rfl hI.2.2.2.2.2.2.2.2.2.2.2.2.2.2.2.2.1))
    have k_xG3 : xG3 W := by
      rw [hW]
      exact (uxG3 rfl (uxG3 rfl hI.2.2.2.2.2.2.2.2.2.2.2.2.2.2.2.2.2.1))
    have k_xG4 : xG4 W := by
      rw [hW]
      exact (uxG4 rfl (uxG4 rfl hI.2.2.2.2.2.2.2.2.2.2.2.2.2.2.2.2.2.2.1))
    have k_xG5 : xG5 W := by
      rw [hW]
      exact (uxG5 rfl (uxG5 rfl hI.2.2.2.2.2.2.2.2.2.2.2.2.2.2.2.2.2.2.2.1))
    have k_xG6 : xG6 W := by
      rw [hW]
      exact (uxG6 rfl (uxG6 rfl hI.2.2.2.2.2.2.2.2.2.2.2.2.2.2.2.2.2.2.2.2.1))
    have k_xS1 : xS1 W := by
      rw [hW]
      exact (uxS1 rfl (uxS1 rfl hI.2.2.2.2.2.2.2.2.2.2.2.2.2.2.2.2.2.2.2.2.2.1))
    have k_xS2 : xS2 W := by
      rw [hW]
      exact (uxS2 rfl (uxS2 rfl hI.2.2.2.2.2.2.2.2.2.2.2.2.2.2.2.2.2.2.2.2.2.2.1))
    have k_xS3 : xS3 W := by
      rw [hW]
      exact (uxS3 rfl (uxS3 rfl hI.2.2.2.2.2.2.2.2.2.2.2.2.2.2.2.2.2.2.2.2.2.2.2.1))
    have k_xS4 : xS4 W := by
      rw [hW]
      exact (uxS4 rfl (uxS4 rfl hI.2.2.2.2.2.2.2.2.2.2.2.2.2.2.2.2.2.2.2.2.2.2.2.2.1))
    have k_xS5 : xS5 W := by
      rw [hW]
      exact (uxS5 rfl (uxS5 rfl hI.2.2.2.2.2.2.2.2.2.2.2.2.2.2.2.2.2.2.2.2.2.2.2.2.2.1))
    have k_xS6 : xS6 W := by
      rw [hW]
      exact (uxS6 rfl (uxS6 rfl hI.2.2.2.2.2.2.2.2.2.2.2.2.2.2.2.2.2.2.2.2.2.2.2.2.2.2.1))
    have k_xS7 : xS7 W := by
      rw [hW]
      exact (uxS7 rfl (uxS7 rfl hI.2.2.2.2.2.2.2.2.2.2.2.2.2.2.2.2.2.2.2.2.2.2.2.2.2.2.2.1))
    have k_xS8 : xS8 W := by
      rw [hW]
      exact (uxS8 rfl (uxS8 rfl hI.2.2.2.2.2.2.2.2.2.2.2.2.2.2.2.2.2.2.2.2.2.2.2.2.2.2.2.2.1))
    have k_xS9 : xS9 W := by
      have r4_212 : W 4 212 = 1 * ρ 0 + 0 := by rw [hW, sU_ne (fun z => by omega), sU_at]
      have r4_213 : W 4 213 = 1 * ρ 3 + 0 := by rw [hW, sU_at]
      have r4_211 : W 4 211 = M 4 211 := by rw [hW, sU_ne (fun z => by omega), sU_ne (fun z => by omega)]
      have c92 : ∀ k, W 92 k = M 92 k := fun k => by rw [hW, sU_ne (fun z => by omega), sU_ne (fun z => by omega)]
      have e92 : W 92 = M 92 := funext c92
      intro h
      rw [r4_213, r4_211, e92, m1, show (1 * ρ 1 + 0).toNat = (ρ 1).toNat by omega]
      (try rw [h0])
      omega
    have k_xSA : xSA W := by
      rw [hW]
      exact (uxSA rfl (uxSA rfl hI.2.2.2.2.2.2.2.2.2.2.2.2.2.2.2.2.2.2.2.2.2.2.2.2.2.2.2.2.2.2.1))
    have k_xSG : xSG W := by
      rw [hW]
      exact (uxSG rfl (uxSG rfl hI.2.2.2.2.2.2.2.2.2.2.2.2.2.2.2.2.2.2.2.2.2.2.2.2.2.2.2.2.2.2.2.1))
    have k_xSF : xSF W := by
      rw [hW]
      exact (uxSF rfl (uxSF rfl hI.2.2.2.2.2.2.2.2.2.2.2.2.2.2.2.2.2.2.2.2.2.2.2.2.2.2.2.2.2.2.2.2.1))
    have k_xSB : xSB W := by
      rw [hW]
      exact (uxSB rfl (uxSB rfl hI.2.2.2.2.2.2.2.2.2.2.2.2.2.2.2.2.2.2.2.2.2.2.2.2.2.2.2.2.2.2.2.2.2.1))
    have k_xSC : xSC W := by
      rw [hW]
      exact (uxSC rfl (uxSC rfl hI.2.2.2.2.2.2.2.2.2.2.2.2.2.2.2.2.2.2.2.2.2.2.2.2.2.2.2.2.2.2.2.2.2.2.1))
    have k_xSD : xSD W := by
      rw [hW]
      exact (uxSD rfl (uxSD rfl hI.2.2.2.2.2.2.2.2.2.2.2.2.2.2.2.2.2.2.2.2.2.2.2.2.2.2.2.2.2.2.2.2.2.2.2.1))
    have k_xSE : xSE W := by
      rw [hW]
      exact (uxSE rfl (uxSE rfl hI.2.2.2.2.2.2.2.2.2.2.2.2.2.2.2.2.2.2.2.2.2.2.2.2.2.2.2.2.2.2.2.2.2.2.2.2.1))
    have k_xSW : xSW W := by
      rw [hW]
      exact (uxSW rfl (uxSW rfl hI.2.2.2.2.2.2.2.2.2.2.2.2.2.2.2.2.2.2.2.2.2.2.2.2.2.2.2.2.2.2.2.2.2.2.2.2.2.1))
    have k_xST : xST W := by
      rw [hW]
      exact (uxST rfl (uxST rfl hI.2.2.2.2.2.2.2.2.2.2.2.2.2.2.2.2.2.2.2.2.2.2.2.2.2.2.2.2.2.2.2.2.2.2.2.2.2.2.1))
    have k_xSP : xSP W := by
      rw [hW]
      exact (uxSP rfl (uxSP rfl hI.2.2.2.2.2.2.2.2.2.2.2.2.2.2.2.2.2.2.2.2.2.2.2.2.2.2.2.2.2.2.2.2.2.2.2.2.2.2.2.1))
    have k_xSL : xSL W := by
      rw [hW]
      exact (uxSL rfl (uxSL rfl hI.2.2.2.2.2.2.2.2.2.2.2.2.2.2.2.2.2.2.2.2.2.2.2.2.2.2.2.2.2.2.2.2.2.2.2.2.2.2.2.2.1))
    have k_xSM : xSM W := by
      rw [hW]
      exact (uxSM rfl (uxSM rfl hI.2.2.2.2.2.2.2.2.2.2.2.2.2.2.2.2.2.2.2.2.2.2.2.2.2.2.2.2.2.2.2.2.2.2.2.2.2.2.2.2.2.1))
    have k_xSI : xSI W := by
      rw [hW]
      exact (uxSI rfl (uxSI rfl hI.2.2.2.2.2.2.2.2.2.2.2.2.2.2.2.2.2.2.2.2.2.2.2.2.2.2.2.2.2.2.2.2.2.2.2.2.2.2.2.2.2.2))
    have k_XC : XC W := ⟨k_xS1, k_xS2, k_xS3, k_xS4, k_xS5, k_xS6, k_xS7, k_xS8, k_xS9, k_xSA, k_xSG, k_xSF, k_xSB, k_xSC, k_xSD, k_xSE, k_xSW, k_xST, k_xSP, k_xSL, k_xSM, k_xSI⟩
    have kXB : XB W := ⟨k_xN1, k_xN2, k_xN3, k_xN4, k_xN5, k_xN6, k_xH1, k_xK1, k_xC1, k_xRW, k_xWT, k_xCU, k_xG2, k_xG3, k_xG4, k_xG5, k_xG6, k_XC⟩
    exact ⟨base, k2, k3, kXA, kXB⟩
-- secondC
def xr_144 : qRu := (5, [[(1, 1)], [(-2, 0), (-1, 1), (1, 2)], [(-1, 0), (-1, 1), (1, 4)], [(1, 0), (1, 1), (-1, 4)], [(1, 3)]], [(4, 100, [(1, 0)]), (4, 211, [(1, 1)]), (4, 101, [(1, 2)]), (1, 1004, [(1, 3)])], [], [(4, 233, [(1, 0)]), (4, 234, [(1, 3)])], [])
theorem xo_144 : qRok xr_144 := by
  intro ρ M h0 hf hm hI
  have f0 := hf [(1, 1)] (by decide)
  have f1 := hf [(-2, 0), (-1, 1), (1, 2)] (by decide)
  have f2 := hf [(-1, 0), (-1, 1), (1, 4)] (by decide)
  have f3 := hf [(1, 0), (1, 1), (-1, 4)] (by decide)
  have f4 := hf [(1, 3)] (by decide)
  simp only [qD, h0] at f0 f1 f2 f3 f4
  have m0 : M 4 100 = 1 * ρ 0 + 0 := hm (4, 100, [(1, 0)]) (by decide)
  have m1 : M 4 211 = 1 * ρ 1 + 0 := hm (4, 211, [(1, 1)]) (by decide)
  have m2 : M 4 101 = 1 * ρ 2 + 0 := hm (4, 101, [(1, 2)]) (by decide)
  have m3 : M 1 (zIx ρ (1000 + 4)) = 1 * ρ 3 + 0 := hm (1, 1004, [(1, 3)]) (by decide)
  rw [zix_p] at m3
  simp only [h0] at m0
  have qxSF := hI.2.2.2.2.2.2.2.2.2.2.2.2.2.2.2.2.2.2.2.2.2.2.2.2.2.2.2.2.2.2.2.2.1
  have hb := xs_by hI (by omega) (k := (ρ 4).toNat) (by omega)
  refine ⟨ρ, fun _ _ => rfl, fun f h => ?_, ?_⟩
  · exact nomatch h
  · show sI (sU (sU M 4 233 (1 * ρ 0 + 0)) 4 234 (1 * ρ 3 + 0))
    obtain ⟨W, hW⟩ : ∃ W, W = (sU (sU M 4 233 (1 * ρ 0 + 0)) 4 234 (1 * ρ 3 + 0)) := ⟨_, rfl⟩
    rw [← hW]
    have base : sI0 W := by
      rw [hW]
      exact (si_u0 (si_u0 hI.1 (fun r hr => by cases hr)) (fun r hr => by cases hr))
    have k2 : XI2 W := by
      rw [hW]
      exact (xi2_u rfl (xi2_u rfl hI.2.1))
    have k3 : XI3 W := by
      rw [hW]
      exact (xi3_u rfl (xi3_u rfl hI.2.2.1))
    have kXA : XA W := by
      rw [hW]
      exact (uXA rfl (uXA rfl hI.2.2.2.1))
    have k_xN1 : xN1 W := by
      rw [hW]
      exact (uxN1 rfl (uxN1 rfl hI.2.2.2.2.1))
    have k_xN2 : xN2 W := by
      rw [hW]
      exact (uxN2 rfl (uxN2 rfl hI.2.2.2.2.2.1))
    have k_xN3 : xN3 W := by
      rw [hW]
      exact (uxN3 rfl (uxN3 rfl hI.2.2.2.2.2.2.1))
    have k_xN4 : xN4 W := by
      rw [hW]
      exact (uxN4 rfl (uxN4 rfl hI.2.2.2.2.2.2.2.1))
    have k_xN5 : xN5 W := by
      rw [hW]
      exact (uxN5 rfl (uxN5 rfl hI.2.2.2.2.2.2.2.2.1))
    have k_xN6 : xN6 W := by
      rw [hW]
      exact (uxN6 rfl (uxN6 rfl hI.2.2.2.2.2.2.2.2.2.1))
    have k_xH1 : xH1 W := by
      rw [hW]
      exact (uxH1 rfl (uxH1 rfl hI.2.2.2.2.2.2.2.2.2.2.1))
    have k_xK1 : xK1 W := by
      rw [hW]
      exact (uxK1 rfl (uxK1 rfl hI.2.2.2.2.2.2.2.2.2.2.2.1))
    have k_xC1 : xC1 W := by
      rw [hW]
      exact (uxC1 rfl (uxC1 rfl hI.2.2.2.2.2.2.2.2.2.2.2.2.1))
    have k_xRW : xRW W := by
      rw [hW]
      exact (uxRW rfl (uxRW rfl hI.2.2.2.2.2.2.2.2.2.2.2.2.2.1))
    have k_xWT : xWT W := by
      rw [hW]
      exact (uxWT rfl (uxWT rfl hI.2.2.2.2.2.2.2.2.2.2.2.2.2.2.1))
    have k_xCU : xCU W := by
      rw [hW]
      exact (uxCU rfl (uxCU rfl hI.2.2.2.2.2.2.2.2.2.2.2.2.2.2.2.1))
    have k_xG2 : xG2 W := by
      rw [hW]
      exact (uxG2 rfl (uxG2 rfl hI.2.2.2.2.2.2.2.2.2.2.2.2.2.2.2.2.1))
    have k_xG3 : xG3 W := by
      rw [hW]
      exact (uxG3 rfl (uxG3 rfl hI.2.2.2.2.2.2.2.2.2.2.2.2.2.2.2.2.2.1))
    have k_xG4 : xG4 W := by
      rw [hW]
      exact (uxG4 rfl (uxG4 rfl hI.2.2.2.2.2.2.2.2.2.2.2.2.2.2.2.2.2.2.1))
    have k_xG5 : xG5 W := by
      rw [hW]
      exact (uxG5 rfl (uxG5 rfl hI.2.2.2.2.2.2.2.2.2.2.2.2.2.2.2.2.2.2.2.1))
    have k_xG6 : xG6 W := by
      rw [hW]
      exact (uxG6 rfl (uxG6 rfl hI.2.2.2.2.2.2.2.2.2.2.2.2.2.2.2.2.2.2.2.2.1))
    have k_xS1 : xS1 W := by
      rw [hW]
      exact (uxS1 rfl (uxS1 rfl hI.2.2.2.2.2.2.2.2.2.2.2.2.2.2.2.2.2.2.2.2.2.1))
    have k_xS2 : xS2 W := by
      rw [hW]
      exact (uxS2 rfl (uxS2 rfl hI.2.2.2.2.2.2.2.2.2.2.2.2.2.2.2.2.2.2.2.2.2.2.1))
    have k_xS3 : xS3 W := by
      rw [hW]
      exact (uxS3 rfl (uxS3 rfl hI.2.2.2.2.2.2.2.2.2.2.2.2.2.2.2.2.2.2.2.2.2.2.2.1))
    have k_xS4 : xS4 W := by
      rw [hW]
      exact (uxS4 rfl (uxS4 rfl hI.2.2.2.2.2.2.2.2.2.2.2.2.2.2.2.2.2.2.2.2.2.2.2.2.1))
    have k_xS5 : xS5 W := by
      rw [hW]
      exact (uxS5 rfl (uxS5 rfl hI.2.2.2.2.2.2.2.2.2.2.2.2.2.2.2.2.2.2.2.2.2.2.2.2.2.1))
    have k_xS6 : xS6 W := by
      rw [hW]
      exact (uxS6 rfl (uxS6 rfl hI.2.2.2.2.2.2.2.2.2.2.2.2.2.2.2.2.2.2.2.2.2.2.2.2.2.2.1))
    have k_xS7 : xS7 W := by
      rw [hW]
      exact (uxS7 rfl (uxS7 rfl hI.2.2.2.2.2.2.2.2.2.2.2.2.2.2.2.2.2.2.2.2.2.2.2.2.2.2.2.1))
    have k_xS8 : xS8 W := by
      rw [hW]
      exact (uxS8 rfl (uxS8 rfl hI.2.2.2.2.2.2.2.2.2.2.2.2.2.2.2.2.2.2.2.2.2.2.2.2.2.2.2.2.1))
    have k_xS9 : xS9 W := by
      rw [hW]
      exact (uxS9 rfl (uxS9 rfl hI.2.2.2.2.2.2.2.2.2.2.2.2.2.2.2.2.2.2.2.2.2.2.2.2.2.2.2.2.2.1))
    have k_xSA : xSA W := by
      rw [hW]
      exact (uxSA rfl (uxSA rfl hI.2.2.2.2.2.2.2.2.2.2.2.2.2.2.2.2.2.2.2.2.2.2.2.2.2.2.2.2.2.2.1))
    have k_xSG : xSG W := by
      rw [hW]
      exact (uxSG rfl (uxSG rfl hI.2.2.2.2.2.2.2.2.2.2.2.2.2.2.2.2.2.2.2.2.2.2.2.2.2.2.2.2.2.2.2.1))
    have k_xSF : xSF W := by
      have r4_233 : W 4 233 = 1 * ρ 0 + 0 := by rw [hW, sU_ne (fun z => by omega), sU_at]
      have r4_234 : W 4 234 = 1 * ρ 3 + 0 := by rw [hW, sU_at]
      have r4_211 : W 4 211 = M 4 211 := by rw [hW, sU_ne (fun z => by omega), sU_ne (fun z => by omega)]
      have c92 : ∀ k, W 92 k = M 92 k := fun k => by rw [hW, sU_ne (fun z => by omega), sU_ne (fun z => by omega)]
      have e92 : W 92 = M 92 := funext c92
      intro h
      rw [r4_234, r4_211, e92, m1, show (1 * ρ 1 + 0).toNat + 1 = (ρ 4).toNat by omega]
      (try rw [h0])
      omega
    have k_xSB : xSB W := by
      rw [hW]
      exact (uxSB rfl (uxSB rfl hI.2.2.2.2.2.2.2.2.2.2.2.2.2.2.2.2.2.2.2.2.2.2.2.2.2.2.2.2.2.2.2.2.2.1))
    have k_xSC : xSC W := by
      rw [hW]
      exact (uxSC rfl (uxSC rfl hI.2.2.2.2.2.2.2.2.2.2.2.2.2.2.2.2.2.2.2.2.2.2.2.2.2.2.2.2.2.2.2.2.2.2.1))
    have k_xSD : xSD W := by
      rw [hW]
      exact (uxSD rfl (uxSD rfl hI.2.2.2.2.2.2.2.2.2.2.2.2.2.2.2.2.2.2.2.2.2.2.2.2.2.2.2.2.2.2.2.2.2.2.2.1))
    have k_xSE : xSE W := by
      rw [hW]
      exact (uxSE rfl (uxSE rfl hI.2.2.2.2.2.2.2.2.2.2.2.2.2.2.2.2.2.2.2.2.2.2.2.2.2.2.2.2.2.2.2.2.2.2.2.2.1))
    have k_xSW : xSW W := by
      rw [hW]
      exact (uxSW rfl (uxSW rfl hI.2.2.2.2.2.2.2.2.2.2.2.2.2.2.2.2.2.2.2.2.2.2.2.2.2.2.2.2.2.2.2.2.2.2.2.2.2.1))
    have k_xST : xST W := by
      rw [hW]
      exact (uxST rfl (uxST rfl hI.2.2.2.2.2.2.2.2.2.2.2.2.2.2.2.2.2.2.2.2.2.2.2.2.2.2.2.2.2.2.2.2.2.2.2.2.2.2.1))
    have k_xSP : xSP W := by
      rw [hW]
      exact (uxSP rfl (uxSP rfl hI.2.2.2.2.2.2.2.2.2.2.2.2.2.2.2.2.2.2.2.2.2.2.2.2.2.2.2.2.2.2.2.2.2.2.2.2.2.2.2.1))
    have k_xSL : xSL W := by
      rw [hW]
      exact (uxSL rfl (uxSL rfl hI.2.2.2.2.2.2.2.2.2.2.2.2.2.2.2.2.2.2.2.2.2.2.2.2.2.2.2.2.2.2.2.2.2.2.2.2.2.2.2.2.1))
    have k_xSM : xSM W := by
      rw [hW]
      exact (uxSM rfl (uxSM rfl hI.2.2.2.2.2.2.2.2.2.2.2.2.2.2.2.2.2.2.2.2.2.2.2.2.2.2.2.2.2.2.2.2.2.2.2.2.2.2.2.2.2.1))
    have k_xSI : xSI W := by
      rw [hW]
      exact (uxSI rfl (uxSI rfl hI.2.2.2.2.2.2.2.2.2.2.2.2.2.2.2.2.2.2.2.2.2.2.2.2.2.2.2.2.2.2.2.2.2.2.2.2.2.2.2.2.2.2))
    have k_XC : XC W := ⟨k_xS1, k_xS2, k_xS3, k_xS4, k_xS5, k_xS6, k_xS7, k_xS8, k_xS9, k_xSA, k_xSG, k_xSF, k_xSB, k_xSC, k_xSD, k_xSE, k_xSW, k_xST, k_xSP, k_xSL, k_xSM, k_xSI⟩
    have kXB : XB W := ⟨k_xN1, k_xN2, k_xN3, k_xN4, k_xN5, k_xN6, k_xH1, k_xK1, k_xC1, k_xRW, k_xWT, k_xCU, k_xG2, k_xG3, k_xG4, k_xG5, k_xG6, k_XC⟩
    exact ⟨base, k2, k3, kXA, kXB⟩
-- byteN
def xr_145 : qRu := (4, [[(1, 1)], [(-1, 0), (-1, 1), (1, 2)], [(-1, 0), (-1, 3)]], [(4, 100, [(1, 0)]), (4, 211, [(1, 1)]), (4, 101, [(1, 2)]), (1, 1001, [(1, 3)])], [], [(4, 212, [(1, 0)]), (4, 213, [(256, 0), (1, 3)])], [[(128, 0), (1, 3)], [(-1, 0), (-1, 3)]])
theorem xo_145 : qRok xr_145 := by
  intro ρ M h0 hf hm hI
  have f0 := hf [(1, 1)] (by decide)
  have f1 := hf [(-1, 0), (-1, 1), (1, 2)] (by decide)
  have f2 := hf [(-1, 0), (-1, 3)] (by decide)
  simp only [qD, h0] at f0 f1 f2
  have m0 : M 4 100 = 1 * ρ 0 + 0 := hm (4, 100, [(1, 0)]) (by decide)
  have m1 : M 4 211 = 1 * ρ 1 + 0 := hm (4, 211, [(1, 1)]) (by decide)
  have m2 : M 4 101 = 1 * ρ 2 + 0 := hm (4, 101, [(1, 2)]) (by decide)
  have m3 : M 1 (zIx ρ (1000 + 1)) = 1 * ρ 3 + 0 := hm (1, 1001, [(1, 3)]) (by decide)
  rw [zix_p] at m3
  simp only [h0] at m0
  have qxS9 := hI.2.2.2.2.2.2.2.2.2.2.2.2.2.2.2.2.2.2.2.2.2.2.2.2.2.2.2.2.2.1
  have hb := xs_by hI (by omega) (k := (ρ 1).toNat) (by omega)

  have hs : M 1 (ρ 1).toNat = tSn (M 92 (ρ 1).toNat) := (gx_xS1 hI (by omega)).2.2 _ (by omega)
  unfold tSn at hs
  have hs2 : -128 ≤ M 1 (ρ 1).toNat := by split at hs <;> omega
  refine ⟨ρ, fun _ _ => rfl, fun f h => ?_, ?_⟩
  · have h : f ∈ ([[(128, 0), (1, 3)], [(-1, 0), (-1, 3)]] : List qF) := h
    simp only [List.mem_cons, List.not_mem_nil, or_false] at h
    rcases h with rfl | rfl
    · show 0 ≤ 128 * ρ 0 + (1 * ρ 3 + 0)
      (try rw [h0]); omega
    · show 0 ≤ -1 * ρ 0 + (-1 * ρ 3 + 0)
      (try rw [h0]); omega
  · show sI (sU (sU M 4 212 (1 * ρ 0 + 0)) 4 213 (256 * ρ 0 + (1 * ρ 3 + 0)))
    obtain ⟨W, hW⟩ : ∃ W, W = (sU (sU M 4 212 (1 * ρ 0 + 0)) 4 213 (256 * ρ 0 + (1 * ρ 3 + 0))) := ⟨_, rfl⟩
    rw [← hW]
    have base : sI0 W := by
      rw [hW]
      exact (si_u0 (si_u0 hI.1 (fun r hr => by cases hr)) (fun r hr => by cases hr))
    have k2 : XI2 W := by
      rw [hW]
      exact (xi2_u rfl (xi2_u rfl hI.2.1))
    have k3 : XI3 W := by
      rw [hW]
      exact (xi3_u rfl (xi3_u rfl hI.2.2.1))
    have kXA : XA W := by
      rw [hW]
      exact (uXA rfl (uXA rfl hI.2.2.2.1))
    have k_xN1 : xN1 W := by
      rw [hW]
      exact (uxN1 rfl (uxN1 rfl hI.2.2.2.2.1))
    have k_xN2 : xN2 W := by
      rw [hW]
      exact (uxN2 rfl (uxN2 rfl hI.2.2.2.2.2.1))
    have k_xN3 : xN3 W := by
      rw [hW]
      exact (uxN3 rfl (uxN3 rfl hI.2.2.2.2.2.2.1))
    have k_xN4 : xN4 W := by
      rw [hW]
      exact (uxN4 rfl (uxN4 rfl hI.2.2.2.2.2.2.2.1))
    have k_xN5 : xN5 W := by
      rw [hW]
      exact (uxN5 rfl (uxN5 rfl hI.2.2.2.2.2.2.2.2.1))
    have k_xN6 : xN6 W := by
      rw [hW]
      exact (uxN6 rfl (uxN6 rfl hI.2.2.2.2.2.2.2.2.2.1))
    have k_xH1 : xH1 W := by
      rw [hW]
      exact (uxH1 rfl (uxH1 rfl hI.2.2.2.2.2.2.2.2.2.2.1))
    have k_xK1 : xK1 W := by
      rw [hW]
      exact (uxK1 rfl (uxK1 rfl hI.2.2.2.2.2.2.2.2.2.2.2.1))
    have k_xC1 : xC1 W := by
      rw [hW]
      exact (uxC1 rfl (uxC1 rfl hI.2.2.2.2.2.2.2.2.2.2.2.2.1))
    have k_xRW : xRW W := by
      rw [hW]
      exact (uxRW rfl (uxRW rfl hI.2.2.2.2.2.2.2.2.2.2.2.2.2.1))
    have k_xWT : xWT W := by
      rw [hW]
      exact (uxWT rfl (uxWT rfl hI.2.2.2.2.2.2.2.2.2.2.2.2.2.2.1))
    have k_xCU : xCU W := by
      rw [hW]
      exact (uxCU rfl (uxCU rfl hI.2.2.2.2.2.2.2.2.2.2.2.2.2.2.2.1))
    have k_xG2 : xG2 W := by
      rw [hW]
      exact (uxG2 rfl (uxG2 rfl hI.2.2.2.2.2.2.2.2.2.2.2.2.2.2.2.2.1))
    have k_xG3 : xG3 W := by
      rw [hW]
      exact (uxG3 rfl (uxG3 rfl hI.2.2.2.2.2.2.2.2.2.2.2.2.2.2.2.2.2.1))
    have k_xG4 : xG4 W := by
      rw [hW]
      exact (uxG4 rfl (uxG4 rfl hI.2.2.2.2.2.2.2.2.2.2.2.2.2.2.2.2.2.2.1))
    have k_xG5 : xG5 W := by
      rw [hW]
      exact (uxG5 rfl (uxG5 rfl hI.2.2.2.2.2.2.2.2.2.2.2.2.2.2.2.2.2.2.2.1))
    have k_xG6 : xG6 W := by
      rw [hW]
      exact (uxG6 rfl (uxG6 rfl hI.2.2.2.2.2.2.2.2.2.2.2.2.2.2.2.2.2.2.2.2.1))
    have k_xS1 : xS1 W := by
      rw [hW]
      exact (uxS1 rfl (uxS1 rfl hI.2.2.2.2.2.2.2.2.2.2.2.2.2.2.2.2.2.2.2.2.2.1))
    have k_xS2 : xS2 W := by
      rw [hW]
      exact (uxS2 rfl (uxS2 rfl hI.2.2.2.2.2.2.2.2.2.2.2.2.2.2.2.2.2.2.2.2.2.2.1))
    have k_xS3 : xS3 W := by
      rw [hW]
      exact (uxS3 rfl (uxS3 rfl hI.2.2.2.2.2.2.2.2.2.2.2.2.2.2.2.2.2.2.2.2.2.2.2.1))
    have k_xS4 : xS4 W := by
      rw [hW]
      exact (uxS4 rfl (uxS4 rfl hI.2.2.2.2.2.2.2.2.2.2.2.2.2.2.2.2.2.2.2.2.2.2.2.2.1))
    have k_xS5 : xS5 W := by
      rw [hW]
      exact (uxS5 rfl (uxS5 rfl hI.2.2.2.2.2.2.2.2.2.2.2.2.2.2.2.2.2.2.2.2.2.2.2.2.2.1))
    have k_xS6 : xS6 W := by
      rw [hW]
      exact (uxS6 rfl (uxS6 rfl hI.2.2.2.2.2.2.2.2.2.2.2.2.2.2.2.2.2.2.2.2.2.2.2.2.2.2.1))
    have k_xS7 : xS7 W := by
      rw [hW]
      exact (uxS7 rfl (uxS7 rfl hI.2.2.2.2.2.2.2.2.2.2.2.2.2.2.2.2.2.2.2.2.2.2.2.2.2.2.2.1))
    have k_xS8 : xS8 W := by
      rw [hW]
      exact (uxS8 rfl (uxS8 rfl hI.2.2.2.2.2.2.2.2.2.2.2.2.2.2.2.2.2.2.2.2.2.2.2.2.2.2.2.2.1))
    have k_xS9 : xS9 W := by
      have r4_212 : W 4 212 = 1 * ρ 0 + 0 := by rw [hW, sU_ne (fun z => by omega), sU_at]
      have r4_213 : W 4 213 = 256 * ρ 0 + (1 * ρ 3 + 0) := by rw [hW, sU_at]
      have r4_211 : W 4 211 = M 4 211 := by rw [hW, sU_ne (fun z => by omega), sU_ne (fun z => by omega)]
      have c92 : ∀ k, W 92 k = M 92 k := fun k => by rw [hW, sU_ne (fun z => by omega), sU_ne (fun z => by omega)]
      have e92 : W 92 = M 92 := funext c92
      intro h
      rw [r4_213, r4_211, e92, m1, show (1 * ρ 1 + 0).toNat = (ρ 1).toNat by omega]
      (try rw [h0])
      omega
    have k_xSA : xSA W := by
      rw [hW]
      exact (uxSA rfl (uxSA rfl hI.2.2.2.2.2.2.2.2.2.2.2.2.2.2.2.2.2.2.2.2.2.2.2.2.2.2.2.2.2.2.1))
    have k_xSG : xSG W := by
      rw [hW]
      exact (uxSG rfl (uxSG rfl hI.2.2.2.2.2.2.2.2.2.2.2.2.2.2.2.2.2.2.2.2.2.2.2.2.2.2.2.2.2.2.2.1))
    have k_xSF : xSF W := by
      rw [hW]
      exact (uxSF rfl (uxSF rfl hI.2.2.2.2.2.2.2.2.2.2.2.2.2.2.2.2.2.2.2.2.2.2.2.2.2.2.2.2.2.2.2.2.1))
    have k_xSB : xSB W := by
      rw [hW]
      exact (uxSB rfl (uxSB rfl hI.2.2.2.2.2.2.2.2.2.2.2.2.2.2.2.2.2.2.2.2.2.2.2.2.2.2.2.2.2.2.2.2.2.1))
    have k_xSC : xSC W := by
      rw [hW]
      exact (uxSC rfl (uxSC rfl hI.2.2.2.2.2.2.2.2.2.2.2.2.2.2.2.2.2.2.2.2.2.2.2.2.2.2.2.2.2.2.2.2.2.2.1))
    have k_xSD : xSD W := by
      rw [hW]
      exact (uxSD rfl (uxSD rfl hI.2.2.2.2.2.2.2.2.2.2.2.2.2.2.2.2.2.2.2.2.2.2.2.2.2.2.2.2.2.2.2.2.2.2.2.1))
    have k_xSE : xSE W := by
      rw [hW]
      exact (uxSE rfl (uxSE rfl hI.2.2.2.2.2.2.2.2.2.2.2.2.2.2.2.2.2.2.2.2.2.2.2.2.2.2.2.2.2.2.2.2.2.2.2.2.1))
    have k_xSW : xSW W := by
      rw [hW]
      exact (uxSW rfl (uxSW rfl hI.2.2.2.2.2.2.2.2.2.2.2.2.2.2.2.2.2.2.2.2.2.2.2.2.2.2.2.2.2.2.2.2.2.2.2.2.2.1))
    have k_xST : xST W := by
      rw [hW]
      exact (uxST rfl (uxST rfl hI.2.2.2.2.2.2.2.2.2.2.2.2.2.2.2.2.2.2.2.2.2.2.2.2.2.2.2.2.2.2.2.2.2.2.2.2.2.2.1))
    have k_xSP : xSP W := by
      rw [hW]
      exact (uxSP rfl (uxSP rfl hI.2.2.2.2.2.2.2.2.2.2.2.2.2.2.2.2.2.2.2.2.2.2.2.2.2.2.2.2.2.2.2.2.2.2.2.2.2.2.2.1))
    have k_xSL : xSL W := by
      rw [hW]
      exact (uxSL rfl (uxSL rfl hI.2.2.2.2.2.2.2.2.2.2.2.2.2.2.2.2.2.2.2.2.2.2.2.2.2.2.2.2.2.2.2.2.2.2.2.2.2.2.2.2.1))
    have k_xSM : xSM W := by
      rw [hW]
      exact (uxSM rfl (uxSM rfl hI.2.2.2.2.2.2.2.2.2.2.2.2.2.2.2.2.2.2.2.2.2.2.2.2.2.2.2.2.2.2.2.2.2.2.2.2.2.2.2.2.2.1))
    have k_xSI : xSI W := by
      rw [hW]
      exact (uxSI rfl (uxSI rfl hI.2.2.2.2.2.2.2.2.2.2.2.2.2.2.2.2.2.2.2.2.2.2.2.2.2.2.2.2.2.2.2.2.2.2.2.2.2.2.2.2.2.2))
    have k_XC : XC W := ⟨k_xS1, k_xS2, k_xS3, k_xS4, k_xS5, k_xS6, k_xS7, k_xS8, k_xS9, k_xSA, k_xSG, k_xSF, k_xSB, k_xSC, k_xSD, k_xSE, k_xSW, k_xST, k_xSP, k_xSL, k_xSM, k_xSI⟩
    have kXB : XB W := ⟨k_xN1, k_xN2, k_xN3, k_xN4, k_xN5, k_xN6, k_xH1, k_xK1, k_xC1, k_xRW, k_xWT, k_xCU, k_xG2, k_xG3, k_xG4, k_xG5, k_xG6, k_XC⟩
    exact ⟨base, k2, k3, kXA, kXB⟩
-- secondN
def xr_146 : qRu := (5, [[(1, 1)], [(-2, 0), (-1, 1), (1, 2)], [(-1, 0), (-1, 1), (1, 4)], [(1, 0), (1, 1), (-1, 4)], [(-1, 0), (-1, 3)]], [(4, 100, [(1, 0)]), (4, 211, [(1, 1)]), (4, 101, [(1, 2)]), (1, 1004, [(1, 3)])], [], [(4, 233, [(1, 0)]), (4, 234, [(256, 0), (1, 3)])], [])
theorem xo_146 : qRok xr_146 := by
  intro ρ M h0 hf hm hI
  have f0 := hf [(1, 1)] (by decide)
  have f1 := hf [(-2, 0), (-1, 1), (1, 2)] (by decide)
  have f2 := hf [(-1, 0), (-1, 1), (1, 4)] (by decide)
  have f3 := hf [(1, 0), (1, 1), (-1, 4)] (by decide)
  have f4 := hf [(-1, 0), (-1, 3)] (by decide)
  simp only [qD, h0] at f0 f1 f2 f3 f4
  have m0 : M 4 100 = 1 * ρ 0 + 0 := hm (4, 100, [(1, 0)]) (by decide)
  have m1 : M 4 211 = 1 * ρ 1 + 0 := hm (4, 211, [(1, 1)]) (by decide)
  have m2 : M 4 101 = 1 * ρ 2 + 0 := hm (4, 101, [(1, 2)]) (by decide)
  have m3 : M 1 (zIx ρ (1000 + 4)) = 1 * ρ 3 + 0 := hm (1, 1004, [(1, 3)]) (by decide)
  rw [zix_p] at m3
  simp only [h0] at m0
  have qxSF := hI.2.2.2.2.2.2.2.2.2.2.2.2.2.2.2.2.2.2.2.2.2.2.2.2.2.2.2.2.2.2.2.2.1
  have hb := xs_by hI (by omega) (k := (ρ 4).toNat) (by omega)
  refine ⟨ρ, fun _ _ => rfl, fun f h => ?_, ?_⟩
  · exact nomatch h
  · show sI (sU (sU M 4 233 (1 * ρ 0 + 0)) 4 234 (256 * ρ 0 + (1 * ρ 3 + 0)))
    obtain ⟨W, hW⟩ : ∃ W, W = (sU (sU M 4 233 (1 * ρ 0 + 0)) 4 234 (256 * ρ 0 + (1 * ρ 3 + 0))) := ⟨_, rfl⟩
    rw [← hW]
    have base : sI0 W := by
      rw [hW]
      exact (si_u0 (si_u0 hI.1 (fun r hr => by cases hr)) (fun r hr => by cases hr))
    have k2 : XI2 W := by
      rw [hW]
      exact (xi2_u rfl (xi2_u rfl hI.2.1))
    have k3 : XI3 W := by
      rw [hW]
      exact (xi3_u rfl (xi3_u rfl hI.2.2.1))
    have kXA : XA W := by
      rw [hW]
      exact (uXA rfl (uXA rfl hI.2.2.2.1))
    have k_xN1 : xN1 W := by
      rw [hW]
      exact (uxN1 rfl (uxN1 rfl hI.2.2.2.2.1))
    have k_xN2 : xN2 W := by
      rw [hW]
      exact (uxN2 rfl (uxN2 rfl hI.2.2.2.2.2.1))
    have k_xN3 : xN3 W := by
      rw [hW]
      exact (uxN3 rfl (uxN3 rfl hI.2.2.2.2.2.2.1))
    have k_xN4 : xN4 W := by
      rw [hW]
      exact (uxN4 rfl (uxN4 rfl hI.2.2.2.2.2.2.2.1))
    have k_xN5 : xN5 W := by
      rw [hW]
      exact (uxN5 rfl (uxN5 rfl hI.2.2.2.2.2.2.2.2.1))
    have k_xN6 : xN6 W := by
      rw [hW]
      exact (uxN6 rfl (uxN6 rfl hI.2.2.2.2.2.2.2.2.2.1))
    have k_xH1 : xH1 W := by
      rw [hW]
      exact (uxH1 rfl (uxH1 rfl hI.2.2.2.2.2.2.2.2.2.2.1))
    have k_xK1 : xK1 W := by
      rw [hW]
      exact (uxK1 rfl (uxK1 rfl hI.2.2.2.2.2.2.2.2.2.2.2.1))
    have k_xC1 : xC1 W := by
      rw [hW]
      exact (uxC1 rfl (uxC1 rfl hI.2.2.2.2.2.2.2.2.2.2.2.2.1))
    have k_xRW : xRW W := by
      rw [hW]
      exact (uxRW rfl (uxRW rfl hI.2.2.2.2.2.2.2.2.2.2.2.2.2.1))
    have k_xWT : xWT W := by
      rw [hW]
      exact (uxWT rfl (uxWT rfl hI.2.2.2.2.2.2.2.2.2.2.2.2.2.2.1))
    have k_xCU : xCU W := by
      rw [hW]
      exact (uxCU rfl (uxCU rfl hI.2.2.2.2.2.2.2.2.2.2.2.2.2.2.2.1))
    have k_xG2 : xG2 W := by
      rw [hW]
      exact (uxG2 rfl (uxG2 rfl hI.2.2.2.2.2.2.2.2.2.2.2.2.2.2.2.2.1))
    have k_xG3 : xG3 W := by
      rw [hW]
      exact (uxG3 rfl (uxG3 rfl hI.2.2.2.2.2.2.2.2.2.2.2.2.2.2.2.2.2.1))
    have k_xG4 : xG4 W := by
      rw [hW]
      exact (uxG4 rfl (uxG4 rfl hI.2.2.2.2.2.2.2.2.2.2.2.2.2.2.2.2.2.2.1))
    have k_xG5 : xG5 W := by
      rw [hW]
      exact (uxG5 rfl (uxG5 rfl hI.2.2.2.2.2.2.2.2.2.2.2.2.2.2.2.2.2.2.2.1))
    have k_xG6 : xG6 W := by
      rw [hW]
      exact (uxG6 rfl (uxG6 rfl hI.2.2.2.2.2.2.2.2.2.2.2.2.2.2.2.2.2.2.2.2.1))
    have k_xS1 : xS1 W := by
      rw [hW]
      exact (uxS1 rfl (uxS1 rfl hI.2.2.2.2.2.2.2.2.2.2.2.2.2.2.2.2.2.2.2.2.2.1))
    have k_xS2 : xS2 W := by
      rw [hW]
      exact (uxS2 rfl (uxS2 rfl hI.2.2.2.2.2.2.2.2.2.2.2.2.2.2.2.2.2.2.2.2.2.2.1))
    have k_xS3 : xS3 W := by
      rw [hW]
      exact (uxS3 rfl (uxS3 rfl hI.2.2.2.2.2.2.2.2.2.2.2.2.2.2.2.2.2.2.2.2.2.2.2.1))
    have k_xS4 : xS4 W := by
      rw [hW]
      exact (uxS4 rfl (uxS4 rfl hI.2.2.2.2.2.2.2.2.2.2.2.2.2.2.2.2.2.2.2.2.2.2.2.2.1))
    have k_xS5 : xS5 W := by
      rw [hW]
      exact (uxS5 rfl (uxS5 rfl hI.2.2.2.2.2.2.2.2.2.2.2.2.2.2.2.2.2.2.2.2.2.2.2.2.2.1))
    have k_xS6 : xS6 W := by
      rw [hW]
      exact (uxS6 rfl (uxS6 rfl hI.2.2.2.2.2.2.2.2.2.2.2.2.2.2.2.2.2.2.2.2.2.2.2.2.2.2.1))
    have k_xS7 : xS7 W := by
      rw [hW]
      exact (uxS7 rfl (uxS7 rfl hI.2.2.2.2.2.2.2.2.2.2.2.2.2.2.2.2.2.2.2.2.2.2.2.2.2.2.2.1))
    have k_xS8 : xS8 W := by
      rw [hW]
      exact (uxS8 rfl (uxS8 rfl hI.2.2.2.2.2.2.2.2.2.2.2.2.2.2.2.2.2.2.2.2.2.2.2.2.2.2.2.2.1))
    have k_xS9 : xS9 W := by
      rw [hW]
      exact (uxS9 rfl (uxS9 rfl hI.2.2.2.2.2.2.2.2.2.2.2.2.2.2.2.2.2.2.2.2.2.2.2.2.2.2.2.2.2.1))
    have k_xSA : xSA W := by
      rw [hW]
      exact (uxSA rfl (uxSA rfl hI.2.2.2.2.2.2.2.2.2.2.2.2.2.2.2.2.2.2.2.2.2.2.2.2.2.2.2.2.2.2.1))
    have k_xSG : xSG W := by
      rw [hW]
      exact (uxSG rfl (uxSG rfl hI.2.2.2.2.2.2.2.2.2.2.2.2.2.2.2.2.2.2.2.2.2.2.2.2.2.2.2.2.2.2.2.1))
    have k_xSF : xSF W := by
      have r4_233 : W 4 233 = 1 * ρ 0 + 0 := by rw [hW, sU_ne (fun z => by omega), sU_at]
      have r4_234 : W 4 234 = 256 * ρ 0 + (1 * ρ 3 + 0) := by rw [hW, sU_at]
      have r4_211 : W 4 211 = M 4 211 := by rw [hW, sU_ne (fun z => by omega), sU_ne (fun z => by omega)]
      have c92 : ∀ k, W 92 k = M 92 k := fun k => by rw [hW, sU_ne (fun z => by omega), sU_ne (fun z => by omega)]
      have e92 : W 92 = M 92 := funext c92
      intro h
      rw [r4_234, r4_211, e92, m1, show (1 * ρ 1 + 0).toNat + 1 = (ρ 4).toNat by omega]
      (try rw [h0])
      omega
    have k_xSB : xSB W := by
      rw [hW]
      exact (uxSB rfl (uxSB rfl hI.2.2.2.2.2.2.2.2.2.2.2.2.2.2.2.2.2.2.2.2.2.2.2.2.2.2.2.2.2.2.2.2.2.1))
    have k_xSC : xSC W := by
      rw [hW]
      exact (uxSC rfl (uxSC rfl hI.2.2.2.2.2.2.2.2.2.2.2.2.2.2.2.2.2.2.2.2.2.2.2.2.2.2.2.2.2.2.2.2.2.2.1))
    have k_xSD : xSD W := by
      rw [hW]
      exact (uxSD rfl (uxSD rfl hI.2.2.2.2.2.2.2.2.2.2.2.2.2.2.2.2.2.2.2.2.2.2.2.2.2.2.2.2.2.2.2.2.2.2.2.1))
    have k_xSE : xSE W := by
      rw [hW]
      exact (uxSE rfl (uxSE rfl hI.2.2.2.2.2.2.2.2.2.2.2.2.2.2.2.2.2.2.2.2.2.2.2.2.2.2.2.2.2.2.2.2.2.2.2.2.1))
    have k_xSW : xSW W := by
      rw [hW]
      exact (uxSW rfl (uxSW rfl hI.2.2.2.2.2.2.2.2.2.2.2.2.2.2.2.2.2.2.2.2.2.2.2.2.2.2.2.2.2.2.2.2.2.2.2.2.2.1))
    have k_xST : xST W := by
      rw [hW]
      exact (uxST rfl (uxST rfl hI.2.2.2.2.2.2.2.2.2.2.2.2.2.2.2.2.2.2.2.2.2.2.2.2.2.2.2.2.2.2.2.2.2.2.2.2.2.2.1))
    have k_xSP : xSP W := by
      rw [hW]
      exact (uxSP rfl (uxSP rfl hI.2.2.2.2.2.2.2.2.2.2.2.2.2.2.2.2.2.2.2.2.2.2.2.2.2.2.2.2.2.2.2.2.2.2.2.2.2.2.2.1))
    have k_xSL : xSL W := by
      rw [hW]
      exact (uxSL rfl (uxSL rfl hI.2.2.2.2.2.2.2.2.2.2.2.2.2.2.2.2.2.2.2.2.2.2.2.2.2.2.2.2.2.2.2.2.2.2.2.2.2.2.2.2.1))
    have k_xSM : xSM W := by
      rw [hW]
      exact (uxSM rfl (uxSM rfl hI.2.2.2.2.2.2.2.2.2.2.2.2.2.2.2.2.2.2.2.2.2.2.2.2.2.2.2.2.2.2.2.2.2.2.2.2.2.2.2.2.2.1))
    have k_xSI : xSI W := by
      rw [hW]
      exact (uxSI rfl (uxSI rfl hI.2.2.2.2.2.2.2.2.2.2.2.2.2.2.2.2.2.2.2.2.2.2.2.2.2.2.2.2.2.2.2.2.2.2.2.2.2.2.2.2.2.2))
    have k_XC : XC W := ⟨k_xS1, k_xS2, k_xS3, k_xS4, k_xS5, k_xS6, k_xS7, k_xS8, k_xS9, k_xSA, k_xSG, k_xSF, k_xSB, k_xSC, k_xSD, k_xSE, k_xSW, k_xST, k_xSP, k_xSL, k_xSM, k_xSI⟩
    have kXB : XB W := ⟨k_xN1, k_xN2, k_xN3, k_xN4, k_xN5, k_xN6, k_xH1, k_xK1, k_xC1, k_xRW, k_xWT, k_xCU, k_xG2, k_xG3, k_xG4, k_xG5, k_xG6, k_XC⟩
    exact ⟨base, k2, k3, kXA, kXB⟩
-- byteR
def xr_147 : qRu := (6, [[(1, 1)], [(-1, 0), (-1, 1), (1, 2)], [(-1, 1), (1, 3)], [(1, 1), (-1, 3)], [(-1, 2), (1, 4)], [(1, 2), (-1, 4)]], [(4, 211, [(1, 1)]), (4, 101, [(1, 2)]), (91, 27, [(1, 3)]), (91, 26, [(1, 4)]), (91, 990, [(1, 5)])], [], [(4, 212, [(1, 0)]), (4, 213, [(1, 5)])], [])
theorem xo_147 : qRok xr_147 := by
  intro ρ M h0 hf hm hI
  have f0 := hf [(1, 1)] (by decide)
  have f1 := hf [(-1, 0), (-1, 1), (1, 2)] (by decide)
  have f2 := hf [(-1, 1), (1, 3)] (by decide)
  have f3 := hf [(1, 1), (-1, 3)] (by decide)
  have f4 := hf [(-1, 2), (1, 4)] (by decide)
  have f5 := hf [(1, 2), (-1, 4)] (by decide)
  simp only [qD, h0] at f0 f1 f2 f3 f4 f5
  have m0 : M 4 211 = 1 * ρ 1 + 0 := hm (4, 211, [(1, 1)]) (by decide)
  have m1 : M 4 101 = 1 * ρ 2 + 0 := hm (4, 101, [(1, 2)]) (by decide)
  have m2 : M 91 27 = 1 * ρ 3 + 0 := hm (91, 27, [(1, 3)]) (by decide)
  have m3 : M 91 26 = 1 * ρ 4 + 0 := hm (91, 26, [(1, 4)]) (by decide)
  have m4 : M 91 990 = 1 * ρ 5 + 0 := hm (91, 990, [(1, 5)]) (by decide)
  have qxS9 := hI.2.2.2.2.2.2.2.2.2.2.2.2.2.2.2.2.2.2.2.2.2.2.2.2.2.2.2.2.2.1
  have hh := xs_hr hI (by omega)
  refine ⟨ρ, fun _ _ => rfl, fun f h => ?_, ?_⟩
  · exact nomatch h
  · show sI (sU (sU M 4 212 (1 * ρ 0 + 0)) 4 213 (1 * ρ 5 + 0))
    obtain ⟨W, hW⟩ : ∃ W, W = (sU (sU M 4 212 (1 * ρ 0 + 0)) 4 213 (1 * ρ 5 + 0)) := ⟨_, rfl⟩
    rw [← hW]
    have base : sI0 W := by
      rw [hW]
      exact (si_u0 (si_u0 hI.1 (fun r hr => by cases hr)) (fun r hr => by cases hr))
    have k2 : XI2 W := by
      rw [hW]
      exact (xi2_u rfl (xi2_u rfl hI.2.1))
    have k3 : XI3 W := by
      rw [hW]
      exact (xi3_u rfl (xi3_u rfl hI.2.2.1))
    have kXA : XA W := by
      rw [hW]
      exact (uXA rfl (uXA rfl hI.2.2.2.1))
    have k_xN1 : xN1 W := by
      rw [hW]
      exact (uxN1 rfl (uxN1 rfl hI.2.2.2.2.1))
    have k_xN2 : xN2 W := by
      rw [hW]
      exact (uxN2 rfl (uxN2 rfl hI.2.2.2.2.2.1))
    have k_xN3 : xN3 W := by
      rw [hW]
      exact (uxN3 rfl (uxN3 rfl hI.2.2.2.2.2.2.1))
    have k_xN4 : xN4 W := by
      rw [hW]
      exact (uxN4 rfl (uxN4 rfl hI.2.2.2.2.2.2.2.1))
    have k_xN5 : xN5 W := by
      rw [hW]
      exact (uxN5 rfl (uxN5 rfl hI.2.2.2.2.2.2.2.2.1))
    have k_xN6 : xN6 W := by
      rw [hW]
      exact (uxN6 rfl (uxN6 rfl hI.2.2.2.2.2.2.2.2.2.1))
    have k_xH1 : xH1 W := by
      rw [hW]
      exact (uxH1 rfl (uxH1 rfl hI.2.2.2.2.2.2.2.2.2.2.1))
    have k_xK1 : xK1 W := by
      rw [hW]
      exact (uxK1 rfl (uxK1 rfl hI.2.2.2.2.2.2.2.2.2.2.2.1))
    have k_xC1 : xC1 W := by
      rw [hW]
      exact (uxC1 rfl (uxC1 rfl hI.2.2.2.2.2.2.2.2.2.2.2.2.1))
    have k_xRW : xRW W := by
      rw [hW]
      exact (uxRW rfl (uxRW rfl hI.2.2.2.2.2.2.2.2.2.2.2.2.2.1))
    have k_xWT : xWT W := by
      rw [hW]
      exact (uxWT rfl (uxWT rfl hI.2.2.2.2.2.2.2.2.2.2.2.2.2.2.1))
    have k_xCU : xCU W := by
      rw [hW]
      exact (uxCU rfl (uxCU rfl hI.2.2.2.2.2.2.2.2.2.2.2.2.2.2.2.1))
    have k_xG2 : xG2 W := by
      rw [hW]
      exact (uxG2 rfl (uxG2 rfl hI.2.2.2.2.2.2.2.2.2.2.2.2.2.2.2.2.1))
    have k_xG3 : xG3 W := by
      rw [hW]
      exact (uxG3 rfl (uxG3 rfl hI.2.2.2.2.2.2.2.2.2.2.2.2.2.2.2.2.2.1))
    have k_xG4 : xG4 W := by
      rw [hW]
      exact (uxG4 rfl (uxG4 rfl hI.2.2.2.2.2.2.2.2.2.2.2.2.2.2.2.2.2.2.1))
    have k_xG5 : xG5 W := by
      rw [hW]
      exact (uxG5 rfl (uxG5 rfl hI.2.2.2.2.2.2.2.2.2.2.2.2.2.2.2.2.2.2.2.1))
    have k_xG6 : xG6 W := by
      rw [hW]
      exact (uxG6 rfl (uxG6 rfl hI.2.2.2.2.2.2.2.2.2.2.2.2.2.2.2.2.2.2.2.2.1))
    have k_xS1 : xS1 W := by
      rw [hW]
      exact (uxS1 rfl (uxS1 rfl hI.2.2.2.2.2.2.2.2.2.2.2.2.2.2.2.2.2.2.2.2.2.1))
    have k_xS2 : xS2 W := by
      rw [hW]
      exact (uxS2 rfl (uxS2 rfl hI.2.2.2.2.2.2.2.2.2.2.2.2.2.2.2.2.2.2.2.2.2.2.1))
    have k_xS3 : xS3 W := by
      rw [hW]
      exact (uxS3 rfl (uxS3 rfl hI.2.2.2.2.2.2.2.2.2.2.2.2.2.2.2.2.2.2.2.2.2.2.2.1))
    have k_xS4 : xS4 W := by
      rw [hW]
      exact (uxS4 rfl (uxS4 rfl hI.2.2.2.2.2.2.2.2.2.2.2.2.2.2.2.2.2.2.2.2.2.2.2.2.1))
    have k_xS5 : xS5 W := by
      rw [hW]
      exact (uxS5 rfl (uxS5 rfl hI.2.2.2.2.2.2.2.2.2.2.2.2.2.2.2.2.2.2.2.2.2.2.2.2.2.1))
    have k_xS6 : xS6 W := by
      rw [hW]
      exact (uxS6 rfl (uxS6 rfl hI.2.2.2.2.2.2.2.2.2.2.2.2.2.2.2.2.2.2.2.2.2.2.2.2.2.2.1))
    have k_xS7 : xS7 W := by
      rw [hW]
      exact (uxS7 rfl (uxS7 rfl hI.2.2.2.2.2.2.2.2.2.2.2.2.2.2.2.2.2.2.2.2.2.2.2.2.2.2.2.1))
    have k_xS8 : xS8 W := by
      rw [hW]
      exact (uxS8 rfl (uxS8 rfl hI.2.2.2.2.2.2.2.2.2.2.2.2.2.2.2.2.2.2.2.2.2.2.2.2.2.2.2.2.1))
    have k_xS9 : xS9 W := by
      have r4_212 : W 4 212 = 1 * ρ 0 + 0 := by rw [hW, sU_ne (fun z => by omega), sU_at]
      have r4_213 : W 4 213 = 1 * ρ 5 + 0 := by rw [hW, sU_at]
      have r4_211 : W 4 211 = M 4 211 := by rw [hW, sU_ne (fun z => by omega), sU_ne (fun z => by omega)]
      have c92 : ∀ k, W 92 k = M 92 k := fun k => by rw [hW, sU_ne (fun z => by omega), sU_ne (fun z => by omega)]
      have e92 : W 92 = M 92 := funext c92
      intro h
      rw [r4_213, r4_211, e92, m0, show (1 * ρ 1 + 0).toNat = (M 91 27).toNat by omega]
      omega
    have k_xSA : xSA W := by
      rw [hW]
      exact (uxSA rfl (uxSA rfl hI.2.2.2.2.2.2.2.2.2.2.2.2.2.2.2.2.2.2.2.2.2.2.2.2.2.2.2.2.2.2.1))
    have k_xSG : xSG W := by
      rw [hW]
      exact (uxSG rfl (uxSG rfl hI.2.2.2.2.2.2.2.2.2.2.2.2.2.2.2.2.2.2.2.2.2.2.2.2.2.2.2.2.2.2.2.1))
    have k_xSF : xSF W := by
      rw [hW]
      exact (uxSF rfl (uxSF rfl hI.2.2.2.2.2.2.2.2.2.2.2.2.2.2.2.2.2.2.2.2.2.2.2.2.2.2.2.2.2.2.2.2.1))
    have k_xSB : xSB W := by
      rw [hW]
      exact (uxSB rfl (uxSB rfl hI.2.2.2.2.2.2.2.2.2.2.2.2.2.2.2.2.2.2.2.2.2.2.2.2.2.2.2.2.2.2.2.2.2.1))
    have k_xSC : xSC W := by
      rw [hW]
      exact (uxSC rfl (uxSC rfl hI.2.2.2.2.2.2.2.2.2.2.2.2.2.2.2.2.2.2.2.2.2.2.2.2.2.2.2.2.2.2.2.2.2.2.1))
    have k_xSD : xSD W := by
      rw [hW]
      exact (uxSD rfl (uxSD rfl hI.2.2.2.2.2.2.2.2.2.2.2.2.2.2.2.2.2.2.2.2.2.2.2.2.2.2.2.2.2.2.2.2.2.2.2.1))
    have k_xSE : xSE W := by
      rw [hW]
      exact (uxSE rfl (uxSE rfl hI.2.2.2.2.2.2.2.2.2.2.2.2.2.2.2.2.2.2.2.2.2.2.2.2.2.2.2.2.2.2.2.2.2.2.2.2.1))
    have k_xSW : xSW W := by
      rw [hW]
      exact (uxSW rfl (uxSW rfl hI.2.2.2.2.2.2.2.2.2.2.2.2.2.2.2.2.2.2.2.2.2.2.2.2.2.2.2.2.2.2.2.2.2.2.2.2.2.1))
    have k_xST : xST W := by
      rw [hW]
      exact (uxST rfl (uxST rfl hI.2.2.2.2.2.2.2.2.2.2.2.2.2.2.2.2.2.2.2.2.2.2.2.2.2.2.2.2.2.2.2.2.2.2.2.2.2.2.1))
    have k_xSP : xSP W := by
      rw [hW]
      exact (uxSP rfl (uxSP rfl hI.2.2.2.2.2.2.2.2.2.2.2.2.2.2.2.2.2.2.2.2.2.2.2.2.2.2.2.2.2.2.2.2.2.2.2.2.2.2.2.1))
    have k_xSL : xSL W := by
      rw [hW]
      exact (uxSL rfl (uxSL rfl hI.2.2.2.2.2.2.2.2.2.2.2.2.2.2.2.2.2.2.2.2.2.2.2.2.2.2.2.2.2.2.2.2.2.2.2.2.2.2.2.2.1))
    have k_xSM : xSM W := by
      rw [hW]
      exact (uxSM rfl (uxSM rfl hI.2.2.2.2.2.2.2.2.2.2.2.2.2.2.2.2.2.2.2.2.2.2.2.2.2.2.2.2.2.2.2.2.2.2.2.2.2.2.2.2.2.1))
    have k_xSI : xSI W := by
      rw [hW]
      exact (uxSI rfl (uxSI rfl hI.2.2.2.2.2.2.2.2.2.2.2.2.2.2.2.2.2.2.2.2.2.2.2.2.2.2.2.2.2.2.2.2.2.2.2.2.2.2.2.2.2.2))
    have k_XC : XC W := ⟨k_xS1, k_xS2, k_xS3, k_xS4, k_xS5, k_xS6, k_xS7, k_xS8, k_xS9, k_xSA, k_xSG, k_xSF, k_xSB, k_xSC, k_xSD, k_xSE, k_xSW, k_xST, k_xSP, k_xSL, k_xSM, k_xSI⟩
    have kXB : XB W := ⟨k_xN1, k_xN2, k_xN3, k_xN4, k_xN5, k_xN6, k_xH1, k_xK1, k_xC1, k_xRW, k_xWT, k_xCU, k_xG2, k_xG3, k_xG4, k_xG5, k_xG6, k_XC⟩
    exact ⟨base, k2, k3, kXA, kXB⟩
-- secondR
def xr_148 : qRu := (6, [[(1, 1)], [(-2, 0), (-1, 1), (1, 2)], [(-1, 0), (-1, 1), (1, 3)], [(1, 0), (1, 1), (-1, 3)], [(-1, 2), (1, 4)], [(1, 2), (-1, 4)]], [(4, 211, [(1, 1)]), (4, 101, [(1, 2)]), (91, 27, [(1, 3)]), (91, 26, [(1, 4)]), (91, 990, [(1, 5)])], [], [(4, 233, [(1, 0)]), (4, 234, [(1, 5)])], [])
theorem xo_148 : qRok xr_148 := by
  intro ρ M h0 hf hm hI
  have f0 := hf [(1, 1)] (by decide)
  have f1 := hf [(-2, 0), (-1, 1), (1, 2)] (by decide)
  have f2 := hf [(-1, 0), (-1, 1), (1, 3)] (by decide)
  have f3 := hf [(1, 0), (1, 1), (-1, 3)] (by decide)
  have f4 := hf [(-1, 2), (1, 4)] (by decide)
  have f5 := hf [(1, 2), (-1, 4)] (by decide)
  simp only [qD, h0] at f0 f1 f2 f3 f4 f5
  have m0 : M 4 211 = 1 * ρ 1 + 0 := hm (4, 211, [(1, 1)]) (by decide)
  have m1 : M 4 101 = 1 * ρ 2 + 0 := hm (4, 101, [(1, 2)]) (by decide)
  have m2 : M 91 27 = 1 * ρ 3 + 0 := hm (91, 27, [(1, 3)]) (by decide)
  have m3 : M 91 26 = 1 * ρ 4 + 0 := hm (91, 26, [(1, 4)]) (by decide)
  have m4 : M 91 990 = 1 * ρ 5 + 0 := hm (91, 990, [(1, 5)]) (by decide)
  have qxSF := hI.2.2.2.2.2.2.2.2.2.2.2.2.2.2.2.2.2.2.2.2.2.2.2.2.2.2.2.2.2.2.2.2.1
  have hh := xs_hr hI (by omega)
  refine ⟨ρ, fun _ _ => rfl, fun f h => ?_, ?_⟩
  · exact nomatch h
  · show sI (sU (sU M 4 233 (1 * ρ 0 + 0)) 4 234 (1 * ρ 5 + 0))
    obtain ⟨W, hW⟩ : ∃ W, W = (sU (sU M 4 233 (1 * ρ 0 + 0)) 4 234 (1 * ρ 5 + 0)) := ⟨_, rfl⟩
    rw [← hW]
    have base : sI0 W := by
      rw [hW]
      exact (si_u0 (si_u0 hI.1 (fun r hr => by cases hr)) (fun r hr => by cases hr))
    have k2 : XI2 W := by
      rw [hW]
      exact (xi2_u rfl (xi2_u rfl hI.2.1))
    have k3 : XI3 W := by
      rw [hW]
      exact (xi3_u rfl (xi3_u rfl hI.2.2.1))
    have kXA : XA W := by
      rw [hW]
      exact (uXA rfl (uXA rfl hI.2.2.2.1))
    have k_xN1 : xN1 W := by
      rw [hW]
      exact (uxN1 rfl (uxN1 rfl hI.2.2.2.2.1))
    have k_xN2 : xN2 W := by
      rw [hW]
      exact (uxN2 rfl (uxN2 rfl hI.2.2.2.2.2.1))
    have k_xN3 : xN3 W := by
      rw [hW]
      exact (uxN3 rfl (uxN3 rfl hI.2.2.2.2.2.2.1))
    have k_xN4 : xN4 W := by
      rw [hW]
      exact (uxN4 rfl (uxN4 rfl hI.2.2.2.2.2.2.2.1))
    have k_xN5 : xN5 W := by
      rw [hW]
      exact (uxN5 rfl (uxN5 rfl hI.2.2.2.2.2.2.2.2.1))
    have k_xN6 : xN6 W := by
      rw [hW]
      exact (uxN6 rfl (uxN6 rfl hI.2.2.2.2.2.2.2.2.2.1))
    have k_xH1 : xH1 W := by
      rw [hW]
      exact (uxH1 rfl (uxH1 rfl hI.2.2.2.2.2.2.2.2.2.2.1))
    have k_xK1 : xK1 W := by
      rw [hW]
      exact (uxK1 rfl (uxK1 rfl hI.2.2.2.2.2.2.2.2.2.2.2.1))
    have k_xC1 : xC1 W := by
      rw [hW]
      exact (uxC1 rfl (uxC1 rfl hI.2.2.2.2.2.2.2.2.2.2.2.2.1))
    have k_xRW : xRW W := by
      rw [hW]
      exact (uxRW rfl (uxRW rfl hI.2.2.2.2.2.2.2.2.2.2.2.2.2.1))
    have k_xWT : xWT W := by
      rw [hW]
      exact (uxWT rfl (uxWT rfl hI.2.2.2.2.2.2.2.2.2.2.2.2.2.2.1))
    have k_xCU : xCU W := by
      rw [hW]
      exact (uxCU rfl (uxCU rfl hI.2.2.2.2.2.2.2.2.2.2.2.2.2.2.2.1))
    have k_xG2 : xG2 W := by
      rw [hW]
      exact (uxG2 rfl (uxG2 rfl hI.2.2.2.2.2.2.2.2.2.2.2.2.2.2.2.2.1))
    have k_xG3 : xG3 W := by
      rw [hW]
      exact (uxG3 rfl (uxG3 rfl hI.2.2.2.2.2.2.2.2.2.2.2.2.2.2.2.2.2.1))
    have k_xG4 : xG4 W := by
      rw [hW]
      exact (uxG4 rfl (uxG4 rfl hI.2.2.2.2.2.2.2.2.2.2.2.2.2.2.2.2.2.2.1))
    have k_xG5 : xG5 W := by
      rw [hW]
      exact (uxG5 rfl (uxG5 rfl hI.2.2.2.2.2.2.2.2.2.2.2.2.2.2.2.2.2.2.2.1))
    have k_xG6 : xG6 W := by
      rw [hW]
      exact (uxG6 rfl (uxG6 rfl hI.2.2.2.2.2.2.2.2.2.2.2.2.2.2.2.2.2.2.2.2.1))
    have k_xS1 : xS1 W := by
      rw [hW]
      exact (uxS1 rfl (uxS1 rfl hI.2.2.2.2.2.2.2.2.2.2.2.2.2.2.2.2.2.2.2.2.2.1))
    have k_xS2 : xS2 W := by
      rw [hW]
      exact (uxS2 rfl (uxS2 rfl hI.2.2.2.2.2.2.2.2.2.2.2.2.2.2.2.2.2.2.2.2.2.2.1))
    have k_xS3 : xS3 W := by
      rw [hW]
      exact (uxS3 rfl (uxS3 rfl hI.2.2.2.2.2.2.2.2.2.2.2.2.2.2.2.2.2.2.2.2.2.2.2.1))
    have k_xS4 : xS4 W := by
      rw [hW]
      exact (uxS4 rfl (uxS4 rfl hI.2.2.2.2.2.2.2.2.2.2.2.2.2.2.2.2.2.2.2.2.2.2.2.2.1))
    have k_xS5 : xS5 W := by
      rw [hW]
      exact (uxS5 rfl (uxS5 rfl hI.2.2.2.2.2.2.2.2.2.2.2.2.2.2.2.2.2.2.2.2.2.2.2.2.2.1))
    have k_xS6 : xS6 W := by
      rw [hW]
      exact (uxS6 rfl (uxS6 rfl hI.2.2.2.2.2.2.2.2.2.2.2.2.2.2.2.2.2.2.2.2.2.2.2.2.2.2.1))
    have k_xS7 : xS7 W := by
      rw [hW]
      exact (uxS7 rfl (uxS7 rfl hI.2.2.2.2.2.2.2.2.2.2.2.2.2.2.2.2.2.2.2.2.2.2.2.2.2.2.2.1))
    have k_xS8 : xS8 W := by
      rw [hW]
      exact (uxS8 rfl (uxS8 rfl hI.2.2.2.2.2.2.2.2.2.2.2.2.2.2.2.2.2.2.2.2.2.2.2.2.2.2.2.2.1))
    have k_xS9 : xS9 W := by
      rw [hW]
      exact (uxS9 rfl (uxS9 rfl hI.2.2.2.2.2.2.2.2.2.2.2.2.2.2.2.2.2.2.2.2.2.2.2.2.2.2.2.2.2.1))
    have k_xSA : xSA W := by
      rw [hW]
      exact (uxSA rfl (uxSA rfl hI.2.2.2.2.2.2.2.2.2.2.2.2.2.2.2.2.2.2.2.2.2.2.2.2.2.2.2.2.2.2.1))
    have k_xSG : xSG W := by
      rw [hW]
      exact (uxSG rfl (uxSG rfl hI.2.2.2.2.2.2.2.2.2.2.2.2.2.2.2.2.2.2.2.2.2.2.2.2.2.2.2.2.2.2.2.1))
    have k_xSF : xSF W := by
      have r4_233 : W 4 233 = 1 * ρ 0 + 0 := by rw [hW, sU_ne (fun z => by omega), sU_at]
      have r4_234 : W 4 234 = 1 * ρ 5 + 0 := by rw [hW, sU_at]
      have r4_211 : W 4 211 = M 4 211 := by rw [hW, sU_ne (fun z => by omega), sU_ne (fun z => by omega)]
      have c92 : ∀ k, W 92 k = M 92 k := fun k => by rw [hW, sU_ne (fun z => by omega), sU_ne (fun z => by omega)]
      have e92 : W 92 = M 92 := funext c92
      intro h
      rw [r4_234, r4_211, e92, m0, show (1 * ρ 1 + 0).toNat + 1 = (M 91 27).toNat by omega]
      omega
    have k_xSB : xSB W := by
      rw [hW]
      exact (uxSB rfl (uxSB rfl hI.2.2.2.2.2.2.2.2.2.2.2.2.2.2.2.2.2.2.2.2.2.2.2.2.2.2.2.2.2.2.2.2.2.1))
    have k_xSC : xSC W := by
      rw [hW]
      exact (uxSC rfl (uxSC rfl hI.2.2.2.2.2.2.2.2.2.2.2.2.2.2.2.2.2.2.2.2.2.2.2.2.2.2.2.2.2.2.2.2.2.2.1))
    have k_xSD : xSD W := by
      rw [hW]
      exact (uxSD rfl (uxSD rfl hI.2.2.2.2.2.2.2.2.2.2.2.2.2.2.2.2.2.2.2.2.2.2.2.2.2.2.2.2.2.2.2.2.2.2.2.1))
    have k_xSE : xSE W := by
      rw [hW]
      exact (uxSE rfl (uxSE rfl hI.2.2.2.2.2.2.2.2.2.2.2.2.2.2.2.2.2.2.2.2.2.2.2.2.2.2.2.2.2.2.2.2.2.2.2.2.1))
    have k_xSW : xSW W := by
      rw [hW]
      exact (uxSW rfl (uxSW rfl hI.2.2.2.2.2.2.2.2.2.2.2.2.2.2.2.2.2.2.2.2.2.2.2.2.2.2.2.2.2.2.2.2.2.2.2.2.2.1))
    have k_xST : xST W := by
      rw [hW]
      exact (uxST rfl (uxST rfl hI.2.2.2.2.2.2.2.2.2.2.2.2.2.2.2.2.2.2.2.2.2.2.2.2.2.2.2.2.2.2.2.2.2.2.2.2.2.2.1))
    have k_xSP : xSP W := by
      rw [hW]
      exact (uxSP rfl (uxSP rfl hI.2.2.2.2.2.2.2.2.2.2.2.2.2.2.2.2.2.2.2.2.2.2.2.2.2.2.2.2.2.2.2.2.2.2.2.2.2.2.2.1))
    have k_xSL : xSL W := by
      rw [hW]
      exact (uxSL rfl (uxSL rfl hI.2.2.2.2.2.2.2.2.2.2.2.2.2.2.2.2.2.2.2.2.2.2.2.2.2.2.2.2.2.2.2.2.2.2.2.2.2.2.2.2.1))
    have k_xSM : xSM W := by
      rw [hW]
      exact (uxSM rfl (uxSM rfl hI.2.2.2.2.2.2.2.2.2.2.2.2.2.2.2.2.2.2.2.2.2.2.2.2.2.2.2.2.2.2.2.2.2.2.2.2.2.2.2.2.2.1))
    have k_xSI : xSI W := by
      rw [hW]
      exact (uxSI rfl (uxSI rfl hI.2.2.2.2.2.2.2.2.2.2.2.2.2.2.2.2.2.2.2.2.2.2.2.2.2.2.2.2.2.2.2.2.2.2.2.2.2.2.2.2.2.2))
    have k_XC : XC W := ⟨k_xS1, k_xS2, k_xS3, k_xS4, k_xS5, k_xS6, k_xS7, k_xS8, k_xS9, k_xSA, k_xSG, k_xSF, k_xSB, k_xSC, k_xSD, k_xSE, k_xSW, k_xST, k_xSP, k_xSL, k_xSM, k_xSI⟩
    have kXB : XB W := ⟨k_xN1, k_xN2, k_xN3, k_xN4, k_xN5, k_xN6, k_xH1, k_xK1, k_xC1, k_xRW, k_xWT, k_xCU, k_xG2, k_xG3, k_xG4, k_xG5, k_xG6, k_XC⟩
    exact ⟨base, k2, k3, kXA, kXB⟩
-- tEnd_c
def xr_149 : qRu := (9, [[(-1, 0), (1, 5)], [(1, 1)], [(1, 1), (-1, 2)]], [(4, 210, [(1, 0)]), (4, 211, [(1, 1)]), (4, 101, [(1, 2)]), (3, 46, [(1, 3)]), (3, 47, [(1, 4)]), (4, 100, [(1, 5)]), (3, 44, [(1, 6)]), (3, 45, [(1, 7)]), (4, 107, [(1, 8)])], [], [], [[(-1, 1), (1, 3)], [(1, 1), (-1, 3)], [(-1, 1), (1, 4)], [(1, 1), (-1, 4)], [(-2, 0), (1, 6)], [(2, 0), (-1, 6)], [(1, 7), (-1, 8)], [(-1, 7), (1, 8)]])
theorem xo_149 : qRok xr_149 := by
  intro ρ M h0 hf hm hI
  have f0 := hf [(-1, 0), (1, 5)] (by decide)
  have f1 := hf [(1, 1)] (by decide)
  have f2 := hf [(1, 1), (-1, 2)] (by decide)
  simp only [qD, h0] at f0 f1 f2
  have m0 : M 4 210 = 1 * ρ 0 + 0 := hm (4, 210, [(1, 0)]) (by decide)
  have m1 : M 4 211 = 1 * ρ 1 + 0 := hm (4, 211, [(1, 1)]) (by decide)
  have m2 : M 4 101 = 1 * ρ 2 + 0 := hm (4, 101, [(1, 2)]) (by decide)
  have m3 : M 3 46 = 1 * ρ 3 + 0 := hm (3, 46, [(1, 3)]) (by decide)
  have m4 : M 3 47 = 1 * ρ 4 + 0 := hm (3, 47, [(1, 4)]) (by decide)
  have m5 : M 4 100 = 1 * ρ 5 + 0 := hm (4, 100, [(1, 5)]) (by decide)
  have m6 : M 3 44 = 1 * ρ 6 + 0 := hm (3, 44, [(1, 6)]) (by decide)
  have m7 : M 3 45 = 1 * ρ 7 + 0 := hm (3, 45, [(1, 7)]) (by decide)
  have m8 : M 4 107 = 1 * ρ 8 + 0 := hm (4, 107, [(1, 8)]) (by decide)
  simp only [h0] at m0
  obtain ⟨u1, u2, _⟩ := gx_xS8 hI (by omega)

  obtain ⟨t1, t2, t3, t4, t5, t6⟩ := tk_of hI (by omega) (by omega) (by omega) (show tAt (M 92) (M 4 101).toNat (M 4 211).toNat (M 4 107) (M 4 108) = (2, M 4 107, ((M 4 211).toNat : Int), ((M 4 211).toNat : Int), 4, M 4 108) from by
    unfold tAt
    rw [if_pos (by omega)])
  refine ⟨ρ, fun _ _ => rfl, fun f h => ?_, ?_⟩
  · have h : f ∈ ([[(-1, 1), (1, 3)], [(1, 1), (-1, 3)], [(-1, 1), (1, 4)], [(1, 1), (-1, 4)], [(-2, 0), (1, 6)], [(2, 0), (-1, 6)], [(1, 7), (-1, 8)], [(-1, 7), (1, 8)]] : List qF) := h
    simp only [List.mem_cons, List.not_mem_nil, or_false] at h
    rcases h with rfl | rfl | rfl | rfl | rfl | rfl | rfl | rfl
    · show 0 ≤ -1 * ρ 1 + (1 * ρ 3 + 0)
      (try rw [h0]); omega
    · show 0 ≤ 1 * ρ 1 + (-1 * ρ 3 + 0)
      (try rw [h0]); omega
    · show 0 ≤ -1 * ρ 1 + (1 * ρ 4 + 0)
      (try rw [h0]); omega
    · show 0 ≤ 1 * ρ 1 + (-1 * ρ 4 + 0)
      (try rw [h0]); omega
    · show 0 ≤ -2 * ρ 0 + (1 * ρ 6 + 0)
      (try rw [h0]); omega
    · show 0 ≤ 2 * ρ 0 + (-1 * ρ 6 + 0)
      (try rw [h0]); omega
    · show 0 ≤ 1 * ρ 7 + (-1 * ρ 8 + 0)
      (try rw [h0]); omega
    · show 0 ≤ -1 * ρ 7 + (1 * ρ 8 + 0)
      (try rw [h0]); omega
  · show sI M
    exact hI
-- tEnd_r
def xr_150 : qRu := (9, [[(-1, 0), (1, 5)], [(1, 1)], [(1, 1), (-1, 2)]], [(4, 210, [(1, 0)]), (4, 211, [(1, 1)]), (4, 101, [(1, 2)]), (3, 46, [(1, 3)]), (3, 47, [(1, 4)]), (4, 100, [(1, 5)]), (3, 50, [(1, 6)]), (3, 51, [(1, 7)]), (4, 108, [(1, 8)])], [], [], [[(-1, 1), (1, 3)], [(1, 1), (-1, 3)], [(-1, 1), (1, 4)], [(1, 1), (-1, 4)], [(-4, 0), (1, 6)], [(4, 0), (-1, 6)], [(1, 7), (-1, 8)], [(-1, 7), (1, 8)]])
theorem xo_150 : qRok xr_150 := by
  intro ρ M h0 hf hm hI
  have f0 := hf [(-1, 0), (1, 5)] (by decide)
  have f1 := hf [(1, 1)] (by decide)
  have f2 := hf [(1, 1), (-1, 2)] (by decide)
  simp only [qD, h0] at f0 f1 f2
  have m0 : M 4 210 = 1 * ρ 0 + 0 := hm (4, 210, [(1, 0)]) (by decide)
  have m1 : M 4 211 = 1 * ρ 1 + 0 := hm (4, 211, [(1, 1)]) (by decide)
  have m2 : M 4 101 = 1 * ρ 2 + 0 := hm (4, 101, [(1, 2)]) (by decide)
  have m3 : M 3 46 = 1 * ρ 3 + 0 := hm (3, 46, [(1, 3)]) (by decide)
  have m4 : M 3 47 = 1 * ρ 4 + 0 := hm (3, 47, [(1, 4)]) (by decide)
  have m5 : M 4 100 = 1 * ρ 5 + 0 := hm (4, 100, [(1, 5)]) (by decide)
  have m6 : M 3 50 = 1 * ρ 6 + 0 := hm (3, 50, [(1, 6)]) (by decide)
  have m7 : M 3 51 = 1 * ρ 7 + 0 := hm (3, 51, [(1, 7)]) (by decide)
  have m8 : M 4 108 = 1 * ρ 8 + 0 := hm (4, 108, [(1, 8)]) (by decide)
  simp only [h0] at m0
  obtain ⟨u1, u2, _⟩ := gx_xS8 hI (by omega)

  obtain ⟨t1, t2, t3, t4, t5, t6⟩ := tk_of hI (by omega) (by omega) (by omega) (show tAt (M 92) (M 4 101).toNat (M 4 211).toNat (M 4 107) (M 4 108) = (2, M 4 107, ((M 4 211).toNat : Int), ((M 4 211).toNat : Int), 4, M 4 108) from by
    unfold tAt
    rw [if_pos (by omega)])
  refine ⟨ρ, fun _ _ => rfl, fun f h => ?_, ?_⟩
  · have h : f ∈ ([[(-1, 1), (1, 3)], [(1, 1), (-1, 3)], [(-1, 1), (1, 4)], [(1, 1), (-1, 4)], [(-4, 0), (1, 6)], [(4, 0), (-1, 6)], [(1, 7), (-1, 8)], [(-1, 7), (1, 8)]] : List qF) := h
    simp only [List.mem_cons, List.not_mem_nil, or_false] at h
    rcases h with rfl | rfl | rfl | rfl | rfl | rfl | rfl | rfl
    · show 0 ≤ -1 * ρ 1 + (1 * ρ 3 + 0)
      (try rw [h0]); omega
    · show 0 ≤ 1 * ρ 1 + (-1 * ρ 3 + 0)
      (try rw [h0]); omega
    · show 0 ≤ -1 * ρ 1 + (1 * ρ 4 + 0)
      (try rw [h0]); omega
    · show 0 ≤ 1 * ρ 1 + (-1 * ρ 4 + 0)
      (try rw [h0]); omega
    · show 0 ≤ -4 * ρ 0 + (1 * ρ 6 + 0)
      (try rw [h0]); omega
    · show 0 ≤ 4 * ρ 0 + (-1 * ρ 6 + 0)
      (try rw [h0]); omega
    · show 0 ≤ 1 * ρ 7 + (-1 * ρ 8 + 0)
      (try rw [h0]); omega
    · show 0 ≤ -1 * ρ 7 + (1 * ρ 8 + 0)
      (try rw [h0]); omega
  · show sI M
    exact hI
-- sign59_c
def xr_151 : qRu := (10, [[(-1, 0), (1, 5)], [(1, 1)], [(-1, 0), (-1, 1), (1, 2)], [(-59, 0), (1, 9)], [(59, 0), (-1, 9)]], [(4, 210, [(1, 0)]), (4, 211, [(1, 1)]), (4, 101, [(1, 2)]), (3, 46, [(1, 3)]), (3, 47, [(1, 4)]), (4, 100, [(1, 5)]), (3, 44, [(1, 6)]), (3, 45, [(1, 7)]), (4, 107, [(1, 8)]), (4, 212, [(1, 0)]), (4, 213, [(1, 9)])], [], [], [[(-1, 1), (1, 3)], [(1, 1), (-1, 3)], [(-1, 0), (-1, 1), (1, 4)], [(1, 0), (1, 1), (-1, 4)], [(-5, 0), (1, 6)], [(5, 0), (-1, 6)], [(1, 7), (-1, 8)], [(-1, 7), (1, 8)]])
theorem xo_151 : qRok xr_151 := by
  intro ρ M h0 hf hm hI
  have f0 := hf [(-1, 0), (1, 5)] (by decide)
  have f1 := hf [(1, 1)] (by decide)
  have f2 := hf [(-1, 0), (-1, 1), (1, 2)] (by decide)
  have f3 := hf [(-59, 0), (1, 9)] (by decide)
  have f4 := hf [(59, 0), (-1, 9)] (by decide)
  simp only [qD, h0] at f0 f1 f2 f3 f4
  have m0 : M 4 210 = 1 * ρ 0 + 0 := hm (4, 210, [(1, 0)]) (by decide)
  have m1 : M 4 211 = 1 * ρ 1 + 0 := hm (4, 211, [(1, 1)]) (by decide)
  have m2 : M 4 101 = 1 * ρ 2 + 0 := hm (4, 101, [(1, 2)]) (by decide)
  have m3 : M 3 46 = 1 * ρ 3 + 0 := hm (3, 46, [(1, 3)]) (by decide)
  have m4 : M 3 47 = 1 * ρ 4 + 0 := hm (3, 47, [(1, 4)]) (by decide)
  have m5 : M 4 100 = 1 * ρ 5 + 0 := hm (4, 100, [(1, 5)]) (by decide)
  have m6 : M 3 44 = 1 * ρ 6 + 0 := hm (3, 44, [(1, 6)]) (by decide)
  have m7 : M 3 45 = 1 * ρ 7 + 0 := hm (3, 45, [(1, 7)]) (by decide)
  have m8 : M 4 107 = 1 * ρ 8 + 0 := hm (4, 107, [(1, 8)]) (by decide)
  have m9 : M 4 212 = 1 * ρ 0 + 0 := hm (4, 212, [(1, 0)]) (by decide)
  have m10 : M 4 213 = 1 * ρ 9 + 0 := hm (4, 213, [(1, 9)]) (by decide)
  simp only [h0] at m0 m9
  obtain ⟨u1, u2, _⟩ := gx_xS8 hI (by omega)

  have hx : M 4 213 = M 92 (M 4 211).toNat := gx_xS9 hI (by omega)

  obtain ⟨t1, t2, t3, t4, t5, t6⟩ := tk_of hI (by omega) (by omega) (by omega) (show tAt (M 92) (M 4 101).toNat (M 4 211).toNat (M 4 107) (M 4 108) = (5, M 4 107, ((M 4 211).toNat : Int), ((M 4 211).toNat : Int) + 1, 3, 59) from by
    unfold tAt
    rw [if_neg (by omega), if_neg (by omega), if_neg (by omega), if_neg (by omega), if_neg (by omega), if_neg (by omega)]
    rw [show M 92 (M 4 211).toNat = 59 by omega]
    rfl)
  refine ⟨ρ, fun _ _ => rfl, fun f h => ?_, ?_⟩
  · have h : f ∈ ([[(-1, 1), (1, 3)], [(1, 1), (-1, 3)], [(-1, 0), (-1, 1), (1, 4)], [(1, 0), (1, 1), (-1, 4)], [(-5, 0), (1, 6)], [(5, 0), (-1, 6)], [(1, 7), (-1, 8)], [(-1, 7), (1, 8)]] : List qF) := h
    simp only [List.mem_cons, List.not_mem_nil, or_false] at h
    rcases h with rfl | rfl | rfl | rfl | rfl | rfl | rfl | rfl
    · show 0 ≤ -1 * ρ 1 + (1 * ρ 3 + 0)
      (try rw [h0]); omega
    · show 0 ≤ 1 * ρ 1 + (-1 * ρ 3 + 0)
      (try rw [h0]); omega
    · show 0 ≤ -1 * ρ 0 + (-1 * ρ 1 + (1 * ρ 4 + 0))
      (try rw [h0]); omega
    · show 0 ≤ 1 * ρ 0 + (1 * ρ 1 + (-1 * ρ 4 + 0))
      (try rw [h0]); omega
    · show 0 ≤ -5 * ρ 0 + (1 * ρ 6 + 0)
      (try rw [h0]); omega
    · show 0 ≤ 5 * ρ 0 + (-1 * ρ 6 + 0)
      (try rw [h0]); omega
    · show 0 ≤ 1 * ρ 7 + (-1 * ρ 8 + 0)
      (try rw [h0]); omega
    · show 0 ≤ -1 * ρ 7 + (1 * ρ 8 + 0)
      (try rw [h0]); omega
  · show sI M
    exact hI
-- sign59_r
def xr_152 : qRu := (10, [[(-1, 0), (1, 5)], [(1, 1)], [(-1, 0), (-1, 1), (1, 2)], [(-59, 0), (1, 9)], [(59, 0), (-1, 9)]], [(4, 210, [(1, 0)]), (4, 211, [(1, 1)]), (4, 101, [(1, 2)]), (3, 46, [(1, 3)]), (3, 47, [(1, 4)]), (4, 100, [(1, 5)]), (3, 50, [(1, 6)]), (3, 51, [(1, 7)]), (4, 108, [(1, 8)]), (4, 212, [(1, 0)]), (4, 213, [(1, 9)])], [], [], [[(-1, 1), (1, 3)], [(1, 1), (-1, 3)], [(-1, 0), (-1, 1), (1, 4)], [(1, 0), (1, 1), (-1, 4)], [(-3, 0), (1, 6)], [(3, 0), (-1, 6)], [(-59, 0), (1, 7)], [(59, 0), (-1, 7)]])
theorem xo_152 : qRok xr_152 := by
  intro ρ M h0 hf hm hI
  have f0 := hf [(-1, 0), (1, 5)] (by decide)
  have f1 := hf [(1, 1)] (by decide)
  have f2 := hf [(-1, 0), (-1, 1), (1, 2)] (by decide)
  have f3 := hf [(-59, 0), (1, 9)] (by decide)
  have f4 := hf [(59, 0), (-1, 9)] (by decide)
  simp only [qD, h0] at f0 f1 f2 f3 f4
  have m0 : M 4 210 = 1 * ρ 0 + 0 := hm (4, 210, [(1, 0)]) (by decide)
  have m1 : M 4 211 = 1 * ρ 1 + 0 := hm (4, 211, [(1, 1)]) (by decide)
  have m2 : M 4 101 = 1 * ρ 2 + 0 := hm (4, 101, [(1, 2)]) (by decide)
  have m3 : M 3 46 = 1 * ρ 3 + 0 := hm (3, 46, [(1, 3)]) (by decide)
  have m4 : M 3 47 = 1 * ρ 4 + 0 := hm (3, 47, [(1, 4)]) (by decide)
  have m5 : M 4 100 = 1 * ρ 5 + 0 := hm (4, 100, [(1, 5)]) (by decide)
  have m6 : M 3 50 = 1 * ρ 6 + 0 := hm (3, 50, [(1, 6)]) (by decide)
  have m7 : M 3 51 = 1 * ρ 7 + 0 := hm (3, 51, [(1, 7)]) (by decide)
  have m8 : M 4 108 = 1 * ρ 8 + 0 := hm (4, 108, [(1, 8)]) (by decide)
  have m9 : M 4 212 = 1 * ρ 0 + 0 := hm (4, 212, [(1, 0)]) (by decide)
  have m10 : M 4 213 = 1 * ρ 9 + 0 := hm (4, 213, [(1, 9)]) (by decide)
  simp only [h0] at m0 m9
  obtain ⟨u1, u2, _⟩ := gx_xS8 hI (by omega)

  have hx : M 4 213 = M 92 (M 4 211).toNat := gx_xS9 hI (by omega)

  obtain ⟨t1, t2, t3, t4, t5, t6⟩ := tk_of hI (by omega) (by omega) (by omega) (show tAt (M 92) (M 4 101).toNat (M 4 211).toNat (M 4 107) (M 4 108) = (5, M 4 107, ((M 4 211).toNat : Int), ((M 4 211).toNat : Int) + 1, 3, 59) from by
    unfold tAt
    rw [if_neg (by omega), if_neg (by omega), if_neg (by omega), if_neg (by omega), if_neg (by omega), if_neg (by omega)]
    rw [show M 92 (M 4 211).toNat = 59 by omega]
    rfl)
  refine ⟨ρ, fun _ _ => rfl, fun f h => ?_, ?_⟩
  · have h : f ∈ ([[(-1, 1), (1, 3)], [(1, 1), (-1, 3)], [(-1, 0), (-1, 1), (1, 4)], [(1, 0), (1, 1), (-1, 4)], [(-3, 0), (1, 6)], [(3, 0), (-1, 6)], [(-59, 0), (1, 7)], [(59, 0), (-1, 7)]] : List qF) := h
    simp only [List.mem_cons, List.not_mem_nil, or_false] at h
    rcases h with rfl | rfl | rfl | rfl | rfl | rfl | rfl | rfl
    · show 0 ≤ -1 * ρ 1 + (1 * ρ 3 + 0)
      (try rw [h0]); omega
    · show 0 ≤ 1 * ρ 1 + (-1 * ρ 3 + 0)
      (try rw [h0]); omega
    · show 0 ≤ -1 * ρ 0 + (-1 * ρ 1 + (1 * ρ 4 + 0))
      (try rw [h0]); omega
    · show 0 ≤ 1 * ρ 0 + (1 * ρ 1 + (-1 * ρ 4 + 0))
      (try rw [h0]); omega
    · show 0 ≤ -3 * ρ 0 + (1 * ρ 6 + 0)
      (try rw [h0]); omega
    · show 0 ≤ 3 * ρ 0 + (-1 * ρ 6 + 0)
      (try rw [h0]); omega
    · show 0 ≤ -59 * ρ 0 + (1 * ρ 7 + 0)
      (try rw [h0]); omega
    · show 0 ≤ 59 * ρ 0 + (-1 * ρ 7 + 0)
      (try rw [h0]); omega
  · show sI M
    exact hI
-- sign40_c
def xr_153 : qRu := (10, [[(-1, 0), (1, 5)], [(1, 1)], [(-1, 0), (-1, 1), (1, 2)], [(-40, 0), (1, 9)], [(40, 0), (-1, 9)]], [(4, 210, [(1, 0)]), (4, 211, [(1, 1)]), (4, 101, [(1, 2)]), (3, 46, [(1, 3)]), (3, 47, [(1, 4)]), (4, 100, [(1, 5)]), (3, 44, [(1, 6)]), (3, 45, [(1, 7)]), (4, 107, [(1, 8)]), (4, 212, [(1, 0)]), (4, 213, [(1, 9)])], [], [], [[(-1, 1), (1, 3)], [(1, 1), (-1, 3)], [(-1, 0), (-1, 1), (1, 4)], [(1, 0), (1, 1), (-1, 4)], [(-6, 0), (1, 6)], [(6, 0), (-1, 6)], [(1, 7), (-1, 8)], [(-1, 7), (1, 8)]])
theorem xo_153 : qRok xr_153 := by
  intro ρ M h0 hf hm hI
  have f0 := hf [(-1, 0), (1, 5)] (by decide)
  have f1 := hf [(1, 1)] (by decide)
  have f2 := hf [(-1, 0), (-1, 1), (1, 2)] (by decide)
  have f3 := hf [(-40, 0), (1, 9)] (by decide)
  have f4 := hf [(40, 0), (-1, 9)] (by decide)
  simp only [qD, h0] at f0 f1 f2 f3 f4
  have m0 : M 4 210 = 1 * ρ 0 + 0 := hm (4, 210, [(1, 0)]) (by decide)
  have m1 : M 4 211 = 1 * ρ 1 + 0 := hm (4, 211, [(1, 1)]) (by decide)
  have m2 : M 4 101 = 1 * ρ 2 + 0 := hm (4, 101, [(1, 2)]) (by decide)
  have m3 : M 3 46 = 1 * ρ 3 + 0 := hm (3, 46, [(1, 3)]) (by decide)
  have m4 : M 3 47 = 1 * ρ 4 + 0 := hm (3, 47, [(1, 4)]) (by decide)
  have m5 : M 4 100 = 1 * ρ 5 + 0 := hm (4, 100, [(1, 5)]) (by decide)
  have m6 : M 3 44 = 1 * ρ 6 + 0 := hm (3, 44, [(1, 6)]) (by decide)
  have m7 : M 3 45 = 1 * ρ 7 + 0 := hm (3, 45, [(1, 7)]) (by decide)
  have m8 : M 4 107 = 1 * ρ 8 + 0 := hm (4, 107, [(1, 8)]) (by decide)
  have m9 : M 4 212 = 1 * ρ 0 + 0 := hm (4, 212, [(1, 0)]) (by decide)
  have m10 : M 4 213 = 1 * ρ 9 + 0 := hm (4, 213, [(1, 9)]) (by decide)
  simp only [h0] at m0 m9
  obtain ⟨u1, u2, _⟩ := gx_xS8 hI (by omega)

  have hx : M 4 213 = M 92 (M 4 211).toNat := gx_xS9 hI (by omega)

  obtain ⟨t1, t2, t3, t4, t5, t6⟩ := tk_of hI (by omega) (by omega) (by omega) (show tAt (M 92) (M 4 101).toNat (M 4 211).toNat (M 4 107) (M 4 108) = (6, M 4 107, ((M 4 211).toNat : Int), ((M 4 211).toNat : Int) + 1, 3, 40) from by
    unfold tAt
    rw [if_neg (by omega), if_neg (by omega), if_neg (by omega), if_neg (by omega), if_neg (by omega), if_neg (by omega)]
    rw [show M 92 (M 4 211).toNat = 40 by omega]
    rfl)
  refine ⟨ρ, fun _ _ => rfl, fun f h => ?_, ?_⟩
  · have h : f ∈ ([[(-1, 1), (1, 3)], [(1, 1), (-1, 3)], [(-1, 0), (-1, 1), (1, 4)], [(1, 0), (1, 1), (-1, 4)], [(-6, 0), (1, 6)], [(6, 0), (-1, 6)], [(1, 7), (-1, 8)], [(-1, 7), (1, 8)]] : List qF) := h
    simp only [List.mem_cons, List.not_mem_nil, or_false] at h
    rcases h with rfl | rfl | rfl | rfl | rfl | rfl | rfl | rfl
    · show 0 ≤ -1 * ρ 1 + (1 * ρ 3 + 0)
      (try rw [h0]); omega
    · show 0 ≤ 1 * ρ 1 + (-1 * ρ 3 + 0)
      (try rw [h0]); omega
    · show 0 ≤ -1 * ρ 0 + (-1 * ρ 1 + (1 * ρ 4 + 0))
      (try rw [h0]); omega
    · show 0 ≤ 1 * ρ 0 + (1 * ρ 1 + (-1 * ρ 4 + 0))
      (try rw [h0]); omega
    · show 0 ≤ -6 * ρ 0 + (1 * ρ 6 + 0)
      (try rw [h0]); omega
    · show 0 ≤ 6 * ρ 0 + (-1 * ρ 6 + 0)
      (try rw [h0]); omega
    · show 0 ≤ 1 * ρ 7 + (-1 * ρ 8 + 0)
      (try rw [h0]); omega
    · show 0 ≤ -1 * ρ 7 + (1 * ρ 8 + 0)
      (try rw [h0]); omega
  · show sI M
    exact hI
-- sign40_r
def xr_154 : qRu := (10, [[(-1, 0), (1, 5)], [(1, 1)], [(-1, 0), (-1, 1), (1, 2)], [(-40, 0), (1, 9)], [(40, 0), (-1, 9)]], [(4, 210, [(1, 0)]), (4, 211, [(1, 1)]), (4, 101, [(1, 2)]), (3, 46, [(1, 3)]), (3, 47, [(1, 4)]), (4, 100, [(1, 5)]), (3, 50, [(1, 6)]), (3, 51, [(1, 7)]), (4, 108, [(1, 8)]), (4, 212, [(1, 0)]), (4, 213, [(1, 9)])], [], [], [[(-1, 1), (1, 3)], [(1, 1), (-1, 3)], [(-1, 0), (-1, 1), (1, 4)], [(1, 0), (1, 1), (-1, 4)], [(-3, 0), (1, 6)], [(3, 0), (-1, 6)], [(-40, 0), (1, 7)], [(40, 0), (-1, 7)]])
theorem xo_154 : qRok xr_154 := by
  intro ρ M h0 hf hm hI
  have f0 := hf [(-1, 0), (1, 5)] (by decide)
  have f1 := hf [(1, 1)] (by decide)
  have f2 := hf [(-1, 0), (-1, 1), (1, 2)] (by decide)
  have f3 := hf [(-40, 0), (1, 9)] (by decide)
  have f4 := hf [(40, 0), (-1, 9)] (by decide)
  simp only [qD, h0] at f0 f1 f2 f3 f4
  have m0 : M 4 210 = 1 * ρ 0 + 0 := hm (4, 210, [(1, 0)]) (by decide)
  have m1 : M 4 211 = 1 * ρ 1 + 0 := hm (4, 211, [(1, 1)]) (by decide)
  have m2 : M 4 101 = 1 * ρ 2 + 0 := hm (4, 101, [(1, 2)]) (by decide)
  have m3 : M 3 46 = 1 * ρ 3 + 0 := hm (3, 46, [(1, 3)]) (by decide)
  have m4 : M 3 47 = 1 * ρ 4 + 0 := hm (3, 47, [(1, 4)]) (by decide)
  have m5 : M 4 100 = 1 * ρ 5 + 0 := hm (4, 100, [(1, 5)]) (by decide)
  have m6 : M 3 50 = 1 * ρ 6 + 0 := hm (3, 50, [(1, 6)]) (by decide)
  have m7 : M 3 51 = 1 * ρ 7 + 0 := hm (3, 51, [(1, 7)]) (by decide)
  have m8 : M 4 108 = 1 * ρ 8 + 0 := hm (4, 108, [(1, 8)]) (by decide)
  have m9 : M 4 212 = 1 * ρ 0 + 0 := hm (4, 212, [(1, 0)]) (by decide)
  have m10 : M 4 213 = 1 * ρ 9 + 0 := hm (4, 213, [(1, 9)]) (by decide)
  simp only [h0] at m0 m9
  obtain ⟨u1, u2, _⟩ := gx_xS8 hI (by omega)

  have hx : M 4 213 = M 92 (M 4 211).toNat := gx_xS9 hI (by omega)

  obtain ⟨t1, t2, t3, t4, t5, t6⟩ := tk_of hI (by omega) (by omega) (by omega) (show tAt (M 92) (M 4 101).toNat (M 4 211).toNat (M 4 107) (M 4 108) = (6, M 4 107, ((M 4 211).toNat : Int), ((M 4 211).toNat : Int) + 1, 3, 40) from by
    unfold tAt
    rw [if_neg (by omega), if_neg (by omega), if_neg (by omega), if_neg (by omega), if_neg (by omega), if_neg (by omega)]
    rw [show M 92 (M 4 211).toNat = 40 by omega]
    rfl)
  refine ⟨ρ, fun _ _ => rfl, fun f h => ?_, ?_⟩
  · have h : f ∈ ([[(-1, 1), (1, 3)], [(1, 1), (-1, 3)], [(-1, 0), (-1, 1), (1, 4)], [(1, 0), (1, 1), (-1, 4)], [(-3, 0), (1, 6)], [(3, 0), (-1, 6)], [(-40, 0), (1, 7)], [(40, 0), (-1, 7)]] : List qF) := h
    simp only [List.mem_cons, List.not_mem_nil, or_false] at h
    rcases h with rfl | rfl | rfl | rfl | rfl | rfl | rfl | rfl
    · show 0 ≤ -1 * ρ 1 + (1 * ρ 3 + 0)
      (try rw [h0]); omega
    · show 0 ≤ 1 * ρ 1 + (-1 * ρ 3 + 0)
      (try rw [h0]); omega
    · show 0 ≤ -1 * ρ 0 + (-1 * ρ 1 + (1 * ρ 4 + 0))
      (try rw [h0]); omega
    · show 0 ≤ 1 * ρ 0 + (1 * ρ 1 + (-1 * ρ 4 + 0))
      (try rw [h0]); omega
    · show 0 ≤ -3 * ρ 0 + (1 * ρ 6 + 0)
      (try rw [h0]); omega
    · show 0 ≤ 3 * ρ 0 + (-1 * ρ 6 + 0)
      (try rw [h0]); omega
    · show 0 ≤ -40 * ρ 0 + (1 * ρ 7 + 0)
      (try rw [h0]); omega
    · show 0 ≤ 40 * ρ 0 + (-1 * ρ 7 + 0)
      (try rw [h0]); omega
  · show sI M
    exact hI
-- sign41_c
def xr_155 : qRu := (10, [[(-1, 0), (1, 5)], [(1, 1)], [(-1, 0), (-1, 1), (1, 2)], [(-41, 0), (1, 9)], [(41, 0), (-1, 9)]], [(4, 210, [(1, 0)]), (4, 211, [(1, 1)]), (4, 101, [(1, 2)]), (3, 46, [(1, 3)]), (3, 47, [(1, 4)]), (4, 100, [(1, 5)]), (3, 44, [(1, 6)]), (3, 45, [(1, 7)]), (4, 107, [(1, 8)]), (4, 212, [(1, 0)]), (4, 213, [(1, 9)])], [], [], [[(-1, 1), (1, 3)], [(1, 1), (-1, 3)], [(-1, 0), (-1, 1), (1, 4)], [(1, 0), (1, 1), (-1, 4)], [(-7, 0), (1, 6)], [(7, 0), (-1, 6)], [(1, 7), (-1, 8)], [(-1, 7), (1, 8)]])
theorem xo_155 : qRok xr_155 := by
  intro ρ M h0 hf hm hI
  have f0 := hf [(-1, 0), (1, 5)] (by decide)
  have f1 := hf [(1, 1)] (by decide)
  have f2 := hf [(-1, 0), (-1, 1), (1, 2)] (by decide)
  have f3 := hf [(-41, 0), (1, 9)] (by decide)
  have f4 := hf [(41, 0), (-1, 9)] (by decide)
  simp only [qD, h0] at f0 f1 f2 f3 f4
  have m0 : M 4 210 = 1 * ρ 0 + 0 := hm (4, 210, [(1, 0)]) (by decide)
  have m1 : M 4 211 = 1 * ρ 1 + 0 := hm (4, 211, [(1, 1)]) (by decide)
  have m2 : M 4 101 = 1 * ρ 2 + 0 := hm (4, 101, [(1, 2)]) (by decide)
  have m3 : M 3 46 = 1 * ρ 3 + 0 := hm (3, 46, [(1, 3)]) (by decide)
  have m4 : M 3 47 = 1 * ρ 4 + 0 := hm (3, 47, [(1, 4)]) (by decide)
  have m5 : M 4 100 = 1 * ρ 5 + 0 := hm (4, 100, [(1, 5)]) (by decide)
  have m6 : M 3 44 = 1 * ρ 6 + 0 := hm (3, 44, [(1, 6)]) (by decide)
  have m7 : M 3 45 = 1 * ρ 7 + 0 := hm (3, 45, [(1, 7)]) (by decide)
  have m8 : M 4 107 = 1 * ρ 8 + 0 := hm (4, 107, [(1, 8)]) (by decide)
  have m9 : M 4 212 = 1 * ρ 0 + 0 := hm (4, 212, [(1, 0)]) (by decide)
  have m10 : M 4 213 = 1 * ρ 9 + 0 := hm (4, 213, [(1, 9)]) (by decide)
  simp only [h0] at m0 m9
  obtain ⟨u1, u2, _⟩ := gx_xS8 hI (by omega)

  have hx : M 4 213 = M 92 (M 4 211).toNat := gx_xS9 hI (by omega)

  obtain ⟨t1, t2, t3, t4, t5, t6⟩ := tk_of hI (by omega) (by omega) (by omega) (show tAt (M 92) (M 4 101).toNat (M 4 211).toNat (M 4 107) (M 4 108) = (7, M 4 107, ((M 4 211).toNat : Int), ((M 4 211).toNat : Int) + 1, 3, 41) from by
    unfold tAt
    rw [if_neg (by omega), if_neg (by omega), if_neg (by omega), if_neg (by omega), if_neg (by omega), if_neg (by omega)]
    rw [show M 92 (M 4 211).toNat = 41 by omega]
    rfl)
  refine ⟨ρ, fun _ _ => rfl, fun f h => ?_, ?_⟩
  · have h : f ∈ ([[(-1, 1), (1, 3)], [(1, 1), (-1, 3)], [(-1, 0), (-1, 1), (1, 4)], [(1, 0), (1, 1), (-1, 4)], [(-7, 0), (1, 6)], [(7, 0), (-1, 6)], [(1, 7), (-1, 8)], [(-1, 7), (1, 8)]] : List qF) := h
    simp only [List.mem_cons, List.not_mem_nil, or_false] at h
    rcases h with rfl | rfl | rfl | rfl | rfl | rfl | rfl | rfl
    · show 0 ≤ -1 * ρ 1 + (1 * ρ 3 + 0)
      (try rw [h0]); omega
    · show 0 ≤ 1 * ρ 1 + (-1 * ρ 3 + 0)
      (try rw [h0]); omega
    · show 0 ≤ -1 * ρ 0 + (-1 * ρ 1 + (1 * ρ 4 + 0))
      (try rw [h0]); omega
    · show 0 ≤ 1 * ρ 0 + (1 * ρ 1 + (-1 * ρ 4 + 0))
      (try rw [h0]); omega
    · show 0 ≤ -7 * ρ 0 + (1 * ρ 6 + 0)
      (try rw [h0]); omega
    · show 0 ≤ 7 * ρ 0 + (-1 * ρ 6 + 0)
      (try rw [h0]); omega
    · show 0 ≤ 1 * ρ 7 + (-1 * ρ 8 + 0)
      (try rw [h0]); omega
    · show 0 ≤ -1 * ρ 7 + (1 * ρ 8 + 0)
      (try rw [h0]); omega
  · show sI M
    exact hI
-- sign41_r
def xr_156 : qRu := (10, [[(-1, 0), (1, 5)], [(1, 1)], [(-1, 0), (-1, 1), (1, 2)], [(-41, 0), (1, 9)], [(41, 0), (-1, 9)]], [(4, 210, [(1, 0)]), (4, 211, [(1, 1)]), (4, 101, [(1, 2)]), (3, 46, [(1, 3)]), (3, 47, [(1, 4)]), (4, 100, [(1, 5)]), (3, 50, [(1, 6)]), (3, 51, [(1, 7)]), (4, 108, [(1, 8)]), (4, 212, [(1, 0)]), (4, 213, [(1, 9)])], [], [], [[(-1, 1), (1, 3)], [(1, 1), (-1, 3)], [(-1, 0), (-1, 1), (1, 4)], [(1, 0), (1, 1), (-1, 4)], [(-3, 0), (1, 6)], [(3, 0), (-1, 6)], [(-41, 0), (1, 7)], [(41, 0), (-1, 7)]])
theorem xo_156 : qRok xr_156 := by
  intro ρ M h0 hf hm hI
  have f0 := hf [(-1, 0), (1, 5)] (by decide)
  have f1 := hf [(1, 1)] (by decide)
  have f2 := hf [(-1, 0), (-1, 1), (1, 2)] (by decide)
  have f3 := hf [(-41, 0), (1, 9)] (by decide)
  have f4 := hf [(41, 0), (-1, 9)] (by decide)
  simp only [qD, h0] at f0 f1 f2 f3 f4
  have m0 : M 4 210 = 1 * ρ 0 + 0 := hm (4, 210, [(1, 0)]) (by decide)
  have m1 : M 4 211 = 1 * ρ 1 + 0 := hm (4, 211, [(1, 1)]) (by decide)
  have m2 : M 4 101 = 1 * ρ 2 + 0 := hm (4, 101, [(1, 2)]) (by decide)
  have m3 : M 3 46 = 1 * ρ 3 + 0 := hm (3, 46, [(1, 3)]) (by decide)
  have m4 : M 3 47 = 1 * ρ 4 + 0 := hm (3, 47, [(1, 4)]) (by decide)
  have m5 : M 4 100 = 1 * ρ 5 + 0 := hm (4, 100, [(1, 5)]) (by decide)
  have m6 : M 3 50 = 1 * ρ 6 + 0 := hm (3, 50, [(1, 6)]) (by decide)
  have m7 : M 3 51 = 1 * ρ 7 + 0 := hm (3, 51, [(1, 7)]) (by decide)
  have m8 : M 4 108 = 1 * ρ 8 + 0 := hm (4, 108, [(1, 8)]) (by decide)
  have m9 : M 4 212 = 1 * ρ 0 + 0 := hm (4, 212, [(1, 0)]) (by decide)
  have m10 : M 4 213 = 1 * ρ 9 + 0 := hm (4, 213, [(1, 9)]) (by decide)
  simp only [h0] at m0 m9
  obtain ⟨u1, u2, _⟩ := gx_xS8 hI (by omega)

  have hx : M 4 213 = M 92 (M 4 211).toNat := gx_xS9 hI (by omega)

  obtain ⟨t1, t2, t3, t4, t5, t6⟩ := tk_of hI (by omega) (by omega) (by omega) (show tAt (M 92) (M 4 101).toNat (M 4 211).toNat (M 4 107) (M 4 108) = (7, M 4 107, ((M 4 211).toNat : Int), ((M 4 211).toNat : Int) + 1, 3, 41) from by
    unfold tAt
    rw [if_neg (by omega), if_neg (by omega), if_neg (by omega), if_neg (by omega), if_neg (by omega), if_neg (by omega)]
    rw [show M 92 (M 4 211).toNat = 41 by omega]
    rfl)
  refine ⟨ρ, fun _ _ => rfl, fun f h => ?_, ?_⟩
  · have h : f ∈ ([[(-1, 1), (1, 3)], [(1, 1), (-1, 3)], [(-1, 0), (-1, 1), (1, 4)], [(1, 0), (1, 1), (-1, 4)], [(-3, 0), (1, 6)], [(3, 0), (-1, 6)], [(-41, 0), (1, 7)], [(41, 0), (-1, 7)]] : List qF) := h
    simp only [List.mem_cons, List.not_mem_nil, or_false] at h
    rcases h with rfl | rfl | rfl | rfl | rfl | rfl | rfl | rfl
    · show 0 ≤ -1 * ρ 1 + (1 * ρ 3 + 0)
      (try rw [h0]); omega
    · show 0 ≤ 1 * ρ 1 + (-1 * ρ 3 + 0)
      (try rw [h0]); omega
    · show 0 ≤ -1 * ρ 0 + (-1 * ρ 1 + (1 * ρ 4 + 0))
      (try rw [h0]); omega
    · show 0 ≤ 1 * ρ 0 + (1 * ρ 1 + (-1 * ρ 4 + 0))
      (try rw [h0]); omega
    · show 0 ≤ -3 * ρ 0 + (1 * ρ 6 + 0)
      (try rw [h0]); omega
    · show 0 ≤ 3 * ρ 0 + (-1 * ρ 6 + 0)
      (try rw [h0]); omega
    · show 0 ≤ -41 * ρ 0 + (1 * ρ 7 + 0)
      (try rw [h0]); omega
    · show 0 ≤ 41 * ρ 0 + (-1 * ρ 7 + 0)
      (try rw [h0]); omega
  · show sI M
    exact hI
-- sign43_c
def xr_157 : qRu := (10, [[(-1, 0), (1, 5)], [(1, 1)], [(-1, 0), (-1, 1), (1, 2)], [(-43, 0), (1, 9)], [(43, 0), (-1, 9)]], [(4, 210, [(1, 0)]), (4, 211, [(1, 1)]), (4, 101, [(1, 2)]), (3, 46, [(1, 3)]), (3, 47, [(1, 4)]), (4, 100, [(1, 5)]), (3, 44, [(1, 6)]), (3, 45, [(1, 7)]), (4, 107, [(1, 8)]), (4, 212, [(1, 0)]), (4, 213, [(1, 9)])], [], [], [[(-1, 1), (1, 3)], [(1, 1), (-1, 3)], [(-1, 0), (-1, 1), (1, 4)], [(1, 0), (1, 1), (-1, 4)], [(-8, 0), (1, 6)], [(8, 0), (-1, 6)], [(1, 7), (-1, 8)], [(-1, 7), (1, 8)]])
theorem xo_157 : qRok xr_157 := by
  intro ρ M h0 hf hm hI
  have f0 := hf [(-1, 0), (1, 5)] (by decide)
  have f1 := hf [(1, 1)] (by decide)
  have f2 := hf [(-1, 0), (-1, 1), (1, 2)] (by decide)
  have f3 := hf [(-43, 0), (1, 9)] (by decide)
  have f4 := hf [(43, 0), (-1, 9)] (by decide)
  simp only [qD, h0] at f0 f1 f2 f3 f4
  have m0 : M 4 210 = 1 * ρ 0 + 0 := hm (4, 210, [(1, 0)]) (by decide)
  have m1 : M 4 211 = 1 * ρ 1 + 0 := hm (4, 211, [(1, 1)]) (by decide)
  have m2 : M 4 101 = 1 * ρ 2 + 0 := hm (4, 101, [(1, 2)]) (by decide)
  have m3 : M 3 46 = 1 * ρ 3 + 0 := hm (3, 46, [(1, 3)]) (by decide)
  have m4 : M 3 47 = 1 * ρ 4 + 0 := hm (3, 47, [(1, 4)]) (by decide)
  have m5 : M 4 100 = 1 * ρ 5 + 0 := hm (4, 100, [(1, 5)]) (by decide)
  have m6 : M 3 44 = 1 * ρ 6 + 0 := hm (3, 44, [(1, 6)]) (by decide)
  have m7 : M 3 45 = 1 * ρ 7 + 0 := hm (3, 45, [(1, 7)]) (by decide)
  have m8 : M 4 107 = 1 * ρ 8 + 0 := hm (4, 107, [(1, 8)]) (by decide)
  have m9 : M 4 212 = 1 * ρ 0 + 0 := hm (4, 212, [(1, 0)]) (by decide)
  have m10 : M 4 213 = 1 * ρ 9 + 0 := hm (4, 213, [(1, 9)]) (by decide)
  simp only [h0] at m0 m9
  obtain ⟨u1, u2, _⟩ := gx_xS8 hI (by omega)

  have hx : M 4 213 = M 92 (M 4 211).toNat := gx_xS9 hI (by omega)

  obtain ⟨t1, t2, t3, t4, t5, t6⟩ := tk_of hI (by omega) (by omega) (by omega) (show tAt (M 92) (M 4 101).toNat (M 4 211).toNat (M 4 107) (M 4 108) = (8, M 4 107, ((M 4 211).toNat : Int), ((M 4 211).toNat : Int) + 1, 3, 43) from by
    unfold tAt
    rw [if_neg (by omega), if_neg (by omega), if_neg (by omega), if_neg (by omega), if_neg (by omega), if_neg (by omega)]
    rw [show M 92 (M 4 211).toNat = 43 by omega]
    rfl)
  refine ⟨ρ, fun _ _ => rfl, fun f h => ?_, ?_⟩
  · have h : f ∈ ([[(-1, 1), (1, 3)], [(1, 1), (-1, 3)], [(-1, 0), (-1, 1), (1, 4)], [(1, 0), (1, 1), (-1, 4)], [(-8, 0), (1, 6)], [(8, 0), (-1, 6)], [(1, 7), (-1, 8)], [(-1, 7), (1, 8)]] : List qF) := h
    simp only [List.mem_cons, List.not_mem_nil, or_false] at h
    rcases h with rfl | rfl | rfl | rfl | rfl | rfl | rfl | rfl
    · show 0 ≤ -1 * ρ 1 + (1 * ρ 3 + 0)
      (try rw [h0]); omega
    · show 0 ≤ 1 * ρ 1 + (-1 * ρ 3 + 0)
      (try rw [h0]); omega
    · show 0 ≤ -1 * ρ 0 + (-1 * ρ 1 + (1 * ρ 4 + 0))
      (try rw [h0]); omega
    · show 0 ≤ 1 * ρ 0 + (1 * ρ 1 + (-1 * ρ 4 + 0))
      (try rw [h0]); omega
    · show 0 ≤ -8 * ρ 0 + (1 * ρ 6 + 0)
      (try rw [h0]); omega
    · show 0 ≤ 8 * ρ 0 + (-1 * ρ 6 + 0)
      (try rw [h0]); omega
    · show 0 ≤ 1 * ρ 7 + (-1 * ρ 8 + 0)
      (try rw [h0]); omega
    · show 0 ≤ -1 * ρ 7 + (1 * ρ 8 + 0)
      (try rw [h0]); omega
  · show sI M
    exact hI
-- sign43_r
def xr_158 : qRu := (10, [[(-1, 0), (1, 5)], [(1, 1)], [(-1, 0), (-1, 1), (1, 2)], [(-43, 0), (1, 9)], [(43, 0), (-1, 9)]], [(4, 210, [(1, 0)]), (4, 211, [(1, 1)]), (4, 101, [(1, 2)]), (3, 46, [(1, 3)]), (3, 47, [(1, 4)]), (4, 100, [(1, 5)]), (3, 50, [(1, 6)]), (3, 51, [(1, 7)]), (4, 108, [(1, 8)]), (4, 212, [(1, 0)]), (4, 213, [(1, 9)])], [], [], [[(-1, 1), (1, 3)], [(1, 1), (-1, 3)], [(-1, 0), (-1, 1), (1, 4)], [(1, 0), (1, 1), (-1, 4)], [(-3, 0), (1, 6)], [(3, 0), (-1, 6)], [(-43, 0), (1, 7)], [(43, 0), (-1, 7)]])
theorem xo_158 : qRok xr_158 := by
  intro ρ M h0 hf hm hI
  have f0 := hf [(-1, 0), (1, 5)] (by decide)
  have f1 := hf [(1, 1)] (by decide)
  have f2 := hf [(-1, 0), (-1, 1), (1, 2)] (by decide)
  have f3 := hf [(-43, 0), (1, 9)] (by decide)
  have f4 := hf [(43, 0), (-1, 9)] (by decide)
  simp only [qD, h0] at f0 f1 f2 f3 f4
  have m0 : M 4 210 = 1 * ρ 0 + 0 := hm (4, 210, [(1, 0)]) (by decide)
  have m1 : M 4 211 = 1 * ρ 1 + 0 := hm (4, 211, [(1, 1)]) (by decide)
  have m2 : M 4 101 = 1 * ρ 2 + 0 := hm (4, 101, [(1, 2)]) (by decide)
  have m3 : M 3 46 = 1 * ρ 3 + 0 := hm (3, 46, [(1, 3)]) (by decide)
  have m4 : M 3 47 = 1 * ρ 4 + 0 := hm (3, 47, [(1, 4)]) (by decide)
  have m5 : M 4 100 = 1 * ρ 5 + 0 := hm (4, 100, [(1, 5)]) (by decide)
  have m6 : M 3 50 = 1 * ρ 6 + 0 := hm (3, 50, [(1, 6)]) (by decide)
  have m7 : M 3 51 = 1 * ρ 7 + 0 := hm (3, 51, [(1, 7)]) (by decide)
  have m8 : M 4 108 = 1 * ρ 8 + 0 := hm (4, 108, [(1, 8)]) (by decide)
  have m9 : M 4 212 = 1 * ρ 0 + 0 := hm (4, 212, [(1, 0)]) (by decide)
  have m10 : M 4 213 = 1 * ρ 9 + 0 := hm (4, 213, [(1, 9)]) (by decide)
  simp only [h0] at m0 m9
  obtain ⟨u1, u2, _⟩ := gx_xS8 hI (by omega)

  have hx : M 4 213 = M 92 (M 4 211).toNat := gx_xS9 hI (by omega)

  obtain ⟨t1, t2, t3, t4, t5, t6⟩ := tk_of hI (by omega) (by omega) (by omega) (show tAt (M 92) (M 4 101).toNat (M 4 211).toNat (M 4 107) (M 4 108) = (8, M 4 107, ((M 4 211).toNat : Int), ((M 4 211).toNat : Int) + 1, 3, 43) from by
    unfold tAt
    rw [if_neg (by omega), if_neg (by omega), if_neg (by omega), if_neg (by omega), if_neg (by omega), if_neg (by omega)]
    rw [show M 92 (M 4 211).toNat = 43 by omega]
    rfl)
  refine ⟨ρ, fun _ _ => rfl, fun f h => ?_, ?_⟩
  · have h : f ∈ ([[(-1, 1), (1, 3)], [(1, 1), (-1, 3)], [(-1, 0), (-1, 1), (1, 4)], [(1, 0), (1, 1), (-1, 4)], [(-3, 0), (1, 6)], [(3, 0), (-1, 6)], [(-43, 0), (1, 7)], [(43, 0), (-1, 7)]] : List qF) := h
    simp only [List.mem_cons, List.not_mem_nil, or_false] at h
    rcases h with rfl | rfl | rfl | rfl | rfl | rfl | rfl | rfl
    · show 0 ≤ -1 * ρ 1 + (1 * ρ 3 + 0)
      (try rw [h0]); omega
    · show 0 ≤ 1 * ρ 1 + (-1 * ρ 3 + 0)
      (try rw [h0]); omega
    · show 0 ≤ -1 * ρ 0 + (-1 * ρ 1 + (1 * ρ 4 + 0))
      (try rw [h0]); omega
    · show 0 ≤ 1 * ρ 0 + (1 * ρ 1 + (-1 * ρ 4 + 0))
      (try rw [h0]); omega
    · show 0 ≤ -3 * ρ 0 + (1 * ρ 6 + 0)
      (try rw [h0]); omega
    · show 0 ≤ 3 * ρ 0 + (-1 * ρ 6 + 0)
      (try rw [h0]); omega
    · show 0 ≤ -43 * ρ 0 + (1 * ρ 7 + 0)
      (try rw [h0]); omega
    · show 0 ≤ 43 * ρ 0 + (-1 * ρ 7 + 0)
      (try rw [h0]); omega
  · show sI M
    exact hI
-- sign45_c
def xr_159 : qRu := (10, [[(-1, 0), (1, 5)], [(1, 1)], [(-1, 0), (-1, 1), (1, 2)], [(-45, 0), (1, 9)], [(45, 0), (-1, 9)]], [(4, 210, [(1, 0)]), (4, 211, [(1, 1)]), (4, 101, [(1, 2)]), (3, 46, [(1, 3)]), (3, 47, [(1, 4)]), (4, 100, [(1, 5)]), (3, 44, [(1, 6)]), (3, 45, [(1, 7)]), (4, 107, [(1, 8)]), (4, 212, [(1, 0)]), (4, 213, [(1, 9)])], [], [], [[(-1, 1), (1, 3)], [(1, 1), (-1, 3)], [(-1, 0), (-1, 1), (1, 4)], [(1, 0), (1, 1), (-1, 4)], [(-9, 0), (1, 6)], [(9, 0), (-1, 6)], [(1, 7), (-1, 8)], [(-1, 7), (1, 8)]])
theorem xo_159 : qRok xr_159 := by
  intro ρ M h0 hf hm hI
  have f0 := hf [(-1, 0), (1, 5)] (by decide)
  have f1 := hf [(1, 1)] (by decide)
  have f2 := hf [(-1, 0), (-1, 1), (1, 2)] (by decide)
  have f3 := hf [(-45, 0), (1, 9)] (by decide)
  have f4 := hf [(45, 0), (-1, 9)] (by decide)
  simp only [qD, h0] at f0 f1 f2 f3 f4
  have m0 : M 4 210 = 1 * ρ 0 + 0 := hm (4, 210, [(1, 0)]) (by decide)
  have m1 : M 4 211 = 1 * ρ 1 + 0 := hm (4, 211, [(1, 1)]) (by decide)
  have m2 : M 4 101 = 1 * ρ 2 + 0 := hm (4, 101, [(1, 2)]) (by decide)
  have m3 : M 3 46 = 1 * ρ 3 + 0 := hm (3, 46, [(1, 3)]) (by decide)
  have m4 : M 3 47 = 1 * ρ 4 + 0 := hm (3, 47, [(1, 4)]) (by decide)
  have m5 : M 4 100 = 1 * ρ 5 + 0 := hm (4, 100, [(1, 5)]) (by decide)
  have m6 : M 3 44 = 1 * ρ 6 + 0 := hm (3, 44, [(1, 6)]) (by decide)
  have m7 : M 3 45 = 1 * ρ 7 + 0 := hm (3, 45, [(1, 7)]) (by decide)
  have m8 : M 4 107 = 1 * ρ 8 + 0 := hm (4, 107, [(1, 8)]) (by decide)
  have m9 : M 4 212 = 1 * ρ 0 + 0 := hm (4, 212, [(1, 0)]) (by decide)
  have m10 : M 4 213 = 1 * ρ 9 + 0 := hm (4, 213, [(1, 9)]) (by decide)
  simp only [h0] at m0 m9
  obtain ⟨u1, u2, _⟩ := gx_xS8 hI (by omega)

  have hx : M 4 213 = M 92 (M 4 211).toNat := gx_xS9 hI (by omega)

  obtain ⟨t1, t2, t3, t4, t5, t6⟩ := tk_of hI (by omega) (by omega) (by omega) (show tAt (M 92) (M 4 101).toNat (M 4 211).toNat (M 4 107) (M 4 108) = (9, M 4 107, ((M 4 211).toNat : Int), ((M 4 211).toNat : Int) + 1, 3, 45) from by
    unfold tAt
    rw [if_neg (by omega), if_neg (by omega), if_neg (by omega), if_neg (by omega), if_neg (by omega), if_neg (by omega)]
    rw [show M 92 (M 4 211).toNat = 45 by omega]
    rfl)
  refine ⟨ρ, fun _ _ => rfl, fun f h => ?_, ?_⟩
  · have h : f ∈ ([[(-1, 1), (1, 3)], [(1, 1), (-1, 3)], [(-1, 0), (-1, 1), (1, 4)], [(1, 0), (1, 1), (-1, 4)], [(-9, 0), (1, 6)], [(9, 0), (-1, 6)], [(1, 7), (-1, 8)], [(-1, 7), (1, 8)]] : List qF) := h
    simp only [List.mem_cons, List.not_mem_nil, or_false] at h
    rcases h with rfl | rfl | rfl | rfl | rfl | rfl | rfl | rfl
    · show 0 ≤ -1 * ρ 1 + (1 * ρ 3 + 0)
      (try rw [h0]); omega
    · show 0 ≤ 1 * ρ 1 + (-1 * ρ 3 + 0)
      (try rw [h0]); omega
    · show 0 ≤ -1 * ρ 0 + (-1 * ρ 1 + (1 * ρ 4 + 0))
      (try rw [h0]); omega
    · show 0 ≤ 1 * ρ 0 + (1 * ρ 1 + (-1 * ρ 4 + 0))
      (try rw [h0]); omega
    · show 0 ≤ -9 * ρ 0 + (1 * ρ 6 + 0)
      (try rw [h0]); omega
    · show 0 ≤ 9 * ρ 0 + (-1 * ρ 6 + 0)
      (try rw [h0]); omega
    · show 0 ≤ 1 * ρ 7 + (-1 * ρ 8 + 0)
      (try rw [h0]); omega
    · show 0 ≤ -1 * ρ 7 + (1 * ρ 8 + 0)
      (try rw [h0]); omega
  · show sI M
    exact hI
-- sign45_r
def xr_160 : qRu := (10, [[(-1, 0), (1, 5)], [(1, 1)], [(-1, 0), (-1, 1), (1, 2)], [(-45, 0), (1, 9)], [(45, 0), (-1, 9)]], [(4, 210, [(1, 0)]), (4, 211, [(1, 1)]), (4, 101, [(1, 2)]), (3, 46, [(1, 3)]), (3, 47, [(1, 4)]), (4, 100, [(1, 5)]), (3, 50, [(1, 6)]), (3, 51, [(1, 7)]), (4, 108, [(1, 8)]), (4, 212, [(1, 0)]), (4, 213, [(1, 9)])], [], [], [[(-1, 1), (1, 3)], [(1, 1), (-1, 3)], [(-1, 0), (-1, 1), (1, 4)], [(1, 0), (1, 1), (-1, 4)], [(-3, 0), (1, 6)], [(3, 0), (-1, 6)], [(-45, 0), (1, 7)], [(45, 0), (-1, 7)]])
theorem xo_160 : qRok xr_160 := by
  intro ρ M h0 hf hm hI
  have f0 := hf [(-1, 0), (1, 5)] (by decide)
  have f1 := hf [(1, 1)] (by decide)
  have f2 := hf [(-1, 0), (-1, 1), (1, 2)] (by decide)
  have f3 := hf [(-45, 0), (1, 9)] (by decide)
  have f4 := hf [(45, 0), (-1, 9)] (by decide)
  simp only [qD, h0] at f0 f1 f2 f3 f4
  have m0 : M 4 210 = 1 * ρ 0 + 0 := hm (4, 210, [(1, 0)]) (by decide)
  have m1 : M 4 211 = 1 * ρ 1 + 0 := hm (4, 211, [(1, 1)]) (by decide)
  have m2 : M 4 101 = 1 * ρ 2 + 0 := hm (4, 101, [(1, 2)]) (by decide)
  have m3 : M 3 46 = 1 * ρ 3 + 0 := hm (3, 46, [(1, 3)]) (by decide)
  have m4 : M 3 47 = 1 * ρ 4 + 0 := hm (3, 47, [(1, 4)]) (by decide)
  have m5 : M 4 100 = 1 * ρ 5 + 0 := hm (4, 100, [(1, 5)]) (by decide)
  have m6 : M 3 50 = 1 * ρ 6 + 0 := hm (3, 50, [(1, 6)]) (by decide)
  have m7 : M 3 51 = 1 * ρ 7 + 0 := hm (3, 51, [(1, 7)]) (by decide)
  have m8 : M 4 108 = 1 * ρ 8 + 0 := hm (4, 108, [(1, 8)]) (by decide)
  have m9 : M 4 212 = 1 * ρ 0 + 0 := hm (4, 212, [(1, 0)]) (by decide)
  have m10 : M 4 213 = 1 * ρ 9 + 0 := hm (4, 213, [(1, 9)]) (by decide)
  simp only [h0] at m0 m9
  obtain ⟨u1, u2, _⟩ := gx_xS8 hI (by omega)

  have hx : M 4 213 = M 92 (M 4 211).toNat := gx_xS9 hI (by omega)

  obtain ⟨t1, t2, t3, t4, t5, t6⟩ := tk_of hI (by omega) (by omega) (by omega) (show tAt (M 92) (M 4 101).toNat (M 4 211).toNat (M 4 107) (M 4 108) = (9, M 4 107, ((M 4 211).toNat : Int), ((M 4 211).toNat : Int) + 1, 3, 45) from by
    unfold tAt
    rw [if_neg (by omega), if_neg (by omega), if_neg (by omega), if_neg (by omega), if_neg (by omega), if_neg (by omega)]
    rw [show M 92 (M 4 211).toNat = 45 by omega]
    rfl)
  refine ⟨ρ, fun _ _ => rfl, fun f h => ?_, ?_⟩
  · have h : f ∈ ([[(-1, 1), (1, 3)], [(1, 1), (-1, 3)], [(-1, 0), (-1, 1), (1, 4)], [(1, 0), (1, 1), (-1, 4)], [(-3, 0), (1, 6)], [(3, 0), (-1, 6)], [(-45, 0), (1, 7)], [(45, 0), (-1, 7)]] : List qF) := h
    simp only [List.mem_cons, List.not_mem_nil, or_false] at h
    rcases h with rfl | rfl | rfl | rfl | rfl | rfl | rfl | rfl
    · show 0 ≤ -1 * ρ 1 + (1 * ρ 3 + 0)
      (try rw [h0]); omega
    · show 0 ≤ 1 * ρ 1 + (-1 * ρ 3 + 0)
      (try rw [h0]); omega
    · show 0 ≤ -1 * ρ 0 + (-1 * ρ 1 + (1 * ρ 4 + 0))
      (try rw [h0]); omega
    · show 0 ≤ 1 * ρ 0 + (1 * ρ 1 + (-1 * ρ 4 + 0))
      (try rw [h0]); omega
    · show 0 ≤ -3 * ρ 0 + (1 * ρ 6 + 0)
      (try rw [h0]); omega
    · show 0 ≤ 3 * ρ 0 + (-1 * ρ 6 + 0)
      (try rw [h0]); omega
    · show 0 ≤ -45 * ρ 0 + (1 * ρ 7 + 0)
      (try rw [h0]); omega
    · show 0 ≤ 45 * ρ 0 + (-1 * ρ 7 + 0)
      (try rw [h0]); omega
  · show sI M
    exact hI
-- sign42_c
def xr_161 : qRu := (10, [[(-1, 0), (1, 5)], [(1, 1)], [(-1, 0), (-1, 1), (1, 2)], [(-42, 0), (1, 9)], [(42, 0), (-1, 9)]], [(4, 210, [(1, 0)]), (4, 211, [(1, 1)]), (4, 101, [(1, 2)]), (3, 46, [(1, 3)]), (3, 47, [(1, 4)]), (4, 100, [(1, 5)]), (3, 44, [(1, 6)]), (3, 45, [(1, 7)]), (4, 107, [(1, 8)]), (4, 212, [(1, 0)]), (4, 213, [(1, 9)])], [], [], [[(-1, 1), (1, 3)], [(1, 1), (-1, 3)], [(-1, 0), (-1, 1), (1, 4)], [(1, 0), (1, 1), (-1, 4)], [(-10, 0), (1, 6)], [(10, 0), (-1, 6)], [(1, 7), (-1, 8)], [(-1, 7), (1, 8)]])
theorem xo_161 : qRok xr_161 := by
  intro ρ M h0 hf hm hI
  have f0 := hf [(-1, 0), (1, 5)] (by decide)
  have f1 := hf [(1, 1)] (by decide)
  have f2 := hf [(-1, 0), (-1, 1), (1, 2)] (by decide)
  have f3 := hf [(-42, 0), (1, 9)] (by decide)
  have f4 := hf [(42, 0), (-1, 9)] (by decide)
  simp only [qD, h0] at f0 f1 f2 f3 f4
  have m0 : M 4 210 = 1 * ρ 0 + 0 := hm (4, 210, [(1, 0)]) (by decide)
  have m1 : M 4 211 = 1 * ρ 1 + 0 := hm (4, 211, [(1, 1)]) (by decide)
  have m2 : M 4 101 = 1 * ρ 2 + 0 := hm (4, 101, [(1, 2)]) (by decide)
  have m3 : M 3 46 = 1 * ρ 3 + 0 := hm (3, 46, [(1, 3)]) (by decide)
  have m4 : M 3 47 = 1 * ρ 4 + 0 := hm (3, 47, [(1, 4)]) (by decide)
  have m5 : M 4 100 = 1 * ρ 5 + 0 := hm (4, 100, [(1, 5)]) (by decide)
  have m6 : M 3 44 = 1 * ρ 6 + 0 := hm (3, 44, [(1, 6)]) (by decide)
  have m7 : M 3 45 = 1 * ρ 7 + 0 := hm (3, 45, [(1, 7)]) (by decide)
  have m8 : M 4 107 = 1 * ρ 8 + 0 := hm (4, 107, [(1, 8)]) (by decide)
  have m9 : M 4 212 = 1 * ρ 0 + 0 := hm (4, 212, [(1, 0)]) (by decide)
  have m10 : M 4 213 = 1 * ρ 9 + 0 := hm (4, 213, [(1, 9)]) (by decide)
  simp only [h0] at m0 m9
  obtain ⟨u1, u2, _⟩ := gx_xS8 hI (by omega)

  have hx : M 4 213 = M 92 (M 4 211).toNat := gx_xS9 hI (by omega)

  obtain ⟨t1, t2, t3, t4, t5, t6⟩ := tk_of hI (by omega) (by omega) (by omega) (show tAt (M 92) (M 4 101).toNat (M 4 211).toNat (M 4 107) (M 4 108) = (10, M 4 107, ((M 4 211).toNat : Int), ((M 4 211).toNat : Int) + 1, 3, 42) from by
    unfold tAt
    rw [if_neg (by omega), if_neg (by omega), if_neg (by omega), if_neg (by omega), if_neg (by omega), if_neg (by omega)]
    rw [show M 92 (M 4 211).toNat = 42 by omega]
    rfl)
  refine ⟨ρ, fun _ _ => rfl, fun f h => ?_, ?_⟩
  · have h : f ∈ ([[(-1, 1), (1, 3)], [(1, 1), (-1, 3)], [(-1, 0), (-1, 1), (1, 4)], [(1, 0), (1, 1), (-1, 4)], [(-10, 0), (1, 6)], [(10, 0), (-1, 6)], [(1, 7), (-1, 8)], [(-1, 7), (1, 8)]] : List qF) := h
    simp only [List.mem_cons, List.not_mem_nil, or_false] at h
    rcases h with rfl | rfl | rfl | rfl | rfl | rfl | rfl | rfl
    · show 0 ≤ -1 * ρ 1 + (1 * ρ 3 + 0)
      (try rw [h0]); omega
    · show 0 ≤ 1 * ρ 1 + (-1 * ρ 3 + 0)
      (try rw [h0]); omega
    · show 0 ≤ -1 * ρ 0 + (-1 * ρ 1 + (1 * ρ 4 + 0))
      (try rw [h0]); omega
    · show 0 ≤ 1 * ρ 0 + (1 * ρ 1 + (-1 * ρ 4 + 0))
      (try rw [h0]); omega
    · show 0 ≤ -10 * ρ 0 + (1 * ρ 6 + 0)
      (try rw [h0]); omega
    · show 0 ≤ 10 * ρ 0 + (-1 * ρ 6 + 0)
      (try rw [h0]); omega
    · show 0 ≤ 1 * ρ 7 + (-1 * ρ 8 + 0)
      (try rw [h0]); omega
    · show 0 ≤ -1 * ρ 7 + (1 * ρ 8 + 0)
      (try rw [h0]); omega
  · show sI M
    exact hI
-- sign42_r
def xr_162 : qRu := (10, [[(-1, 0), (1, 5)], [(1, 1)], [(-1, 0), (-1, 1), (1, 2)], [(-42, 0), (1, 9)], [(42, 0), (-1, 9)]], [(4, 210, [(1, 0)]), (4, 211, [(1, 1)]), (4, 101, [(1, 2)]), (3, 46, [(1, 3)]), (3, 47, [(1, 4)]), (4, 100, [(1, 5)]), (3, 50, [(1, 6)]), (3, 51, [(1, 7)]), (4, 108, [(1, 8)]), (4, 212, [(1, 0)]), (4, 213, [(1, 9)])], [], [], [[(-1, 1), (1, 3)], [(1, 1), (-1, 3)], [(-1, 0), (-1, 1), (1, 4)], [(1, 0), (1, 1), (-1, 4)], [(-3, 0), (1, 6)], [(3, 0), (-1, 6)], [(-42, 0), (1, 7)], [(42, 0), (-1, 7)]])
theorem xo_162 : qRok xr_162 := by
  intro ρ M h0 hf hm hI
  have f0 := hf [(-1, 0), (1, 5)] (by decide)
  have f1 := hf [(1, 1)] (by decide)
  have f2 := hf [(-1, 0), (-1, 1), (1, 2)] (by decide)
  have f3 := hf [(-42, 0), (1, 9)] (by decide)
  have f4 := hf [(42, 0), (-1, 9)] (by decide)
  simp only [qD, h0] at f0 f1 f2 f3 f4
  have m0 : M 4 210 = 1 * ρ 0 + 0 := hm (4, 210, [(1, 0)]) (by decide)
  have m1 : M 4 211 = 1 * ρ 1 + 0 := hm (4, 211, [(1, 1)]) (by decide)
  have m2 : M 4 101 = 1 * ρ 2 + 0 := hm (4, 101, [(1, 2)]) (by decide)
  have m3 : M 3 46 = 1 * ρ 3 + 0 := hm (3, 46, [(1, 3)]) (by decide)
  have m4 : M 3 47 = 1 * ρ 4 + 0 := hm (3, 47, [(1, 4)]) (by decide)
  have m5 : M 4 100 = 1 * ρ 5 + 0 := hm (4, 100, [(1, 5)]) (by decide)
  have m6 : M 3 50 = 1 * ρ 6 + 0 := hm (3, 50, [(1, 6)]) (by decide)
  have m7 : M 3 51 = 1 * ρ 7 + 0 := hm (3, 51, [(1, 7)]) (by decide)
  have m8 : M 4 108 = 1 * ρ 8 + 0 := hm (4, 108, [(1, 8)]) (by decide)
  have m9 : M 4 212 = 1 * ρ 0 + 0 := hm (4, 212, [(1, 0)]) (by decide)
  have m10 : M 4 213 = 1 * ρ 9 + 0 := hm (4, 213, [(1, 9)]) (by decide)
  simp only [h0] at m0 m9
  obtain ⟨u1, u2, _⟩ := gx_xS8 hI (by omega)

  have hx : M 4 213 = M 92 (M 4 211).toNat := gx_xS9 hI (by omega)

  obtain ⟨t1, t2, t3, t4, t5, t6⟩ := tk_of hI (by omega) (by omega) (by omega) (show tAt (M 92) (M 4 101).toNat (M 4 211).toNat (M 4 107) (M 4 108) = (10, M 4 107, ((M 4 211).toNat : Int), ((M 4 211).toNat : Int) + 1, 3, 42) from by
    unfold tAt
    rw [if_neg (by omega), if_neg (by omega), if_neg (by omega), if_neg (by omega), if_neg (by omega), if_neg (by omega)]
    rw [show M 92 (M 4 211).toNat = 42 by omega]
    rfl)
  refine ⟨ρ, fun _ _ => rfl, fun f h => ?_, ?_⟩
  · have h : f ∈ ([[(-1, 1), (1, 3)], [(1, 1), (-1, 3)], [(-1, 0), (-1, 1), (1, 4)], [(1, 0), (1, 1), (-1, 4)], [(-3, 0), (1, 6)], [(3, 0), (-1, 6)], [(-42, 0), (1, 7)], [(42, 0), (-1, 7)]] : List qF) := h
    simp only [List.mem_cons, List.not_mem_nil, or_false] at h
    rcases h with rfl | rfl | rfl | rfl | rfl | rfl | rfl | rfl
    · show 0 ≤ -1 * ρ 1 + (1 * ρ 3 + 0)
      (try rw [h0]); omega
    · show 0 ≤ 1 * ρ 1 + (-1 * ρ 3 + 0)
      (try rw [h0]); omega
    · show 0 ≤ -1 * ρ 0 + (-1 * ρ 1 + (1 * ρ 4 + 0))
      (try rw [h0]); omega
    · show 0 ≤ 1 * ρ 0 + (1 * ρ 1 + (-1 * ρ 4 + 0))
      (try rw [h0]); omega
    · show 0 ≤ -3 * ρ 0 + (1 * ρ 6 + 0)
      (try rw [h0]); omega
    · show 0 ≤ 3 * ρ 0 + (-1 * ρ 6 + 0)
      (try rw [h0]); omega
    · show 0 ≤ -42 * ρ 0 + (1 * ρ 7 + 0)
      (try rw [h0]); omega
    · show 0 ≤ 42 * ρ 0 + (-1 * ρ 7 + 0)
      (try rw [h0]); omega
  · show sI M
    exact hI
-- sign47_c
def xr_163 : qRu := (10, [[(-1, 0), (1, 5)], [(1, 1)], [(-1, 0), (-1, 1), (1, 2)], [(-47, 0), (1, 9)], [(47, 0), (-1, 9)]], [(4, 210, [(1, 0)]), (4, 211, [(1, 1)]), (4, 101, [(1, 2)]), (3, 46, [(1, 3)]), (3, 47, [(1, 4)]), (4, 100, [(1, 5)]), (3, 44, [(1, 6)]), (3, 45, [(1, 7)]), (4, 107, [(1, 8)]), (4, 212, [(1, 0)]), (4, 213, [(1, 9)])], [], [], [[(-1, 1), (1, 3)], [(1, 1), (-1, 3)], [(-1, 0), (-1, 1), (1, 4)], [(1, 0), (1, 1), (-1, 4)], [(-11, 0), (1, 6)], [(11, 0), (-1, 6)], [(1, 7), (-1, 8)], [(-1, 7), (1, 8)]])
theorem xo_163 : qRok xr_163 := by
  intro ρ M h0 hf hm hI
  have f0 := hf [(-1, 0), (1, 5)] (by decide)
  have f1 := hf [(1, 1)] (by decide)
  have f2 := hf [(-1, 0), (-1, 1), (1, 2)] (by decide)
  have f3 := hf [(-47, 0), (1, 9)] (by decide)
  have f4 := hf [(47, 0), (-1, 9)] (by decide)
  simp only [qD, h0] at f0 f1 f2 f3 f4
  have m0 : M 4 210 = 1 * ρ 0 + 0 := hm (4, 210, [(1, 0)]) (by decide)
  have m1 : M 4 211 = 1 * ρ 1 + 0 := hm (4, 211, [(1, 1)]) (by decide)
  have m2 : M 4 101 = 1 * ρ 2 + 0 := hm (4, 101, [(1, 2)]) (by decide)
  have m3 : M 3 46 = 1 * ρ 3 + 0 := hm (3, 46, [(1, 3)]) (by decide)
  have m4 : M 3 47 = 1 * ρ 4 + 0 := hm (3, 47, [(1, 4)]) (by decide)
  have m5 : M 4 100 = 1 * ρ 5 + 0 := hm (4, 100, [(1, 5)]) (by decide)
  have m6 : M 3 44 = 1 * ρ 6 + 0 := hm (3, 44, [(1, 6)]) (by decide)
  have m7 : M 3 45 = 1 * ρ 7 + 0 := hm (3, 45, [(1, 7)]) (by decide)
  have m8 : M 4 107 = 1 * ρ 8 + 0 := hm (4, 107, [(1, 8)]) (by decide)
  have m9 : M 4 212 = 1 * ρ 0 + 0 := hm (4, 212, [(1, 0)]) (by decide)
  have m10 : M 4 213 = 1 * ρ 9 + 0 := hm (4, 213, [(1, 9)]) (by decide)
  simp only [h0] at m0 m9
  obtain ⟨u1, u2, _⟩ := gx_xS8 hI (by omega)

  have hx : M 4 213 = M 92 (M 4 211).toNat := gx_xS9 hI (by omega)

  obtain ⟨t1, t2, t3, t4, t5, t6⟩ := tk_of hI (by omega) (by omega) (by omega) (show tAt (M 92) (M 4 101).toNat (M 4 211).toNat (M 4 107) (M 4 108) = (11, M 4 107, ((M 4 211).toNat : Int), ((M 4 211).toNat : Int) + 1, 3, 47) from by
    unfold tAt
    rw [if_neg (by omega), if_neg (by omega), if_neg (by omega), if_neg (by omega), if_neg (by omega), if_neg (by omega)]
    rw [show M 92 (M 4 211).toNat = 47 by omega]
    rfl)
  refine ⟨ρ, fun _ _ => rfl, fun f h => ?_, ?_⟩
  · have h : f ∈ ([[(-1, 1), (1, 3)], [(1, 1), (-1, 3)], [(-1, 0), (-1, 1), (1, 4)], [(1, 0), (1, 1), (-1, 4)], [(-11, 0), (1, 6)], [(11, 0), (-1, 6)], [(1, 7), (-1, 8)], [(-1, 7), (1, 8)]] : List qF) := h
    simp only [List.mem_cons, List.not_mem_nil, or_false] at h
    rcases h with rfl | rfl | rfl | rfl | rfl | rfl | rfl | rfl
    · show 0 ≤ -1 * ρ 1 + (1 * ρ 3 + 0)
      (try rw [h0]); omega
    · show 0 ≤ 1 * ρ 1 + (-1 * ρ 3 + 0)
      (try rw [h0]); omega
    · show 0 ≤ -1 * ρ 0 + (-1 * ρ 1 + (1 * ρ 4 + 0))
      (try rw [h0]); omega
    · show 0 ≤ 1 * ρ 0 + (1 * ρ 1 + (-1 * ρ 4 + 0))
      (try rw [h0]); omega
    · show 0 ≤ -11 * ρ 0 + (1 * ρ 6 + 0)
      (try rw [h0]); omega
    · show 0 ≤ 11 * ρ 0 + (-1 * ρ 6 + 0)
      (try rw [h0]); omega
    · show 0 ≤ 1 * ρ 7 + (-1 * ρ 8 + 0)
      (try rw [h0]); omega
    · show 0 ≤ -1 * ρ 7 + (1 * ρ 8 + 0)
      (try rw [h0]); omega
  · show sI M
    exact hI
-- sign47_r
def xr_164 : qRu := (10, [[(-1, 0), (1, 5)], [(1, 1)], [(-1, 0), (-1, 1), (1, 2)], [(-47, 0), (1, 9)], [(47, 0), (-1, 9)]], [(4, 210, [(1, 0)]), (4, 211, [(1, 1)]), (4, 101, [(1, 2)]), (3, 46, [(1, 3)]), (3, 47, [(1, 4)]), (4, 100, [(1, 5)]), (3, 50, [(1, 6)]), (3, 51, [(1, 7)]), (4, 108, [(1, 8)]), (4, 212, [(1, 0)]), (4, 213, [(1, 9)])], [], [], [[(-1, 1), (1, 3)], [(1, 1), (-1, 3)], [(-1, 0), (-1, 1), (1, 4)], [(1, 0), (1, 1), (-1, 4)], [(-3, 0), (1, 6)], [(3, 0), (-1, 6)], [(-47, 0), (1, 7)], [(47, 0), (-1, 7)]])
theorem xo_164 : qRok xr_164 := by
  intro ρ M h0 hf hm hI
  have f0 := hf [(-1, 0), (1, 5)] (by decide)
  have f1 := hf [(1, 1)] (by decide)
  have f2 := hf [(-1, 0), (-1, 1), (1, 2)] (by decide)
  have f3 := hf [(-47, 0), (1, 9)] (by decide)
  have f4 := hf [(47, 0), (-1, 9)] (by decide)
  simp only [qD, h0] at f0 f1 f2 f3 f4
  have m0 : M 4 210 = 1 * ρ 0 + 0 := hm (4, 210, [(1, 0)]) (by decide)
  have m1 : M 4 211 = 1 * ρ 1 + 0 := hm (4, 211, [(1, 1)]) (by decide)
  have m2 : M 4 101 = 1 * ρ 2 + 0 := hm (4, 101, [(1, 2)]) (by decide)
  have m3 : M 3 46 = 1 * ρ 3 + 0 := hm (3, 46, [(1, 3)]) (by decide)
  have m4 : M 3 47 = 1 * ρ 4 + 0 := hm (3, 47, [(1, 4)]) (by decide)
  have m5 : M 4 100 = 1 * ρ 5 + 0 := hm (4, 100, [(1, 5)]) (by decide)
  have m6 : M 3 50 = 1 * ρ 6 + 0 := hm (3, 50, [(1, 6)]) (by decide)
  have m7 : M 3 51 = 1 * ρ 7 + 0 := hm (3, 51, [(1, 7)]) (by decide)
  have m8 : M 4 108 = 1 * ρ 8 + 0 := hm (4, 108, [(1, 8)]) (by decide)
  have m9 : M 4 212 = 1 * ρ 0 + 0 := hm (4, 212, [(1, 0)]) (by decide)
  have m10 : M 4 213 = 1 * ρ 9 + 0 := hm (4, 213, [(1, 9)]) (by decide)
  simp only [h0] at m0 m9
  obtain ⟨u1, u2, _⟩ := gx_xS8 hI (by omega)

  have hx : M 4 213 = M 92 (M 4 211).toNat := gx_xS9 hI (by omega)

  obtain ⟨t1, t2, t3, t4, t5, t6⟩ := tk_of hI (by omega) (by omega) (by omega) (show tAt (M 92) (M 4 101).toNat (M 4 211).toNat (M 4 107) (M 4 108) = (11, M 4 107, ((M 4 211).toNat : Int), ((M 4 211).toNat : Int) + 1, 3, 47) from by
    unfold tAt
    rw [if_neg (by omega), if_neg (by omega), if_neg (by omega), if_neg (by omega), if_neg (by omega), if_neg (by omega)]
    rw [show M 92 (M 4 211).toNat = 47 by omega]
    rfl)
  refine ⟨ρ, fun _ _ => rfl, fun f h => ?_, ?_⟩
  · have h : f ∈ ([[(-1, 1), (1, 3)], [(1, 1), (-1, 3)], [(-1, 0), (-1, 1), (1, 4)], [(1, 0), (1, 1), (-1, 4)], [(-3, 0), (1, 6)], [(3, 0), (-1, 6)], [(-47, 0), (1, 7)], [(47, 0), (-1, 7)]] : List qF) := h
    simp only [List.mem_cons, List.not_mem_nil, or_false] at h
    rcases h with rfl | rfl | rfl | rfl | rfl | rfl | rfl | rfl
    · show 0 ≤ -1 * ρ 1 + (1 * ρ 3 + 0)
      (try rw [h0]); omega
    · show 0 ≤ 1 * ρ 1 + (-1 * ρ 3 + 0)
      (try rw [h0]); omega
    · show 0 ≤ -1 * ρ 0 + (-1 * ρ 1 + (1 * ρ 4 + 0))
      (try rw [h0]); omega
    · show 0 ≤ 1 * ρ 0 + (1 * ρ 1 + (-1 * ρ 4 + 0))
      (try rw [h0]); omega
    · show 0 ≤ -3 * ρ 0 + (1 * ρ 6 + 0)
      (try rw [h0]); omega
    · show 0 ≤ 3 * ρ 0 + (-1 * ρ 6 + 0)
      (try rw [h0]); omega
    · show 0 ≤ -47 * ρ 0 + (1 * ρ 7 + 0)
      (try rw [h0]); omega
    · show 0 ≤ 47 * ρ 0 + (-1 * ρ 7 + 0)
      (try rw [h0]); omega
  · show sI M
    exact hI
-- sign61_c
def xr_165 : qRu := (10, [[(-1, 0), (1, 5)], [(1, 1)], [(-1, 0), (-1, 1), (1, 2)], [(-61, 0), (1, 9)], [(61, 0), (-1, 9)]], [(4, 210, [(1, 0)]), (4, 211, [(1, 1)]), (4, 101, [(1, 2)]), (3, 46, [(1, 3)]), (3, 47, [(1, 4)]), (4, 100, [(1, 5)]), (3, 44, [(1, 6)]), (3, 45, [(1, 7)]), (4, 107, [(1, 8)]), (4, 212, [(1, 0)]), (4, 213, [(1, 9)])], [], [], [[(-1, 1), (1, 3)], [(1, 1), (-1, 3)], [(-1, 0), (-1, 1), (1, 4)], [(1, 0), (1, 1), (-1, 4)], [(-14, 0), (1, 6)], [(14, 0), (-1, 6)], [(1, 7), (-1, 8)], [(-1, 7), (1, 8)]])
theorem xo_165 : qRok xr_165 := by
  intro ρ M h0 hf hm hI
  have f0 := hf [(-1, 0), (1, 5)] (by decide)
  have f1 := hf [(1, 1)] (by decide)
  have f2 := hf [(-1, 0), (-1, 1), (1, 2)] (by decide)
  have f3 := hf [(-61, 0), (1, 9)] (by decide)
  have f4 := hf [(61, 0), (-1, 9)] (by decide)
  simp only [qD, h0] at f0 f1 f2 f3 f4
  have m0 : M 4 210 = 1 * ρ 0 + 0 := hm (4, 210, [(1, 0)]) (by decide)
  have m1 : M 4 211 = 1 * ρ 1 + 0 := hm (4, 211, [(1, 1)]) (by decide)
  have m2 : M 4 101 = 1 * ρ 2 + 0 := hm (4, 101, [(1, 2)]) (by decide)
  have m3 : M 3 46 = 1 * ρ 3 + 0 := hm (3, 46, [(1, 3)]) (by decide)
  have m4 : M 3 47 = 1 * ρ 4 + 0 := hm (3, 47, [(1, 4)]) (by decide)
  have m5 : M 4 100 = 1 * ρ 5 + 0 := hm (4, 100, [(1, 5)]) (by decide)
  have m6 : M 3 44 = 1 * ρ 6 + 0 := hm (3, 44, [(1, 6)]) (by decide)
  have m7 : M 3 45 = 1 * ρ 7 + 0 := hm (3, 45, [(1, 7)]) (by decide)
  have m8 : M 4 107 = 1 * ρ 8 + 0 := hm (4, 107, [(1, 8)]) (by decide)
  have m9 : M 4 212 = 1 * ρ 0 + 0 := hm (4, 212, [(1, 0)]) (by decide)
  have m10 : M 4 213 = 1 * ρ 9 + 0 := hm (4, 213, [(1, 9)]) (by decide)
  simp only [h0] at m0 m9
  obtain ⟨u1, u2, _⟩ := gx_xS8 hI (by omega)

  have hx : M 4 213 = M 92 (M 4 211).toNat := gx_xS9 hI (by omega)

  obtain ⟨t1, t2, t3, t4, t5, t6⟩ := tk_of hI (by omega) (by omega) (by omega) (show tAt (M 92) (M 4 101).toNat (M 4 211).toNat (M 4 107) (M 4 108) = (14, M 4 107, ((M 4 211).toNat : Int), ((M 4 211).toNat : Int) + 1, 3, 61) from by
    unfold tAt
    rw [if_neg (by omega), if_neg (by omega), if_neg (by omega), if_neg (by omega), if_neg (by omega), if_neg (by omega)]
    rw [show M 92 (M 4 211).toNat = 61 by omega]
    rfl)
  refine ⟨ρ, fun _ _ => rfl, fun f h => ?_, ?_⟩
  · have h : f ∈ ([[(-1, 1), (1, 3)], [(1, 1), (-1, 3)], [(-1, 0), (-1, 1), (1, 4)], [(1, 0), (1, 1), (-1, 4)], [(-14, 0), (1, 6)], [(14, 0), (-1, 6)], [(1, 7), (-1, 8)], [(-1, 7), (1, 8)]] : List qF) := h
    simp only [List.mem_cons, List.not_mem_nil, or_false] at h
    rcases h with rfl | rfl | rfl | rfl | rfl | rfl | rfl | rfl
    · show 0 ≤ -1 * ρ 1 + (1 * ρ 3 + 0)
      (try rw [h0]); omega
    · show 0 ≤ 1 * ρ 1 + (-1 * ρ 3 + 0)
      (try rw [h0]); omega
    · show 0 ≤ -1 * ρ 0 + (-1 * ρ 1 + (1 * ρ 4 + 0))
      (try rw [h0]); omega
    · show 0 ≤ 1 * ρ 0 + (1 * ρ 1 + (-1 * ρ 4 + 0))
      (try rw [h0]); omega
    · show 0 ≤ -14 * ρ 0 + (1 * ρ 6 + 0)
      (try rw [h0]); omega
    · show 0 ≤ 14 * ρ 0 + (-1 * ρ 6 + 0)
      (try rw [h0]); omega
    · show 0 ≤ 1 * ρ 7 + (-1 * ρ 8 + 0)
      (try rw [h0]); omega
    · show 0 ≤ -1 * ρ 7 + (1 * ρ 8 + 0)
      (try rw [h0]); omega
  · show sI M
    exact hI
-- sign61_r
def xr_166 : qRu := (10, [[(-1, 0), (1, 5)], [(1, 1)], [(-1, 0), (-1, 1), (1, 2)], [(-61, 0), (1, 9)], [(61, 0), (-1, 9)]], [(4, 210, [(1, 0)]), (4, 211, [(1, 1)]), (4, 101, [(1, 2)]), (3, 46, [(1, 3)]), (3, 47, [(1, 4)]), (4, 100, [(1, 5)]), (3, 50, [(1, 6)]), (3, 51, [(1, 7)]), (4, 108, [(1, 8)]), (4, 212, [(1, 0)]), (4, 213, [(1, 9)])], [], [], [[(-1, 1), (1, 3)], [(1, 1), (-1, 3)], [(-1, 0), (-1, 1), (1, 4)], [(1, 0), (1, 1), (-1, 4)], [(-3, 0), (1, 6)], [(3, 0), (-1, 6)], [(-61, 0), (1, 7)], [(61, 0), (-1, 7)]])
theorem xo_166 : qRok xr_166 := by
  intro ρ M h0 hf hm hI
  have f0 := hf [(-1, 0), (1, 5)] (by decide)
  have f1 := hf [(1, 1)] (by decide)
  have f2 := hf [(-1, 0), (-1, 1), (1, 2)] (by decide)
  have f3 := hf [(-61, 0), (1, 9)] (by decide)
  have f4 := hf [(61, 0), (-1, 9)] (by decide)
  simp only [qD, h0] at f0 f1 f2 f3 f4
  have m0 : M 4 210 = 1 * ρ 0 + 0 := hm (4, 210, [(1, 0)]) (by decide)
  have m1 : M 4 211 = 1 * ρ 1 + 0 := hm (4, 211, [(1, 1)]) (by decide)
  have m2 : M 4 101 = 1 * ρ 2 + 0 := hm (4, 101, [(1, 2)]) (by decide)
  have m3 : M 3 46 = 1 * ρ 3 + 0 := hm (3, 46, [(1, 3)]) (by decide)
  have m4 : M 3 47 = 1 * ρ 4 + 0 := hm (3, 47, [(1, 4)]) (by decide)
  have m5 : M 4 100 = 1 * ρ 5 + 0 := hm (4, 100, [(1, 5)]) (by decide)
  have m6 : M 3 50 = 1 * ρ 6 + 0 := hm (3, 50, [(1, 6)]) (by decide)
  have m7 : M 3 51 = 1 * ρ 7 + 0 := hm (3, 51, [(1, 7)]) (by decide)
  have m8 : M 4 108 = 1 * ρ 8 + 0 := hm (4, 108, [(1, 8)]) (by decide)
  have m9 : M 4 212 = 1 * ρ 0 + 0 := hm (4, 212, [(1, 0)]) (by decide)
  have m10 : M 4 213 = 1 * ρ 9 + 0 := hm (4, 213, [(1, 9)]) (by decide)
  simp only [h0] at m0 m9
  obtain ⟨u1, u2, _⟩ := gx_xS8 hI (by omega)

  have hx : M 4 213 = M 92 (M 4 211).toNat := gx_xS9 hI (by omega)

  obtain ⟨t1, t2, t3, t4, t5, t6⟩ := tk_of hI (by omega) (by omega) (by omega) (show tAt (M 92) (M 4 101).toNat (M 4 211).toNat (M 4 107) (M 4 108) = (14, M 4 107, ((M 4 211).toNat : Int), ((M 4 211).toNat : Int) + 1, 3, 61) from by
    unfold tAt
    rw [if_neg (by omega), if_neg (by omega), if_neg (by omega), if_neg (by omega), if_neg (by omega), if_neg (by omega)]
    rw [show M 92 (M 4 211).toNat = 61 by omega]
    rfl)
  refine ⟨ρ, fun _ _ => rfl, fun f h => ?_, ?_⟩
  · have h : f ∈ ([[(-1, 1), (1, 3)], [(1, 1), (-1, 3)], [(-1, 0), (-1, 1), (1, 4)], [(1, 0), (1, 1), (-1, 4)], [(-3, 0), (1, 6)], [(3, 0), (-1, 6)], [(-61, 0), (1, 7)], [(61, 0), (-1, 7)]] : List qF) := h
    simp only [List.mem_cons, List.not_mem_nil, or_false] at h
    rcases h with rfl | rfl | rfl | rfl | rfl | rfl | rfl | rfl
    · show 0 ≤ -1 * ρ 1 + (1 * ρ 3 + 0)
      (try rw [h0]); omega
    · show 0 ≤ 1 * ρ 1 + (-1 * ρ 3 + 0)
      (try rw [h0]); omega
    · show 0 ≤ -1 * ρ 0 + (-1 * ρ 1 + (1 * ρ 4 + 0))
      (try rw [h0]); omega
    · show 0 ≤ 1 * ρ 0 + (1 * ρ 1 + (-1 * ρ 4 + 0))
      (try rw [h0]); omega
    · show 0 ≤ -3 * ρ 0 + (1 * ρ 6 + 0)
      (try rw [h0]); omega
    · show 0 ≤ 3 * ρ 0 + (-1 * ρ 6 + 0)
      (try rw [h0]); omega
    · show 0 ≤ -61 * ρ 0 + (1 * ρ 7 + 0)
      (try rw [h0]); omega
    · show 0 ≤ 61 * ρ 0 + (-1 * ρ 7 + 0)
      (try rw [h0]); omega
  · show sI M
    exact hI
-- signNo0_c
def xr_167 : qRu := (10, [[(-1, 0), (1, 5)], [(1, 1)], [(-1, 0), (-1, 1), (1, 2)], [(1, 9)], [(9, 0), (-1, 9)]], [(4, 210, [(1, 0)]), (4, 211, [(1, 1)]), (4, 101, [(1, 2)]), (3, 46, [(1, 3)]), (3, 47, [(1, 4)]), (4, 100, [(1, 5)]), (3, 44, [(1, 6)]), (3, 45, [(1, 7)]), (4, 107, [(1, 8)]), (4, 212, [(1, 0)]), (4, 213, [(1, 9)])], [], [], [[(-1, 1), (1, 3)], [(1, 1), (-1, 3)], [(-1, 0), (-1, 1), (1, 4)], [(1, 0), (1, 1), (-1, 4)], [(-1, 0), (1, 6)], [(1, 0), (-1, 6)], [(1, 7), (-1, 8)], [(-1, 7), (1, 8)]])
theorem xo_167 : qRok xr_167 := by
  intro ρ M h0 hf hm hI
  have f0 := hf [(-1, 0), (1, 5)] (by decide)
  have f1 := hf [(1, 1)] (by decide)
  have f2 := hf [(-1, 0), (-1, 1), (1, 2)] (by decide)
  have f3 := hf [(1, 9)] (by decide)
  have f4 := hf [(9, 0), (-1, 9)] (by decide)
  simp only [qD, h0] at f0 f1 f2 f3 f4
  have m0 : M 4 210 = 1 * ρ 0 + 0 := hm (4, 210, [(1, 0)]) (by decide)
  have m1 : M 4 211 = 1 * ρ 1 + 0 := hm (4, 211, [(1, 1)]) (by decide)
  have m2 : M 4 101 = 1 * ρ 2 + 0 := hm (4, 101, [(1, 2)]) (by decide)
  have m3 : M 3 46 = 1 * ρ 3 + 0 := hm (3, 46, [(1, 3)]) (by decide)
  have m4 : M 3 47 = 1 * ρ 4 + 0 := hm (3, 47, [(1, 4)]) (by decide)
  have m5 : M 4 100 = 1 * ρ 5 + 0 := hm (4, 100, [(1, 5)]) (by decide)
  have m6 : M 3 44 = 1 * ρ 6 + 0 := hm (3, 44, [(1, 6)]) (by decide)
  have m7 : M 3 45 = 1 * ρ 7 + 0 := hm (3, 45, [(1, 7)]) (by decide)
  have m8 : M 4 107 = 1 * ρ 8 + 0 := hm (4, 107, [(1, 8)]) (by decide)
  have m9 : M 4 212 = 1 * ρ 0 + 0 := hm (4, 212, [(1, 0)]) (by decide)
  have m10 : M 4 213 = 1 * ρ 9 + 0 := hm (4, 213, [(1, 9)]) (by decide)
  simp only [h0] at m0 m9
  obtain ⟨u1, u2, _⟩ := gx_xS8 hI (by omega)

  have hx : M 4 213 = M 92 (M 4 211).toNat := gx_xS9 hI (by omega)

  obtain ⟨t1, t2, t3, t4, t5, t6⟩ := tk_of hI (by omega) (by omega) (by omega) (show tAt (M 92) (M 4 101).toNat (M 4 211).toNat (M 4 107) (M 4 108) = (1, M 4 107, ((M 4 211).toNat : Int), ((M 4 211).toNat : Int) + 1, 5, M 4 213) from by
    unfold tAt
    rw [if_neg (by omega), if_neg (by omega), if_neg (by omega), if_neg (by omega), if_neg (by omega), if_neg (by omega)]
    have e : tSg (M 92 (M 4 211).toNat) = 1 := by
      unfold tSg
      rw [if_neg (by omega), if_neg (by omega), if_neg (by omega), if_neg (by omega), if_neg (by omega), if_neg (by omega), if_neg (by omega), if_neg (by omega), if_neg (by omega), if_neg (by omega)]
    unfold tSr
    rw [e, if_pos rfl, ← hx])
  refine ⟨ρ, fun _ _ => rfl, fun f h => ?_, ?_⟩
  · have h : f ∈ ([[(-1, 1), (1, 3)], [(1, 1), (-1, 3)], [(-1, 0), (-1, 1), (1, 4)], [(1, 0), (1, 1), (-1, 4)], [(-1, 0), (1, 6)], [(1, 0), (-1, 6)], [(1, 7), (-1, 8)], [(-1, 7), (1, 8)]] : List qF) := h
    simp only [List.mem_cons, List.not_mem_nil, or_false] at h
    rcases h with rfl | rfl | rfl | rfl | rfl | rfl | rfl | rfl
    · show 0 ≤ -1 * ρ 1 + (1 * ρ 3 + 0)
      (try rw [h0]); omega
    · show 0 ≤ 1 * ρ 1 + (-1 * ρ 3 + 0)
      (try rw [h0]); omega
    · show 0 ≤ -1 * ρ 0 + (-1 * ρ 1 + (1 * ρ 4 + 0))
      (try rw [h0]); omega
    · show 0 ≤ 1 * ρ 0 + (1 * ρ 1 + (-1 * ρ 4 + 0))
      (try rw [h0]); omega
    · show 0 ≤ -1 * ρ 0 + (1 * ρ 6 + 0)
      (try rw [h0]); omega
    · show 0 ≤ 1 * ρ 0 + (-1 * ρ 6 + 0)
      (try rw [h0]); omega
    · show 0 ≤ 1 * ρ 7 + (-1 * ρ 8 + 0)
      (try rw [h0]); omega
    · show 0 ≤ -1 * ρ 7 + (1 * ρ 8 + 0)
      (try rw [h0]); omega
  · show sI M
    exact hI
-- signNo0_r
def xr_168 : qRu := (10, [[(-1, 0), (1, 5)], [(1, 1)], [(-1, 0), (-1, 1), (1, 2)], [(1, 9)], [(9, 0), (-1, 9)]], [(4, 210, [(1, 0)]), (4, 211, [(1, 1)]), (4, 101, [(1, 2)]), (3, 46, [(1, 3)]), (3, 47, [(1, 4)]), (4, 100, [(1, 5)]), (3, 50, [(1, 6)]), (3, 51, [(1, 7)]), (4, 108, [(1, 8)]), (4, 212, [(1, 0)]), (4, 213, [(1, 9)])], [], [], [[(-1, 1), (1, 3)], [(1, 1), (-1, 3)], [(-1, 0), (-1, 1), (1, 4)], [(1, 0), (1, 1), (-1, 4)], [(-5, 0), (1, 6)], [(5, 0), (-1, 6)], [(1, 7), (-1, 9)], [(-1, 7), (1, 9)]])
theorem xo_168 : qRok xr_168 := by
  intro ρ M h0 hf hm hI
  have f0 := hf [(-1, 0), (1, 5)] (by decide)
  have f1 := hf [(1, 1)] (by decide)
  have f2 := hf [(-1, 0), (-1, 1), (1, 2)] (by decide)
  have f3 := hf [(1, 9)] (by decide)
  have f4 := hf [(9, 0), (-1, 9)] (by decide)
  simp only [qD, h0] at f0 f1 f2 f3 f4
  have m0 : M 4 210 = 1 * ρ 0 + 0 := hm (4, 210, [(1, 0)]) (by decide)
  have m1 : M 4 211 = 1 * ρ 1 + 0 := hm (4, 211, [(1, 1)]) (by decide)
  have m2 : M 4 101 = 1 * ρ 2 + 0 := hm (4, 101, [(1, 2)]) (by decide)
  have m3 : M 3 46 = 1 * ρ 3 + 0 := hm (3, 46, [(1, 3)]) (by decide)
  have m4 : M 3 47 = 1 * ρ 4 + 0 := hm (3, 47, [(1, 4)]) (by decide)
  have m5 : M 4 100 = 1 * ρ 5 + 0 := hm (4, 100, [(1, 5)]) (by decide)
  have m6 : M 3 50 = 1 * ρ 6 + 0 := hm (3, 50, [(1, 6)]) (by decide)
  have m7 : M 3 51 = 1 * ρ 7 + 0 := hm (3, 51, [(1, 7)]) (by decide)
  have m8 : M 4 108 = 1 * ρ 8 + 0 := hm (4, 108, [(1, 8)]) (by decide)
  have m9 : M 4 212 = 1 * ρ 0 + 0 := hm (4, 212, [(1, 0)]) (by decide)
  have m10 : M 4 213 = 1 * ρ 9 + 0 := hm (4, 213, [(1, 9)]) (by decide)
  simp only [h0] at m0 m9
  obtain ⟨u1, u2, _⟩ := gx_xS8 hI (by omega)

  have hx : M 4 213 = M 92 (M 4 211).toNat := gx_xS9 hI (by omega)

  obtain ⟨t1, t2, t3, t4, t5, t6⟩ := tk_of hI (by omega) (by omega) (by omega) (show tAt (M 92) (M 4 101).toNat (M 4 211).toNat (M 4 107) (M 4 108) = (1, M 4 107, ((M 4 211).toNat : Int), ((M 4 211).toNat : Int) + 1, 5, M 4 213) from by
    unfold tAt
    rw [if_neg (by omega), if_neg (by omega), if_neg (by omega), if_neg (by omega), if_neg (by omega), if_neg (by omega)]
    have e : tSg (M 92 (M 4 211).toNat) = 1 := by
      unfold tSg
      rw [if_neg (by omega), if_neg (by omega), if_neg (by omega), if_neg (by omega), if_neg (by omega), if_neg (by omega), if_neg (by omega), if_neg (by omega), if_neg (by omega), if_neg (by omega)]
    unfold tSr
    rw [e, if_pos rfl, ← hx])
  refine ⟨ρ, fun _ _ => rfl, fun f h => ?_, ?_⟩
  · have h : f ∈ ([[(-1, 1), (1, 3)], [(1, 1), (-1, 3)], [(-1, 0), (-1, 1), (1, 4)], [(1, 0), (1, 1), (-1, 4)], [(-5, 0), (1, 6)], [(5, 0), (-1, 6)], [(1, 7), (-1, 9)], [(-1, 7), (1, 9)]] : List qF) := h
    simp only [List.mem_cons, List.not_mem_nil, or_false] at h
    rcases h with rfl | rfl | rfl | rfl | rfl | rfl | rfl | rfl
    · show 0 ≤ -1 * ρ 1 + (1 * ρ 3 + 0)
      (try rw [h0]); omega
    · show 0 ≤ 1 * ρ 1 + (-1 * ρ 3 + 0)
      (try rw [h0]); omega
    · show 0 ≤ -1 * ρ 0 + (-1 * ρ 1 + (1 * ρ 4 + 0))
      (try rw [h0]); omega
    · show 0 ≤ 1 * ρ 0 + (1 * ρ 1 + (-1 * ρ 4 + 0))
      (try rw [h0]); omega
    · show 0 ≤ -5 * ρ 0 + (1 * ρ 6 + 0)
      (try rw [h0]); omega
    · show 0 ≤ 5 * ρ 0 + (-1 * ρ 6 + 0)
      (try rw [h0]); omega
    · show 0 ≤ 1 * ρ 7 + (-1 * ρ 9 + 0)
      (try rw [h0]); omega
    · show 0 ≤ -1 * ρ 7 + (1 * ρ 9 + 0)
      (try rw [h0]); omega
  · show sI M
    exact hI
-- signNo1_c
def xr_169 : qRu := (10, [[(-1, 0), (1, 5)], [(1, 1)], [(-1, 0), (-1, 1), (1, 2)], [(-11, 0), (1, 9)], [(31, 0), (-1, 9)]], [(4, 210, [(1, 0)]), (4, 211, [(1, 1)]), (4, 101, [(1, 2)]), (3, 46, [(1, 3)]), (3, 47, [(1, 4)]), (4, 100, [(1, 5)]), (3, 44, [(1, 6)]), (3, 45, [(1, 7)]), (4, 107, [(1, 8)]), (4, 212, [(1, 0)]), (4, 213, [(1, 9)])], [], [], [[(-1, 1), (1, 3)], [(1, 1), (-1, 3)], [(-1, 0), (-1, 1), (1, 4)], [(1, 0), (1, 1), (-1, 4)], [(-1, 0), (1, 6)], [(1, 0), (-1, 6)], [(1, 7), (-1, 8)], [(-1, 7), (1, 8)]])
theorem xo_169 : qRok xr_169 := by
  intro ρ M h0 hf hm hI
  have f0 := hf [(-1, 0), (1, 5)] (by decide)
  have f1 := hf [(1, 1)] (by decide)
  have f2 := hf [(-1, 0), (-1, 1), (1, 2)] (by decide)
  have f3 := hf [(-11, 0), (1, 9)] (by decide)
  have f4 := hf [(31, 0), (-1, 9)] (by decide)
  simp only [qD, h0] at f0 f1 f2 f3 f4
  have m0 : M 4 210 = 1 * ρ 0 + 0 := hm (4, 210, [(1, 0)]) (by decide)
  have m1 : M 4 211 = 1 * ρ 1 + 0 := hm (4, 211, [(1, 1)]) (by decide)
  have m2 : M 4 101 = 1 * ρ 2 + 0 := hm (4, 101, [(1, 2)]) (by decide)
  have m3 : M 3 46 = 1 * ρ 3 + 0 := hm (3, 46, [(1, 3)]) (by decide)
  have m4 : M 3 47 = 1 * ρ 4 + 0 := hm (3, 47, [(1, 4)]) (by decide)
  have m5 : M 4 100 = 1 * ρ 5 + 0 := hm (4, 100, [(1, 5)]) (by decide)
  have m6 : M 3 44 = 1 * ρ 6 + 0 := hm (3, 44, [(1, 6)]) (by decide)
  have m7 : M 3 45 = 1 * ρ 7 + 0 := hm (3, 45, [(1, 7)]) (by decide)
  have m8 : M 4 107 = 1 * ρ 8 + 0 := hm (4, 107, [(1, 8)]) (by decide)
  have m9 : M 4 212 = 1 * ρ 0 + 0 := hm (4, 212, [(1, 0)]) (by decide)
  have m10 : M 4 213 = 1 * ρ 9 + 0 := hm (4, 213, [(1, 9)]) (by decide)
  simp only [h0] at m0 m9
  obtain ⟨u1, u2, _⟩ := gx_xS8 hI (by omega)

  have hx : M 4 213 = M 92 (M 4 211).toNat := gx_xS9 hI (by omega)

  obtain ⟨t1, t2, t3, t4, t5, t6⟩ := tk_of hI (by omega) (by omega) (by omega) (show tAt (M 92) (M 4 101).toNat (M 4 211).toNat (M 4 107) (M 4 108) = (1, M 4 107, ((M 4 211).toNat : Int), ((M 4 211).toNat : Int) + 1, 5, M 4 213) from by
    unfold tAt
    rw [if_neg (by omega), if_neg (by omega), if_neg (by omega), if_neg (by omega), if_neg (by omega), if_neg (by omega)]
    have e : tSg (M 92 (M 4 211).toNat) = 1 := by
      unfold tSg
      rw [if_neg (by omega), if_neg (by omega), if_neg (by omega), if_neg (by omega), if_neg (by omega), if_neg (by omega), if_neg (by omega), if_neg (by omega), if_neg (by omega), if_neg (by omega)]
    unfold tSr
    rw [e, if_pos rfl, ← hx])
  refine ⟨ρ, fun _ _ => rfl, fun f h => ?_, ?_⟩
  · have h : f ∈ ([[(-1, 1), (1, 3)], [(1, 1), (-1, 3)], [(-1, 0), (-1, 1), (1, 4)], [(1, 0), (1, 1), (-1, 4)], [(-1, 0), (1, 6)], [(1, 0), (-1, 6)], [(1, 7), (-1, 8)], [(-1, 7), (1, 8)]] : List qF) := h
    simp only [List.mem_cons, List.not_mem_nil, or_false] at h
    rcases h with rfl | rfl | rfl | rfl | rfl | rfl | rfl | rfl
    · show 0 ≤ -1 * ρ 1 + (1 * ρ 3 + 0)
      (try rw [h0]); omega
    · show 0 ≤ 1 * ρ 1 + (-1 * ρ 3 + 0)
      (try rw [h0]); omega
    · show 0 ≤ -1 * ρ 0 + (-1 * ρ 1 + (1 * ρ 4 + 0))
      (try rw [h0]); omega
    · show 0 ≤ 1 * ρ 0 + (1 * ρ 1 + (-1 * ρ 4 + 0))
      (try rw [h0]); omega
    · show 0 ≤ -1 * ρ 0 + (1 * ρ 6 + 0)
      (try rw [h0]); omega
    · show 0 ≤ 1 * ρ 0 + (-1 * ρ 6 + 0)
      (try rw [h0]); omega
    · show 0 ≤ 1 * ρ 7 + (-1 * ρ 8 + 0)
      (try rw [h0]); omega
    · show 0 ≤ -1 * ρ 7 + (1 * ρ 8 + 0)
      (try rw [h0]); omega
  · show sI M
    exact hI
-- signNo1_r
def xr_170 : qRu := (10, [[(-1, 0), (1, 5)], [(1, 1)], [(-1, 0), (-1, 1), (1, 2)], [(-11, 0), (1, 9)], [(31, 0), (-1, 9)]], [(4, 210, [(1, 0)]), (4, 211, [(1, 1)]), (4, 101, [(1, 2)]), (3, 46, [(1, 3)]), (3, 47, [(1, 4)]), (4, 100, [(1, 5)]), (3, 50, [(1, 6)]), (3, 51, [(1, 7)]), (4, 108, [(1, 8)]), (4, 212, [(1, 0)]), (4, 213, [(1, 9)])], [], [], [[(-1, 1), (1, 3)], [(1, 1), (-1, 3)], [(-1, 0), (-1, 1), (1, 4)], [(1, 0), (1, 1), (-1, 4)], [(-5, 0), (1, 6)], [(5, 0), (-1, 6)], [(1, 7), (-1, 9)], [(-1, 7), (1, 9)]])
theorem xo_170 : qRok xr_170 := by
  intro ρ M h0 hf hm hI
  have f0 := hf [(-1, 0), (1, 5)] (by decide)
  have f1 := hf [(1, 1)] (by decide)
  have f2 := hf [(-1, 0), (-1, 1), (1, 2)] (by decide)
  have f3 := hf [(-11, 0), (1, 9)] (by decide)
  have f4 := hf [(31, 0), (-1, 9)] (by decide)
  simp only [qD, h0] at f0 f1 f2 f3 f4
  have m0 : M 4 210 = 1 * ρ 0 + 0 := hm (4, 210, [(1, 0)]) (by decide)
  have m1 : M 4 211 = 1 * ρ 1 + 0 := hm (4, 211, [(1, 1)]) (by decide)
  have m2 : M 4 101 = 1 * ρ 2 + 0 := hm (4, 101, [(1, 2)]) (by decide)
  have m3 : M 3 46 = 1 * ρ 3 + 0 := hm (3, 46, [(1, 3)]) (by decide)
  have m4 : M 3 47 = 1 * ρ 4 + 0 := hm (3, 47, [(1, 4)]) (by decide)
  have m5 : M 4 100 = 1 * ρ 5 + 0 := hm (4, 100, [(1, 5)]) (by decide)
  have m6 : M 3 50 = 1 * ρ 6 + 0 := hm (3, 50, [(1, 6)]) (by decide)
  have m7 : M 3 51 = 1 * ρ 7 + 0 := hm (3, 51, [(1, 7)]) (by decide)
  have m8 : M 4 108 = 1 * ρ 8 + 0 := hm (4, 108, [(1, 8)]) (by decide)
  have m9 : M 4 212 = 1 * ρ 0 + 0 := hm (4, 212, [(1, 0)]) (by decide)
  have m10 : M 4 213 = 1 * ρ 9 + 0 := hm (4, 213, [(1, 9)]) (by decide)
  simp only [h0] at m0 m9
  obtain ⟨u1, u2, _⟩ := gx_xS8 hI (by omega)

  have hx : M 4 213 = M 92 (M 4 211).toNat := gx_xS9 hI (by omega)

  obtain ⟨t1, t2, t3, t4, t5, t6⟩ := tk_of hI (by omega) (by omega) (by omega) (show tAt (M 92) (M 4 101).toNat (M 4 211).toNat (M 4 107) (M 4 108) = (1, M 4 107, ((M 4 211).toNat : Int), ((M 4 211).toNat : Int) + 1, 5, M 4 213) from by
    unfold tAt
    rw [if_neg (by omega), if_neg (by omega), if_neg (by omega), if_neg (by omega), if_neg (by omega), if_neg (by omega)]
    have e : tSg (M 92 (M 4 211).toNat) = 1 := by
      unfold tSg
      rw [if_neg (by omega), if_neg (by omega), if_neg (by omega), if_neg (by omega), if_neg (by omega), if_neg (by omega), if_neg (by omega), if_neg (by omega), if_neg (by omega), if_neg (by omega)]
    unfold tSr
    rw [e, if_pos rfl, ← hx])
  refine ⟨ρ, fun _ _ => rfl, fun f h => ?_, ?_⟩
  · have h : f ∈ ([[(-1, 1), (1, 3)], [(1, 1), (-1, 3)], [(-1, 0), (-1, 1), (1, 4)], [(1, 0), (1, 1), (-1, 4)], [(-5, 0), (1, 6)], [(5, 0), (-1, 6)], [(1, 7), (-1, 9)], [(-1, 7), (1, 9)]] : List qF) := h
    simp only [List.mem_cons, List.not_mem_nil, or_false] at h
    rcases h with rfl | rfl | rfl | rfl | rfl | rfl | rfl | rfl
    · show 0 ≤ -1 * ρ 1 + (1 * ρ 3 + 0)
      (try rw [h0]); omega
    · show 0 ≤ 1 * ρ 1 + (-1 * ρ 3 + 0)
      (try rw [h0]); omega
    · show 0 ≤ -1 * ρ 0 + (-1 * ρ 1 + (1 * ρ 4 + 0))
      (try rw [h0]); omega
    · show 0 ≤ 1 * ρ 0 + (1 * ρ 1 + (-1 * ρ 4 + 0))
      (try rw [h0]); omega
    · show 0 ≤ -5 * ρ 0 + (1 * ρ 6 + 0)
      (try rw [h0]); omega
    · show 0 ≤ 5 * ρ 0 + (-1 * ρ 6 + 0)
      (try rw [h0]); omega
    · show 0 ≤ 1 * ρ 7 + (-1 * ρ 9 + 0)
      (try rw [h0]); omega
    · show 0 ≤ -1 * ρ 7 + (1 * ρ 9 + 0)
      (try rw [h0]); omega
  · show sI M
    exact hI
-- signNo2_c
def xr_171 : qRu := (10, [[(-1, 0), (1, 5)], [(1, 1)], [(-1, 0), (-1, 1), (1, 2)], [(-33, 0), (1, 9)], [(39, 0), (-1, 9)]], [(4, 210, [(1, 0)]), (4, 211, [(1, 1)]), (4, 101, [(1, 2)]), (3, 46, [(1, 3)]), (3, 47, [(1, 4)]), (4, 100, [(1, 5)]), (3, 44, [(1, 6)]), (3, 45, [(1, 7)]), (4, 107, [(1, 8)]), (4, 212, [(1, 0)]), (4, 213, [(1, 9)])], [], [], [[(-1, 1), (1, 3)], [(1, 1), (-1, 3)], [(-1, 0), (-1, 1), (1, 4)], [(1, 0), (1, 1), (-1, 4)], [(-1, 0), (1, 6)], [(1, 0), (-1, 6)], [(1, 7), (-1, 8)], [(-1, 7), (1, 8)]])
theorem xo_171 : qRok xr_171 := by
  intro ρ M h0 hf hm hI
  have f0 := hf [(-1, 0), (1, 5)] (by decide)
  have f1 := hf [(1, 1)] (by decide)
  have f2 := hf [(-1, 0), (-1, 1), (1, 2)] (by decide)
  have f3 := hf [(-33, 0), (1, 9)] (by decide)
  have f4 := hf [(39, 0), (-1, 9)] (by decide)
  simp only [qD, h0] at f0 f1 f2 f3 f4
  have m0 : M 4 210 = 1 * ρ 0 + 0 := hm (4, 210, [(1, 0)]) (by decide)
  have m1 : M 4 211 = 1 * ρ 1 + 0 := hm (4, 211, [(1, 1)]) (by decide)
  have m2 : M 4 101 = 1 * ρ 2 + 0 := hm (4, 101, [(1, 2)]) (by decide)
  have m3 : M 3 46 = 1 * ρ 3 + 0 := hm (3, 46, [(1, 3)]) (by decide)
  have m4 : M 3 47 = 1 * ρ 4 + 0 := hm (3, 47, [(1, 4)]) (by decide)
  have m5 : M 4 100 = 1 * ρ 5 + 0 := hm (4, 100, [(1, 5)]) (by decide)
  have m6 : M 3 44 = 1 * ρ 6 + 0 := hm (3, 44, [(1, 6)]) (by decide)
  have m7 : M 3 45 = 1 * ρ 7 + 0 := hm (3, 45, [(1, 7)]) (by decide)
  have m8 : M 4 107 = 1 * ρ 8 + 0 := hm (4, 107, [(1, 8)]) (by decide)
  have m9 : M 4 212 = 1 * ρ 0 + 0 := hm (4, 212, [(1, 0)]) (by decide)
  have m10 : M 4 213 = 1 * ρ 9 + 0 := hm (4, 213, [(1, 9)]) (by decide)
  simp only [h0] at m0 m9
  obtain ⟨u1, u2, _⟩ := gx_xS8 hI (by omega)

  have hx : M 4 213 = M 92 (M 4 211).toNat := gx_xS9 hI (by omega)

  obtain ⟨t1, t2, t3, t4, t5, t6⟩ := tk_of hI (by omega) (by omega) (by omega) (show tAt (M 92) (M 4 101).toNat (M 4 211).toNat (M 4 107) (M 4 108) = (1, M 4 107, ((M 4 211).toNat : Int), ((M 4 211).toNat : Int) + 1, 5, M 4 213) from by
    unfold tAt
    rw [if_neg (by omega), if_neg (by omega), if_neg (by omega), if_neg (by omega), if_neg (by omega), if_neg (by omega)]
    have e : tSg (M 92 (M 4 211).toNat) = 1 := by
      unfold tSg
      rw [if_neg (by omega), if_neg (by omega), if_neg (by omega), if_neg (by omega), if_neg (by omega), if_neg (by omega), if_neg (by omega), if_neg (by omega), if_neg (by omega), if_neg (by omega)]
    unfold tSr
    rw [e, if_pos rfl, ← hx])
  refine ⟨ρ, fun _ _ => rfl, fun f h => ?_, ?_⟩
  · have h : f ∈ ([[(-1, 1), (1, 3)], [(1, 1), (-1, 3)], [(-1, 0), (-1, 1), (1, 4)], [(1, 0), (1, 1), (-1, 4)], [(-1, 0), (1, 6)], [(1, 0), (-1, 6)], [(1, 7), (-1, 8)], [(-1, 7), (1, 8)]] : List qF) := h
    simp only [List.mem_cons, List.not_mem_nil, or_false] at h
    rcases h with rfl | rfl | rfl | rfl | rfl | rfl | rfl | rfl
    · show 0 ≤ -1 * ρ 1 + (1 * ρ 3 + 0)
      (try rw [h0]); omega
    · show 0 ≤ 1 * ρ 1 + (-1 * ρ 3 + 0)
      (try rw [h0]); omega
    · show 0 ≤ -1 * ρ 0 + (-1 * ρ 1 + (1 * ρ 4 + 0))
      (try rw [h0]); omega
    · show 0 ≤ 1 * ρ 0 + (1 * ρ 1 + (-1 * ρ 4 + 0))
      (try rw [h0]); omega
    · show 0 ≤ -1 * ρ 0 + (1 * ρ 6 + 0)
      (try rw [h0]); omega
    · show 0 ≤ 1 * ρ 0 + (-1 * ρ 6 + 0)
      (try rw [h0]); omega
    · show 0 ≤ 1 * ρ 7 + (-1 * ρ 8 + 0)
      (try rw [h0]); omega
    · show 0 ≤ -1 * ρ 7 + (1 * ρ 8 + 0)
      (try rw [h0]); omega
  · show sI M
    exact hI
-- signNo2_r
def xr_172 : qRu := (10, [[(-1, 0), (1, 5)], [(1, 1)], [(-1, 0), (-1, 1), (1, 2)], [(-33, 0), (1, 9)], [(39, 0), (-1, 9)]], [(4, 210, [(1, 0)]), (4, 211, [(1, 1)]), (4, 101, [(1, 2)]), (3, 46, [(1, 3)]), (3, 47, [(1, 4)]), (4, 100, [(1, 5)]), (3, 50, [(1, 6)]), (3, 51, [(1, 7)]), (4, 108, [(1, 8)]), (4, 212, [(1, 0)]), (4, 213, [(1, 9)])], [], [], [[(-1, 1), (1, 3)], [(1, 1), (-1, 3)], [(-1, 0), (-1, 1), (1, 4)], [(1, 0), (1, 1), (-1, 4)], [(-5, 0), (1, 6)], [(5, 0), (-1, 6)], [(1, 7), (-1, 9)], [(-1, 7), (1, 9)]])
theorem xo_172 : qRok xr_172 := by
  intro ρ M h0 hf hm hI
  have f0 := hf [(-1, 0), (1, 5)] (by decide)
  have f1 := hf [(1, 1)] (by decide)
  have f2 := hf [(-1, 0), (-1, 1), (1, 2)] (by decide)
  have f3 := hf [(-33, 0), (1, 9)] (by decide)
  have f4 := hf [(39, 0), (-1, 9)] (by decide)
  simp only [qD, h0] at f0 f1 f2 f3 f4
  have m0 : M 4 210 = 1 * ρ 0 + 0 := hm (4, 210, [(1, 0)]) (by decide)
  have m1 : M 4 211 = 1 * ρ 1 + 0 := hm (4, 211, [(1, 1)]) (by decide)
  have m2 : M 4 101 = 1 * ρ 2 + 0 := hm (4, 101, [(1, 2)]) (by decide)
  have m3 : M 3 46 = 1 * ρ 3 + 0 := hm (3, 46, [(1, 3)]) (by decide)
  have m4 : M 3 47 = 1 * ρ 4 + 0 := hm (3, 47, [(1, 4)]) (by decide)
  have m5 : M 4 100 = 1 * ρ 5 + 0 := hm (4, 100, [(1, 5)]) (by decide)
  have m6 : M 3 50 = 1 * ρ 6 + 0 := hm (3, 50, [(1, 6)]) (by decide)
  have m7 : M 3 51 = 1 * ρ 7 + 0 := hm (3, 51, [(1, 7)]) (by decide)
  have m8 : M 4 108 = 1 * ρ 8 + 0 := hm (4, 108, [(1, 8)]) (by decide)
  have m9 : M 4 212 = 1 * ρ 0 + 0 := hm (4, 212, [(1, 0)]) (by decide)
  have m10 : M 4 213 = 1 * ρ 9 + 0 := hm (4, 213, [(1, 9)]) (by decide)
  simp only [h0] at m0 m9
  obtain ⟨u1, u2, _⟩ := gx_xS8 hI (by omega)

  have hx : M 4 213 = M 92 (M 4 211).toNat := gx_xS9 hI (by omega)

  obtain ⟨t1, t2, t3, t4, t5, t6⟩ := tk_of hI (by omega) (by omega) (by omega) (show tAt (M 92) (M 4 101).toNat (M 4 211).toNat (M 4 107) (M 4 108) = (1, M 4 107, ((M 4 211).toNat : Int), ((M 4 211).toNat : Int) + 1, 5, M 4 213) from by
    unfold tAt
    rw [if_neg (by omega), if_neg (by omega), if_neg (by omega), if_neg (by omega), if_neg (by omega), if_neg (by omega)]
    have e : tSg (M 92 (M 4 211).toNat) = 1 := by
      unfold tSg
      rw [if_neg (by omega), if_neg (by omega), if_neg (by omega), if_neg (by omega), if_neg (by omega), if_neg (by omega), if_neg (by omega), if_neg (by omega), if_neg (by omega), if_neg (by omega)]
    unfold tSr
    rw [e, if_pos rfl, ← hx])
  refine ⟨ρ, fun _ _ => rfl, fun f h => ?_, ?_⟩
  · have h : f ∈ ([[(-1, 1), (1, 3)], [(1, 1), (-1, 3)], [(-1, 0), (-1, 1), (1, 4)], [(1, 0), (1, 1), (-1, 4)], [(-5, 0), (1, 6)], [(5, 0), (-1, 6)], [(1, 7), (-1, 9)], [(-1, 7), (1, 9)]] : List qF) := h
    simp only [List.mem_cons, List.not_mem_nil, or_false] at h
    rcases h with rfl | rfl | rfl | rfl | rfl | rfl | rfl | rfl
    · show 0 ≤ -1 * ρ 1 + (1 * ρ 3 + 0)
      (try rw [h0]); omega
    · show 0 ≤ 1 * ρ 1 + (-1 * ρ 3 + 0)
      (try rw [h0]); omega
    · show 0 ≤ -1 * ρ 0 + (-1 * ρ 1 + (1 * ρ 4 + 0))
      (try rw [h0]); omega
    · show 0 ≤ 1 * ρ 0 + (1 * ρ 1 + (-1 * ρ 4 + 0))
      (try rw [h0]); omega
    · show 0 ≤ -5 * ρ 0 + (1 * ρ 6 + 0)
      (try rw [h0]); omega
    · show 0 ≤ 5 * ρ 0 + (-1 * ρ 6 + 0)
      (try rw [h0]); omega
    · show 0 ≤ 1 * ρ 7 + (-1 * ρ 9 + 0)
      (try rw [h0]); omega
    · show 0 ≤ -1 * ρ 7 + (1 * ρ 9 + 0)
      (try rw [h0]); omega
  · show sI M
    exact hI
-- signNo3_c
def xr_173 : qRu := (10, [[(-1, 0), (1, 5)], [(1, 1)], [(-1, 0), (-1, 1), (1, 2)], [(-44, 0), (1, 9)], [(44, 0), (-1, 9)]], [(4, 210, [(1, 0)]), (4, 211, [(1, 1)]), (4, 101, [(1, 2)]), (3, 46, [(1, 3)]), (3, 47, [(1, 4)]), (4, 100, [(1, 5)]), (3, 44, [(1, 6)]), (3, 45, [(1, 7)]), (4, 107, [(1, 8)]), (4, 212, [(1, 0)]), (4, 213, [(1, 9)])], [], [], [[(-1, 1), (1, 3)], [(1, 1), (-1, 3)], [(-1, 0), (-1, 1), (1, 4)], [(1, 0), (1, 1), (-1, 4)], [(-1, 0), (1, 6)], [(1, 0), (-1, 6)], [(1, 7), (-1, 8)], [(-1, 7), (1, 8)]])
theorem xo_173 : qRok xr_173 := by
  intro ρ M h0 hf hm hI
  have f0 := hf [(-1, 0), (1, 5)] (by decide)
  have f1 := hf [(1, 1)] (by decide)
  have f2 := hf [(-1, 0), (-1, 1), (1, 2)] (by decide)
  have f3 := hf [(-44, 0), (1, 9)] (by decide)
  have f4 := hf [(44, 0), (-1, 9)] (by decide)
  simp only [qD, h0] at f0 f1 f2 f3 f4
  have m0 : M 4 210 = 1 * ρ 0 + 0 := hm (4, 210, [(1, 0)]) (by decide)
  have m1 : M 4 211 = 1 * ρ 1 + 0 := hm (4, 211, [(1, 1)]) (by decide)
  have m2 : M 4 101 = 1 * ρ 2 + 0 := hm (4, 101, [(1, 2)]) (by decide)
  have m3 : M 3 46 = 1 * ρ 3 + 0 := hm (3, 46, [(1, 3)]) (by decide)
  have m4 : M 3 47 = 1 * ρ 4 + 0 := hm (3, 47, [(1, 4)]) (by decide)
  have m5 : M 4 100 = 1 * ρ 5 + 0 := hm (4, 100, [(1, 5)]) (by decide)
  have m6 : M 3 44 = 1 * ρ 6 + 0 := hm (3, 44, [(1, 6)]) (by decide)
  have m7 : M 3 45 = 1 * ρ 7 + 0 := hm (3, 45, [(1, 7)]) (by decide)
  have m8 : M 4 107 = 1 * ρ 8 + 0 := hm (4, 107, [(1, 8)]) (by decide)
  have m9 : M 4 212 = 1 * ρ 0 + 0 := hm (4, 212, [(1, 0)]) (by decide)
  have m10 : M 4 213 = 1 * ρ 9 + 0 := hm (4, 213, [(1, 9)]) (by decide)
  simp only [h0] at m0 m9
  obtain ⟨u1, u2, _⟩ := gx_xS8 hI (by omega)

  have hx : M 4 213 = M 92 (M 4 211).toNat := gx_xS9 hI (by omega)

  obtain ⟨t1, t2, t3, t4, t5, t6⟩ := tk_of hI (by omega) (by omega) (by omega) (show tAt (M 92) (M 4 101).toNat (M 4 211).toNat (M 4 107) (M 4 108) = (1, M 4 107, ((M 4 211).toNat : Int), ((M 4 211).toNat : Int) + 1, 5, M 4 213) from by
    unfold tAt
    rw [if_neg (by omega), if_neg (by omega), if_neg (by omega), if_neg (by omega), if_neg (by omega), if_neg (by omega)]
    have e : tSg (M 92 (M 4 211).toNat) = 1 := by
      unfold tSg
      rw [if_neg (by omega), if_neg (by omega), if_neg (by omega), if_neg (by omega), if_neg (by omega), if_neg (by omega), if_neg (by omega), if_neg (by omega), if_neg (by omega), if_neg (by omega)]
    unfold tSr
    rw [e, if_pos rfl, ← hx])
  refine ⟨ρ, fun _ _ => rfl, fun f h => ?_, ?_⟩
  · have h : f ∈ ([[(-1, 1), (1, 3)], [(1, 1), (-1, 3)], [(-1, 0), (-1, 1), (1, 4)], [(1, 0), (1, 1), (-1, 4)], [(-1, 0), (1, 6)], [(1, 0), (-1, 6)], [(1, 7), (-1, 8)], [(-1, 7), (1, 8)]] : List qF) := h
    simp only [List.mem_cons, List.not_mem_nil, or_false] at h
    rcases h with rfl | rfl | rfl | rfl | rfl | rfl | rfl | rfl
    · show 0 ≤ -1 * ρ 1 + (1 * ρ 3 + 0)
      (try rw [h0]); omega
    · show 0 ≤ 1 * ρ 1 + (-1 * ρ 3 + 0)
      (try rw [h0]); omega
    · show 0 ≤ -1 * ρ 0 + (-1 * ρ 1 + (1 * ρ 4 + 0))
      (try rw [h0]); omega
    · show 0 ≤ 1 * ρ 0 + (1 * ρ 1 + (-1 * ρ 4 + 0))
      (try rw [h0]); omega
    · show 0 ≤ -1 * ρ 0 + (1 * ρ 6 + 0)
      (try rw [h0]); omega
    · show 0 ≤ 1 * ρ 0 + (-1 * ρ 6 + 0)
      (try rw [h0]); omega
    · show 0 ≤ 1 * ρ 7 + (-1 * ρ 8 + 0)
      (try rw [h0]); omega
    · show 0 ≤ -1 * ρ 7 + (1 * ρ 8 + 0)
      (try rw [h0]); omega
  · show sI M
    exact hI
-- signNo3_r
def xr_174 : qRu := (10, [[(-1, 0), (1, 5)], [(1, 1)], [(-1, 0), (-1, 1), (1, 2)], [(-44, 0), (1, 9)], [(44, 0), (-1, 9)]], [(4, 210, [(1, 0)]), (4, 211, [(1, 1)]), (4, 101, [(1, 2)]), (3, 46, [(1, 3)]), (3, 47, [(1, 4)]), (4, 100, [(1, 5)]), (3, 50, [(1, 6)]), (3, 51, [(1, 7)]), (4, 108, [(1, 8)]), (4, 212, [(1, 0)]), (4, 213, [(1, 9)])], [], [], [[(-1, 1), (1, 3)], [(1, 1), (-1, 3)], [(-1, 0), (-1, 1), (1, 4)], [(1, 0), (1, 1), (-1, 4)], [(-5, 0), (1, 6)], [(5, 0), (-1, 6)], [(1, 7), (-1, 9)], [(-1, 7), (1, 9)]])
theorem xo_174 : qRok xr_174 := by
  intro ρ M h0 hf hm hI
  have f0 := hf [(-1, 0), (1, 5)] (by decide)
  have f1 := hf [(1, 1)] (by decide)
  have f2 := hf [(-1, 0), (-1, 1), (1, 2)] (by decide)
  have f3 := hf [(-44, 0), (1, 9)] (by decide)
  have f4 := hf [(44, 0), (-1, 9)] (by decide)
  simp only [qD, h0] at f0 f1 f2 f3 f4
  have m0 : M 4 210 = 1 * ρ 0 + 0 := hm (4, 210, [(1, 0)]) (by decide)
  have m1 : M 4 211 = 1 * ρ 1 + 0 := hm (4, 211, [(1, 1)]) (by decide)
  have m2 : M 4 101 = 1 * ρ 2 + 0 := hm (4, 101, [(1, 2)]) (by decide)
  have m3 : M 3 46 = 1 * ρ 3 + 0 := hm (3, 46, [(1, 3)]) (by decide)
  have m4 : M 3 47 = 1 * ρ 4 + 0 := hm (3, 47, [(1, 4)]) (by decide)
  have m5 : M 4 100 = 1 * ρ 5 + 0 := hm (4, 100, [(1, 5)]) (by decide)
  have m6 : M 3 50 = 1 * ρ 6 + 0 := hm (3, 50, [(1, 6)]) (by decide)
  have m7 : M 3 51 = 1 * ρ 7 + 0 := hm (3, 51, [(1, 7)]) (by decide)
  have m8 : M 4 108 = 1 * ρ 8 + 0 := hm (4, 108, [(1, 8)]) (by decide)
  have m9 : M 4 212 = 1 * ρ 0 + 0 := hm (4, 212, [(1, 0)]) (by decide)
  have m10 : M 4 213 = 1 * ρ 9 + 0 := hm (4, 213, [(1, 9)]) (by decide)
  simp only [h0] at m0 m9
  obtain ⟨u1, u2, _⟩ := gx_xS8 hI (by omega)

  have hx : M 4 213 = M 92 (M 4 211).toNat := gx_xS9 hI (by omega)

  obtain ⟨t1, t2, t3, t4, t5, t6⟩ := tk_of hI (by omega) (by omega) (by omega) (show tAt (M 92) (M 4 101).toNat (M 4 211).toNat (M 4 107) (M 4 108) = (1, M 4 107, ((M 4 211).toNat : Int), ((M 4 211).toNat : Int) + 1, 5, M 4 213) from by
    unfold tAt
    rw [if_neg (by omega), if_neg (by omega), if_neg (by omega), if_neg (by omega), if_neg (by omega), if_neg (by omega)]
    have e : tSg (M 92 (M 4 211).toNat) = 1 := by
      unfold tSg
      rw [if_neg (by omega), if_neg (by omega), if_neg (by omega), if_neg (by omega), if_neg (by omega), if_neg (by omega), if_neg (by omega), if_neg (by omega), if_neg (by omega), if_neg (by omega)]
    unfold tSr
    rw [e, if_pos rfl, ← hx])
  refine ⟨ρ, fun _ _ => rfl, fun f h => ?_, ?_⟩
  · have h : f ∈ ([[(-1, 1), (1, 3)], [(1, 1), (-1, 3)], [(-1, 0), (-1, 1), (1, 4)], [(1, 0), (1, 1), (-1, 4)], [(-5, 0), (1, 6)], [(5, 0), (-1, 6)], [(1, 7), (-1, 9)], [(-1, 7), (1, 9)]] : List qF) := h
    simp only [List.mem_cons, List.not_mem_nil, or_false] at h
    rcases h with rfl | rfl | rfl | rfl | rfl | rfl | rfl | rfl
    · show 0 ≤ -1 * ρ 1 + (1 * ρ 3 + 0)
      (try rw [h0]); omega
    · show 0 ≤ 1 * ρ 1 + (-1 * ρ 3 + 0)
      (try rw [h0]); omega
    · show 0 ≤ -1 * ρ 0 + (-1 * ρ 1 + (1 * ρ 4 + 0))
      (try rw [h0]); omega
    · show 0 ≤ 1 * ρ 0 + (1 * ρ 1 + (-1 * ρ 4 + 0))
      (try rw [h0]); omega
    · show 0 ≤ -5 * ρ 0 + (1 * ρ 6 + 0)
      (try rw [h0]); omega
    · show 0 ≤ 5 * ρ 0 + (-1 * ρ 6 + 0)
      (try rw [h0]); omega
    · show 0 ≤ 1 * ρ 7 + (-1 * ρ 9 + 0)
      (try rw [h0]); omega
    · show 0 ≤ -1 * ρ 7 + (1 * ρ 9 + 0)
      (try rw [h0]); omega
  · show sI M
    exact hI
-- signNo4_c
def xr_175 : qRu := (10, [[(-1, 0), (1, 5)], [(1, 1)], [(-1, 0), (-1, 1), (1, 2)], [(-46, 0), (1, 9)], [(46, 0), (-1, 9)]], [(4, 210, [(1, 0)]), (4, 211, [(1, 1)]), (4, 101, [(1, 2)]), (3, 46, [(1, 3)]), (3, 47, [(1, 4)]), (4, 100, [(1, 5)]), (3, 44, [(1, 6)]), (3, 45, [(1, 7)]), (4, 107, [(1, 8)]), (4, 212, [(1, 0)]), (4, 213, [(1, 9)])], [], [], [[(-1, 1), (1, 3)], [(1, 1), (-1, 3)], [(-1, 0), (-1, 1), (1, 4)], [(1, 0), (1, 1), (-1, 4)], [(-1, 0), (1, 6)], [(1, 0), (-1, 6)], [(1, 7), (-1, 8)], [(-1, 7), (1, 8)]])
theorem xo_175 : qRok xr_175 := by
  intro ρ M h0 hf hm hI
  have f0 := hf [(-1, 0), (1, 5)] (by decide)
  have f1 := hf [(1, 1)] (by decide)
  have f2 := hf [(-1, 0), (-1, 1), (1, 2)] (by decide)
  have f3 := hf [(-46, 0), (1, 9)] (by decide)
  have f4 := hf [(46, 0), (-1, 9)] (by decide)
  simp only [qD, h0] at f0 f1 f2 f3 f4
  have m0 : M 4 210 = 1 * ρ 0 + 0 := hm (4, 210, [(1, 0)]) (by decide)
  have m1 : M 4 211 = 1 * ρ 1 + 0 := hm (4, 211, [(1, 1)]) (by decide)
  have m2 : M 4 101 = 1 * ρ 2 + 0 := hm (4, 101, [(1, 2)]) (by decide)
  have m3 : M 3 46 = 1 * ρ 3 + 0 := hm (3, 46, [(1, 3)]) (by decide)
  have m4 : M 3 47 = 1 * ρ 4 + 0 := hm (3, 47, [(1, 4)]) (by decide)
  have m5 : M 4 100 = 1 * ρ 5 + 0 := hm (4, 100, [(1, 5)]) (by decide)
  have m6 : M 3 44 = 1 * ρ 6 + 0 := hm (3, 44, [(1, 6)]) (by decide)
  have m7 : M 3 45 = 1 * ρ 7 + 0 := hm (3, 45, [(1, 7)]) (by decide)
  have m8 : M 4 107 = 1 * ρ 8 + 0 := hm (4, 107, [(1, 8)]) (by decide)
  have m9 : M 4 212 = 1 * ρ 0 + 0 := hm (4, 212, [(1, 0)]) (by decide)
  have m10 : M 4 213 = 1 * ρ 9 + 0 := hm (4, 213, [(1, 9)]) (by decide)
  simp only [h0] at m0 m9
  obtain ⟨u1, u2, _⟩ := gx_xS8 hI (by omega)

  have hx : M 4 213 = M 92 (M 4 211).toNat := gx_xS9 hI (by omega)

  obtain ⟨t1, t2, t3, t4, t5, t6⟩ := tk_of hI (by omega) (by omega) (by omega) (show tAt (M 92) (M 4 101).toNat (M 4 211).toNat (M 4 107) (M 4 108) = (1, M 4 107, ((M 4 211).toNat : Int), ((M 4 211).toNat : Int) + 1, 5, M 4 213) from by
    unfold tAt
    rw [if_neg (by omega), if_neg (by omega), if_neg (by omega), if_neg (by omega), if_neg (by omega), if_neg (by omega)]
    have e : tSg (M 92 (M 4 211).toNat) = 1 := by
      unfold tSg
      rw [if_neg (by omega), if_neg (by omega), if_neg (by omega), if_neg (by omega), if_neg (by omega), if_neg (by omega), if_neg (by omega), if_neg (by omega), if_neg (by omega), if_neg (by omega)]
    unfold tSr
    rw [e, if_pos rfl, ← hx])
  refine ⟨ρ, fun _ _ => rfl, fun f h => ?_, ?_⟩
  · have h : f ∈ ([[(-1, 1), (1, 3)], [(1, 1), (-1, 3)], [(-1, 0), (-1, 1), (1, 4)], [(1, 0), (1, 1), (-1, 4)], [(-1, 0), (1, 6)], [(1, 0), (-1, 6)], [(1, 7), (-1, 8)], [(-1, 7), (1, 8)]] : List qF) := h
    simp only [List.mem_cons, List.not_mem_nil, or_false] at h
    rcases h with rfl | rfl | rfl | rfl | rfl | rfl | rfl | rfl
    · show 0 ≤ -1 * ρ 1 + (1 * ρ 3 + 0)
      (try rw [h0]); omega
    · show 0 ≤ 1 * ρ 1 + (-1 * ρ 3 + 0)
      (try rw [h0]); omega
    · show 0 ≤ -1 * ρ 0 + (-1 * ρ 1 + (1 * ρ 4 + 0))
      (try rw [h0]); omega
    · show 0 ≤ 1 * ρ 0 + (1 * ρ 1 + (-1 * ρ 4 + 0))
      (try rw [h0]); omega
    · show 0 ≤ -1 * ρ 0 + (1 * ρ 6 + 0)
      (try rw [h0]); omega
    · show 0 ≤ 1 * ρ 0 + (-1 * ρ 6 + 0)
      (try rw [h0]); omega
    · show 0 ≤ 1 * ρ 7 + (-1 * ρ 8 + 0)
      (try rw [h0]); omega
    · show 0 ≤ -1 * ρ 7 + (1 * ρ 8 + 0)
      (try rw [h0]); omega
  · show sI M
    exact hI
-- signNo4_r
def xr_176 : qRu := (10, [[(-1, 0), (1, 5)], [(1, 1)], [(-1, 0), (-1, 1), (1, 2)], [(-46, 0), (1, 9)], [(46, 0), (-1, 9)]], [(4, 210, [(1, 0)]), (4, 211, [(1, 1)]), (4, 101, [(1, 2)]), (3, 46, [(1, 3)]), (3, 47, [(1, 4)]), (4, 100, [(1, 5)]), (3, 50, [(1, 6)]), (3, 51, [(1, 7)]), (4, 108, [(1, 8)]), (4, 212, [(1, 0)]), (4, 213, [(1, 9)])], [], [], [[(-1, 1), (1, 3)], [(1, 1), (-1, 3)], [(-1, 0), (-1, 1), (1, 4)], [(1, 0), (1, 1), (-1, 4)], [(-5, 0), (1, 6)], [(5, 0), (-1, 6)], [(1, 7), (-1, 9)], [(-1, 7), (1, 9)]])
theorem xo_176 : qRok xr_176 := by
  intro ρ M h0 hf hm hI
  have f0 := hf [(-1, 0), (1, 5)] (by decide)
  have f1 := hf [(1, 1)] (by decide)
  have f2 := hf [(-1, 0), (-1, 1), (1, 2)] (by decide)
  have f3 := hf [(-46, 0), (1, 9)] (by decide)
  have f4 := hf [(46, 0), (-1, 9)] (by decide)
  simp only [qD, h0] at f0 f1 f2 f3 f4
  have m0 : M 4 210 = 1 * ρ 0 + 0 := hm (4, 210, [(1, 0)]) (by decide)
  have m1 : M 4 211 = 1 * ρ 1 + 0 := hm (4, 211, [(1, 1)]) (by decide)
  have m2 : M 4 101 = 1 * ρ 2 + 0 := hm (4, 101, [(1, 2)]) (by decide)
  have m3 : M 3 46 = 1 * ρ 3 + 0 := hm (3, 46, [(1, 3)]) (by decide)
  have m4 : M 3 47 = 1 * ρ 4 + 0 := hm (3, 47, [(1, 4)]) (by decide)
  have m5 : M 4 100 = 1 * ρ 5 + 0 := hm (4, 100, [(1, 5)]) (by decide)
  have m6 : M 3 50 = 1 * ρ 6 + 0 := hm (3, 50, [(1, 6)]) (by decide)
  have m7 : M 3 51 = 1 * ρ 7 + 0 := hm (3, 51, [(1, 7)]) (by decide)
  have m8 : M 4 108 = 1 * ρ 8 + 0 := hm (4, 108, [(1, 8)]) (by decide)
  have m9 : M 4 212 = 1 * ρ 0 + 0 := hm (4, 212, [(1, 0)]) (by decide)
  have m10 : M 4 213 = 1 * ρ 9 + 0 := hm (4, 213, [(1, 9)]) (by decide)
  simp only [h0] at m0 m9
  obtain ⟨u1, u2, _⟩ := gx_xS8 hI (by omega)

  have hx : M 4 213 = M 92 (M 4 211).toNat := gx_xS9 hI (by omega)

  obtain ⟨t1, t2, t3, t4, t5, t6⟩ := tk_of hI (by omega) (by omega) (by omega) (show tAt (M 92) (M 4 101).toNat (M 4 211).toNat (M 4 107) (M 4 108) = (1, M 4 107, ((M 4 211).toNat : Int), ((M 4 211).toNat : Int) + 1, 5, M 4 213) from by
    unfold tAt
    rw [if_neg (by omega), if_neg (by omega), if_neg (by omega), if_neg (by omega), if_neg (by omega), if_neg (by omega)]
    have e : tSg (M 92 (M 4 211).toNat) = 1 := by
      unfold tSg
      rw [if_neg (by omega), if_neg (by omega), if_neg (by omega), if_neg (by omega), if_neg (by omega), if_neg (by omega), if_neg (by omega), if_neg (by omega), if_neg (by omega), if_neg (by omega)]
    unfold tSr
    rw [e, if_pos rfl, ← hx])
  refine ⟨ρ, fun _ _ => rfl, fun f h => ?_, ?_⟩
  · have h : f ∈ ([[(-1, 1), (1, 3)], [(1, 1), (-1, 3)], [(-1, 0), (-1, 1), (1, 4)], [(1, 0), (1, 1), (-1, 4)], [(-5, 0), (1, 6)], [(5, 0), (-1, 6)], [(1, 7), (-1, 9)], [(-1, 7), (1, 9)]] : List qF) := h
    simp only [List.mem_cons, List.not_mem_nil, or_false] at h
    rcases h with rfl | rfl | rfl | rfl | rfl | rfl | rfl | rfl
    · show 0 ≤ -1 * ρ 1 + (1 * ρ 3 + 0)
      (try rw [h0]); omega
    · show 0 ≤ 1 * ρ 1 + (-1 * ρ 3 + 0)
      (try rw [h0]); omega
    · show 0 ≤ -1 * ρ 0 + (-1 * ρ 1 + (1 * ρ 4 + 0))
      (try rw [h0]); omega
    · show 0 ≤ 1 * ρ 0 + (1 * ρ 1 + (-1 * ρ 4 + 0))
      (try rw [h0]); omega
    · show 0 ≤ -5 * ρ 0 + (1 * ρ 6 + 0)
      (try rw [h0]); omega
    · show 0 ≤ 5 * ρ 0 + (-1 * ρ 6 + 0)
      (try rw [h0]); omega
    · show 0 ≤ 1 * ρ 7 + (-1 * ρ 9 + 0)
      (try rw [h0]); omega
    · show 0 ≤ -1 * ρ 7 + (1 * ρ 9 + 0)
      (try rw [h0]); omega
  · show sI M
    exact hI
-- signNo5_c
def xr_177 : qRu := (10, [[(-1, 0), (1, 5)], [(1, 1)], [(-1, 0), (-1, 1), (1, 2)], [(-58, 0), (1, 9)], [(58, 0), (-1, 9)]], [(4, 210, [(1, 0)]), (4, 211, [(1, 1)]), (4, 101, [(1, 2)]), (3, 46, [(1, 3)]), (3, 47, [(1, 4)]), (4, 100, [(1, 5)]), (3, 44, [(1, 6)]), (3, 45, [(1, 7)]), (4, 107, [(1, 8)]), (4, 212, [(1, 0)]), (4, 213, [(1, 9)])], [], [], [[(-1, 1), (1, 3)], [(1, 1), (-1, 3)], [(-1, 0), (-1, 1), (1, 4)], [(1, 0), (1, 1), (-1, 4)], [(-1, 0), (1, 6)], [(1, 0), (-1, 6)], [(1, 7), (-1, 8)], [(-1, 7), (1, 8)]])
theorem xo_177 : qRok xr_177 := by
  intro ρ M h0 hf hm hI
  have f0 := hf [(-1, 0), (1, 5)] (by decide)
  have f1 := hf [(1, 1)] (by decide)
  have f2 := hf [(-1, 0), (-1, 1), (1, 2)] (by decide)
  have f3 := hf [(-58, 0), (1, 9)] (by decide)
  have f4 := hf [(58, 0), (-1, 9)] (by decide)
  simp only [qD, h0] at f0 f1 f2 f3 f4
  have m0 : M 4 210 = 1 * ρ 0 + 0 := hm (4, 210, [(1, 0)]) (by decide)
  have m1 : M 4 211 = 1 * ρ 1 + 0 := hm (4, 211, [(1, 1)]) (by decide)
  have m2 : M 4 101 = 1 * ρ 2 + 0 := hm (4, 101, [(1, 2)]) (by decide)
  have m3 : M 3 46 = 1 * ρ 3 + 0 := hm (3, 46, [(1, 3)]) (by decide)
  have m4 : M 3 47 = 1 * ρ 4 + 0 := hm (3, 47, [(1, 4)]) (by decide)
  have m5 : M 4 100 = 1 * ρ 5 + 0 := hm (4, 100, [(1, 5)]) (by decide)
  have m6 : M 3 44 = 1 * ρ 6 + 0 := hm (3, 44, [(1, 6)]) (by decide)
  have m7 : M 3 45 = 1 * ρ 7 + 0 := hm (3, 45, [(1, 7)]) (by decide)
  have m8 : M 4 107 = 1 * ρ 8 + 0 := hm (4, 107, [(1, 8)]) (by decide)
  have m9 : M 4 212 = 1 * ρ 0 + 0 := hm (4, 212, [(1, 0)]) (by decide)
  have m10 : M 4 213 = 1 * ρ 9 + 0 := hm (4, 213, [(1, 9)]) (by decide)
  simp only [h0] at m0 m9
  obtain ⟨u1, u2, _⟩ := gx_xS8 hI (by omega)

  have hx : M 4 213 = M 92 (M 4 211).toNat := gx_xS9 hI (by omega)

  obtain ⟨t1, t2, t3, t4, t5, t6⟩ := tk_of hI (by omega) (by omega) (by omega) (show tAt (M 92) (M 4 101).toNat (M 4 211).toNat (M 4 107) (M 4 108) = (1, M 4 107, ((M 4 211).toNat : Int), ((M 4 211).toNat : Int) + 1, 5, M 4 213) from by
    unfold tAt
    rw [if_neg (by omega), if_neg (by omega), if_neg (by omega), if_neg (by omega), if_neg (by omega), if_neg (by omega)]
    have e : tSg (M 92 (M 4 211).toNat) = 1 := by
      unfold tSg
      rw [if_neg (by omega), if_neg (by omega), if_neg (by omega), if_neg (by omega), if_neg (by omega), if_neg (by omega), if_neg (by omega), if_neg (by omega), if_neg (by omega), if_neg (by omega)]
    unfold tSr
    rw [e, if_pos rfl, ← hx])
  refine ⟨ρ, fun _ _ => rfl, fun f h => ?_, ?_⟩
  · have h : f ∈ ([[(-1, 1), (1, 3)], [(1, 1), (-1, 3)], [(-1, 0), (-1, 1), (1, 4)], [(1, 0), (1, 1), (-1, 4)], [(-1, 0), (1, 6)], [(1, 0), (-1, 6)], [(1, 7), (-1, 8)], [(-1, 7), (1, 8)]] : List qF) := h
    simp only [List.mem_cons, List.not_mem_nil, or_false] at h
    rcases h with rfl | rfl | rfl | rfl | rfl | rfl | rfl | rfl
    · show 0 ≤ -1 * ρ 1 + (1 * ρ 3 + 0)
      (try rw [h0]); omega
    · show 0 ≤ 1 * ρ 1 + (-1 * ρ 3 + 0)
      (try rw [h0]); omega
    · show 0 ≤ -1 * ρ 0 + (-1 * ρ 1 + (1 * ρ 4 + 0))
      (try rw [h0]); omega
    · show 0 ≤ 1 * ρ 0 + (1 * ρ 1 + (-1 * ρ 4 + 0))
      (try rw [h0]); omega
    · show 0 ≤ -1 * ρ 0 + (1 * ρ 6 + 0)
      (try rw [h0]); omega
    · show 0 ≤ 1 * ρ 0 + (-1 * ρ 6 + 0)
      (try rw [h0]); omega
    · show 0 ≤ 1 * ρ 7 + (-1 * ρ 8 + 0)
      (try rw [h0]); omega
    · show 0 ≤ -1 * ρ 7 + (1 * ρ 8 + 0)
      (try rw [h0]); omega
  · show sI M
    exact hI
-- signNo5_r
def xr_178 : qRu := (10, [[(-1, 0), (1, 5)], [(1, 1)], [(-1, 0), (-1, 1), (1, 2)], [(-58, 0), (1, 9)], [(58, 0), (-1, 9)]], [(4, 210, [(1, 0)]), (4, 211, [(1, 1)]), (4, 101, [(1, 2)]), (3, 46, [(1, 3)]), (3, 47, [(1, 4)]), (4, 100, [(1, 5)]), (3, 50, [(1, 6)]), (3, 51, [(1, 7)]), (4, 108, [(1, 8)]), (4, 212, [(1, 0)]), (4, 213, [(1, 9)])], [], [], [[(-1, 1), (1, 3)], [(1, 1), (-1, 3)], [(-1, 0), (-1, 1), (1, 4)], [(1, 0), (1, 1), (-1, 4)], [(-5, 0), (1, 6)], [(5, 0), (-1, 6)], [(1, 7), (-1, 9)], [(-1, 7), (1, 9)]])
theorem xo_178 : qRok xr_178 := by
  intro ρ M h0 hf hm hI
  have f0 := hf [(-1, 0), (1, 5)] (by decide)
  have f1 := hf [(1, 1)] (by decide)
  have f2 := hf [(-1, 0), (-1, 1), (1, 2)] (by decide)
  have f3 := hf [(-58, 0), (1, 9)] (by decide)
  have f4 := hf [(58, 0), (-1, 9)] (by decide)
  simp only [qD, h0] at f0 f1 f2 f3 f4
  have m0 : M 4 210 = 1 * ρ 0 + 0 := hm (4, 210, [(1, 0)]) (by decide)
  have m1 : M 4 211 = 1 * ρ 1 + 0 := hm (4, 211, [(1, 1)]) (by decide)
  have m2 : M 4 101 = 1 * ρ 2 + 0 := hm (4, 101, [(1, 2)]) (by decide)
  have m3 : M 3 46 = 1 * ρ 3 + 0 := hm (3, 46, [(1, 3)]) (by decide)
  have m4 : M 3 47 = 1 * ρ 4 + 0 := hm (3, 47, [(1, 4)]) (by decide)
  have m5 : M 4 100 = 1 * ρ 5 + 0 := hm (4, 100, [(1, 5)]) (by decide)
  have m6 : M 3 50 = 1 * ρ 6 + 0 := hm (3, 50, [(1, 6)]) (by decide)
  have m7 : M 3 51 = 1 * ρ 7 + 0 := hm (3, 51, [(1, 7)]) (by decide)
  have m8 : M 4 108 = 1 * ρ 8 + 0 := hm (4, 108, [(1, 8)]) (by decide)
  have m9 : M 4 212 = 1 * ρ 0 + 0 := hm (4, 212, [(1, 0)]) (by decide)
  have m10 : M 4 213 = 1 * ρ 9 + 0 := hm (4, 213, [(1, 9)]) (by decide)
  simp only [h0] at m0 m9
  obtain ⟨u1, u2, _⟩ := gx_xS8 hI (by omega)

  have hx : M 4 213 = M 92 (M 4 211).toNat := gx_xS9 hI (by omega)

  obtain ⟨t1, t2, t3, t4, t5, t6⟩ := tk_of hI (by omega) (by omega) (by omega) (show tAt (M 92) (M 4 101).toNat (M 4 211).toNat (M 4 107) (M 4 108) = (1, M 4 107, ((M 4 211).toNat : Int), ((M 4 211).toNat : Int) + 1, 5, M 4 213) from by
    unfold tAt
    rw [if_neg (by omega), if_neg (by omega), if_neg (by omega), if_neg (by omega), if_neg (by omega), if_neg (by omega)]
    have e : tSg (M 92 (M 4 211).toNat) = 1 := by
      unfold tSg
      rw [if_neg (by omega), if_neg (by omega), if_neg (by omega), if_neg (by omega), if_neg (by omega), if_neg (by omega), if_neg (by omega), if_neg (by omega), if_neg (by omega), if_neg (by omega)]
    unfold tSr
    rw [e, if_pos rfl, ← hx])
  refine ⟨ρ, fun _ _ => rfl, fun f h => ?_, ?_⟩
  · have h : f ∈ ([[(-1, 1), (1, 3)], [(1, 1), (-1, 3)], [(-1, 0), (-1, 1), (1, 4)], [(1, 0), (1, 1), (-1, 4)], [(-5, 0), (1, 6)], [(5, 0), (-1, 6)], [(1, 7), (-1, 9)], [(-1, 7), (1, 9)]] : List qF) := h
    simp only [List.mem_cons, List.not_mem_nil, or_false] at h
    rcases h with rfl | rfl | rfl | rfl | rfl | rfl | rfl | rfl
    · show 0 ≤ -1 * ρ 1 + (1 * ρ 3 + 0)
      (try rw [h0]); omega
    · show 0 ≤ 1 * ρ 1 + (-1 * ρ 3 + 0)
      (try rw [h0]); omega
    · show 0 ≤ -1 * ρ 0 + (-1 * ρ 1 + (1 * ρ 4 + 0))
      (try rw [h0]); omega
    · show 0 ≤ 1 * ρ 0 + (1 * ρ 1 + (-1 * ρ 4 + 0))
      (try rw [h0]); omega
    · show 0 ≤ -5 * ρ 0 + (1 * ρ 6 + 0)
      (try rw [h0]); omega
    · show 0 ≤ 5 * ρ 0 + (-1 * ρ 6 + 0)
      (try rw [h0]); omega
    · show 0 ≤ 1 * ρ 7 + (-1 * ρ 9 + 0)
      (try rw [h0]); omega
    · show 0 ≤ -1 * ρ 7 + (1 * ρ 9 + 0)
      (try rw [h0]); omega
  · show sI M
    exact hI
-- signNo6_c
def xr_179 : qRu := (10, [[(-1, 0), (1, 5)], [(1, 1)], [(-1, 0), (-1, 1), (1, 2)], [(-63, 0), (1, 9)], [(96, 0), (-1, 9)]], [(4, 210, [(1, 0)]), (4, 211, [(1, 1)]), (4, 101, [(1, 2)]), (3, 46, [(1, 3)]), (3, 47, [(1, 4)]), (4, 100, [(1, 5)]), (3, 44, [(1, 6)]), (3, 45, [(1, 7)]), (4, 107, [(1, 8)]), (4, 212, [(1, 0)]), (4, 213, [(1, 9)])], [], [], [[(-1, 1), (1, 3)], [(1, 1), (-1, 3)], [(-1, 0), (-1, 1), (1, 4)], [(1, 0), (1, 1), (-1, 4)], [(-1, 0), (1, 6)], [(1, 0), (-1, 6)], [(1, 7), (-1, 8)], [(-1, 7), (1, 8)]])
theorem xo_179 : qRok xr_179 := by
  intro ρ M h0 hf hm hI
  have f0 := hf [(-1, 0), (1, 5)] (by decide)
  have f1 := hf [(1, 1)] (by decide)
  have f2 := hf [(-1, 0), (-1, 1), (1, 2)] (by decide)
  have f3 := hf [(-63, 0), (1, 9)] (by decide)
  have f4 := hf [(96, 0), (-1, 9)] (by decide)
  simp only [qD, h0] at f0 f1 f2 f3 f4
  have m0 : M 4 210 = 1 * ρ 0 + 0 := hm (4, 210, [(1, 0)]) (by decide)
  have m1 : M 4 211 = 1 * ρ 1 + 0 := hm (4, 211, [(1, 1)]) (by decide)
  have m2 : M 4 101 = 1 * ρ 2 + 0 := hm (4, 101, [(1, 2)]) (by decide)
  have m3 : M 3 46 = 1 * ρ 3 + 0 := hm (3, 46, [(1, 3)]) (by decide)
  have m4 : M 3 47 = 1 * ρ 4 + 0 := hm (3, 47, [(1, 4)]) (by decide)
  have m5 : M 4 100 = 1 * ρ 5 + 0 := hm (4, 100, [(1, 5)]) (by decide)
  have m6 : M 3 44 = 1 * ρ 6 + 0 := hm (3, 44, [(1, 6)]) (by decide)
  have m7 : M 3 45 = 1 * ρ 7 + 0 := hm (3, 45, [(1, 7)]) (by decide)
  have m8 : M 4 107 = 1 * ρ 8 + 0 := hm (4, 107, [(1, 8)]) (by decide)
  have m9 : M 4 212 = 1 * ρ 0 + 0 := hm (4, 212, [(1, 0)]) (by decide)
  have m10 : M 4 213 = 1 * ρ 9 + 0 := hm (4, 213, [(1, 9)]) (by decide)
  simp only [h0] at m0 m9
  obtain ⟨u1, u2, _⟩ := gx_xS8 hI (by omega)

  have hx : M 4 213 = M 92 (M 4 211).toNat := gx_xS9 hI (by omega)

  obtain ⟨t1, t2, t3, t4, t5, t6⟩ := tk_of hI (by omega) (by omega) (by omega) (show tAt (M 92) (M 4 101).toNat (M 4 211).toNat (M 4 107) (M 4 108) = (1, M 4 107, ((M 4 211).toNat : Int), ((M 4 211).toNat : Int) + 1, 5, M 4 213) from by
    unfold tAt
    rw [if_neg (by omega), if_neg (by omega), if_neg (by omega), if_neg (by omega), if_neg (by omega), if_neg (by omega)]
    have e : tSg (M 92 (M 4 211).toNat) = 1 := by
      unfold tSg
      rw [if_neg (by omega), if_neg (by omega), if_neg (by omega), if_neg (by omega), if_neg (by omega), if_neg (by omega), if_neg (by omega), if_neg (by omega), if_neg (by omega), if_neg (by omega)]
    unfold tSr
    rw [e, if_pos rfl, ← hx])
  refine ⟨ρ, fun _ _ => rfl, fun f h => ?_, ?_⟩
  · have h : f ∈ ([[(-1, 1), (1, 3)], [(1, 1), (-1, 3)], [(-1, 0), (-1, 1), (1, 4)], [(1, 0), (1, 1), (-1, 4)], [(-1, 0), (1, 6)], [(1, 0), (-1, 6)], [(1, 7), (-1, 8)], [(-1, 7), (1, 8)]] : List qF) := h
    simp only [List.mem_cons, List.not_mem_nil, or_false] at h
    rcases h with rfl | rfl | rfl | rfl | rfl | rfl | rfl | rfl
    · show 0 ≤ -1 * ρ 1 + (1 * ρ 3 + 0)
      (try rw [h0]); omega
    · show 0 ≤ 1 * ρ 1 + (-1 * ρ 3 + 0)
      (try rw [h0]); omega
    · show 0 ≤ -1 * ρ 0 + (-1 * ρ 1 + (1 * ρ 4 + 0))
      (try rw [h0]); omega
    · show 0 ≤ 1 * ρ 0 + (1 * ρ 1 + (-1 * ρ 4 + 0))
      (try rw [h0]); omega
    · show 0 ≤ -1 * ρ 0 + (1 * ρ 6 + 0)
      (try rw [h0]); omega
    · show 0 ≤ 1 * ρ 0 + (-1 * ρ 6 + 0)
      (try rw [h0]); omega
    · show 0 ≤ 1 * ρ 7 + (-1 * ρ 8 + 0)
      (try rw [h0]); omega
    · show 0 ≤ -1 * ρ 7 + (1 * ρ 8 + 0)
      (try rw [h0]); omega
  · show sI M
    exact hI
-- signNo6_r
def xr_180 : qRu := (10, [[(-1, 0), (1, 5)], [(1, 1)], [(-1, 0), (-1, 1), (1, 2)], [(-63, 0), (1, 9)], [(96, 0), (-1, 9)]], [(4, 210, [(1, 0)]), (4, 211, [(1, 1)]), (4, 101, [(1, 2)]), (3, 46, [(1, 3)]), (3, 47, [(1, 4)]), (4, 100, [(1, 5)]), (3, 50, [(1, 6)]), (3, 51, [(1, 7)]), (4, 108, [(1, 8)]), (4, 212, [(1, 0)]), (4, 213, [(1, 9)])], [], [], [[(-1, 1), (1, 3)], [(1, 1), (-1, 3)], [(-1, 0), (-1, 1), (1, 4)], [(1, 0), (1, 1), (-1, 4)], [(-5, 0), (1, 6)], [(5, 0), (-1, 6)], [(1, 7), (-1, 9)], [(-1, 7), (1, 9)]])
theorem xo_180 : qRok xr_180 := by
  intro ρ M h0 hf hm hI
  have f0 := hf [(-1, 0), (1, 5)] (by decide)
  have f1 := hf [(1, 1)] (by decide)
  have f2 := hf [(-1, 0), (-1, 1), (1, 2)] (by decide)
  have f3 := hf [(-63, 0), (1, 9)] (by decide)
  have f4 := hf [(96, 0), (-1, 9)] (by decide)
  simp only [qD, h0] at f0 f1 f2 f3 f4
  have m0 : M 4 210 = 1 * ρ 0 + 0 := hm (4, 210, [(1, 0)]) (by decide)
  have m1 : M 4 211 = 1 * ρ 1 + 0 := hm (4, 211, [(1, 1)]) (by decide)
  have m2 : M 4 101 = 1 * ρ 2 + 0 := hm (4, 101, [(1, 2)]) (by decide)
  have m3 : M 3 46 = 1 * ρ 3 + 0 := hm (3, 46, [(1, 3)]) (by decide)
  have m4 : M 3 47 = 1 * ρ 4 + 0 := hm (3, 47, [(1, 4)]) (by decide)
  have m5 : M 4 100 = 1 * ρ 5 + 0 := hm (4, 100, [(1, 5)]) (by decide)
  have m6 : M 3 50 = 1 * ρ 6 + 0 := hm (3, 50, [(1, 6)]) (by decide)
  have m7 : M 3 51 = 1 * ρ 7 + 0 := hm (3, 51, [(1, 7)]) (by decide)
  have m8 : M 4 108 = 1 * ρ 8 + 0 := hm (4, 108, [(1, 8)]) (by decide)
  have m9 : M 4 212 = 1 * ρ 0 + 0 := hm (4, 212, [(1, 0)]) (by decide)
  have m10 : M 4 213 = 1 * ρ 9 + 0 := hm (4, 213, [(1, 9)]) (by decide)
  simp only [h0] at m0 m9
  obtain ⟨u1, u2, _⟩ := gx_xS8 hI (by omega)

  have hx : M 4 213 = M 92 (M 4 211).toNat := gx_xS9 hI (by omega)

  obtain ⟨t1, t2, t3, t4, t5, t6⟩ := tk_of hI (by omega) (by omega) (by omega) (show tAt (M 92) (M 4 101).toNat (M 4 211).toNat (M 4 107) (M 4 108) = (1, M 4 107, ((M 4 211).toNat : Int), ((M 4 211).toNat : Int) + 1, 5, M 4 213) from by
    unfold tAt
    rw [if_neg (by omega), if_neg (by omega), if_neg (by omega), if_neg (by omega), if_neg (by omega), if_neg (by omega)]
    have e : tSg (M 92 (M 4 211).toNat) = 1 := by
      unfold tSg
      rw [if_neg (by omega), if_neg (by omega), if_neg (by omega), if_neg (by omega), if_neg (by omega), if_neg (by omega), if_neg (by omega), if_neg (by omega), if_neg (by omega), if_neg (by omega)]
    unfold tSr
    rw [e, if_pos rfl, ← hx])
  refine ⟨ρ, fun _ _ => rfl, fun f h => ?_, ?_⟩
  · have h : f ∈ ([[(-1, 1), (1, 3)], [(1, 1), (-1, 3)], [(-1, 0), (-1, 1), (1, 4)], [(1, 0), (1, 1), (-1, 4)], [(-5, 0), (1, 6)], [(5, 0), (-1, 6)], [(1, 7), (-1, 9)], [(-1, 7), (1, 9)]] : List qF) := h
    simp only [List.mem_cons, List.not_mem_nil, or_false] at h
    rcases h with rfl | rfl | rfl | rfl | rfl | rfl | rfl | rfl
    · show 0 ≤ -1 * ρ 1 + (1 * ρ 3 + 0)
      (try rw [h0]); omega
    · show 0 ≤ 1 * ρ 1 + (-1 * ρ 3 + 0)
      (try rw [h0]); omega
    · show 0 ≤ -1 * ρ 0 + (-1 * ρ 1 + (1 * ρ 4 + 0))
      (try rw [h0]); omega
    · show 0 ≤ 1 * ρ 0 + (1 * ρ 1 + (-1 * ρ 4 + 0))
      (try rw [h0]); omega
    · show 0 ≤ -5 * ρ 0 + (1 * ρ 6 + 0)
      (try rw [h0]); omega
    · show 0 ≤ 5 * ρ 0 + (-1 * ρ 6 + 0)
      (try rw [h0]); omega
    · show 0 ≤ 1 * ρ 7 + (-1 * ρ 9 + 0)
      (try rw [h0]); omega
    · show 0 ≤ -1 * ρ 7 + (1 * ρ 9 + 0)
      (try rw [h0]); omega
  · show sI M
    exact hI
-- signNo7_c
def xr_181 : qRu := (10, [[(-1, 0), (1, 5)], [(1, 1)], [(-1, 0), (-1, 1), (1, 2)], [(-123, 0), (1, 9)], [(255, 0), (-1, 9)]], [(4, 210, [(1, 0)]), (4, 211, [(1, 1)]), (4, 101, [(1, 2)]), (3, 46, [(1, 3)]), (3, 47, [(1, 4)]), (4, 100, [(1, 5)]), (3, 44, [(1, 6)]), (3, 45, [(1, 7)]), (4, 107, [(1, 8)]), (4, 212, [(1, 0)]), (4, 213, [(1, 9)])], [], [], [[(-1, 1), (1, 3)], [(1, 1), (-1, 3)], [(-1, 0), (-1, 1), (1, 4)], [(1, 0), (1, 1), (-1, 4)], [(-1, 0), (1, 6)], [(1, 0), (-1, 6)], [(1, 7), (-1, 8)], [(-1, 7), (1, 8)]])
theorem xo_181 : qRok xr_181 := by
  intro ρ M h0 hf hm hI
  have f0 := hf [(-1, 0), (1, 5)] (by decide)
  have f1 := hf [(1, 1)] (by decide)
  have f2 := hf [(-1, 0), (-1, 1), (1, 2)] (by decide)
  have f3 := hf [(-123, 0), (1, 9)] (by decide)
  have f4 := hf [(255, 0), (-1, 9)] (by decide)
  simp only [qD, h0] at f0 f1 f2 f3 f4
  have m0 : M 4 210 = 1 * ρ 0 + 0 := hm (4, 210, [(1, 0)]) (by decide)
  have m1 : M 4 211 = 1 * ρ 1 + 0 := hm (4, 211, [(1, 1)]) (by decide)
  have m2 : M 4 101 = 1 * ρ 2 + 0 := hm (4, 101, [(1, 2)]) (by decide)
  have m3 : M 3 46 = 1 * ρ 3 + 0 := hm (3, 46, [(1, 3)]) (by decide)
  have m4 : M 3 47 = 1 * ρ 4 + 0 := hm (3, 47, [(1, 4)]) (by decide)
  have m5 : M 4 100 = 1 * ρ 5 + 0 := hm (4, 100, [(1, 5)]) (by decide)
  have m6 : M 3 44 = 1 * ρ 6 + 0 := hm (3, 44, [(1, 6)]) (by decide)
  have m7 : M 3 45 = 1 * ρ 7 + 0 := hm (3, 45, [(1, 7)]) (by decide)
  have m8 : M 4 107 = 1 * ρ 8 + 0 := hm (4, 107, [(1, 8)]) (by decide)
  have m9 : M 4 212 = 1 * ρ 0 + 0 := hm (4, 212, [(1, 0)]) (by decide)
  have m10 : M 4 213 = 1 * ρ 9 + 0 := hm (4, 213, [(1, 9)]) (by decide)
  simp only [h0] at m0 m9
  obtain ⟨u1, u2, _⟩ := gx_xS8 hI (by omega)

  have hx : M 4 213 = M 92 (M 4 211).toNat := gx_xS9 hI (by omega)

  obtain ⟨t1, t2, t3, t4, t5, t6⟩ := tk_of hI (by omega) (by omega) (by omega) (show tAt (M 92) (M 4 101).toNat (M 4 211).toNat (M 4 107) (M 4 108) = (1, M 4 107, ((M 4 211).toNat : Int), ((M 4 211).toNat : Int) + 1, 5, M 4 213) from by
    unfold tAt
    rw [if_neg (by omega), if_neg (by omega), if_neg (by omega), if_neg (by omega), if_neg (by omega), if_neg (by omega)]
    have e : tSg (M 92 (M 4 211).toNat) = 1 := by
      unfold tSg
      rw [if_neg (by omega), if_neg (by omega), if_neg (by omega), if_neg (by omega), if_neg (by omega), if_neg (by omega), if_neg (by omega), if_neg (by omega), if_neg (by omega), if_neg (by omega)]
    unfold tSr
    rw [e, if_pos rfl, ← hx])
  refine ⟨ρ, fun _ _ => rfl, fun f h => ?_, ?_⟩
  · have h : f ∈ ([[(-1, 1), (1, 3)], [(1, 1), (-1, 3)], [(-1, 0), (-1, 1), (1, 4)], [(1, 0), (1, 1), (-1, 4)], [(-1, 0), (1, 6)], [(1, 0), (-1, 6)], [(1, 7), (-1, 8)], [(-1, 7), (1, 8)]] : List qF) := h
    simp only [List.mem_cons, List.not_mem_nil, or_false] at h
    rcases h with rfl | rfl | rfl | rfl | rfl | rfl | rfl | rfl
    · show 0 ≤ -1 * ρ 1 + (1 * ρ 3 + 0)
      (try rw [h0]); omega
    · show 0 ≤ 1 * ρ 1 + (-1 * ρ 3 + 0)
      (try rw [h0]); omega
    · show 0 ≤ -1 * ρ 0 + (-1 * ρ 1 + (1 * ρ 4 + 0))
      (try rw [h0]); omega
    · show 0 ≤ 1 * ρ 0 + (1 * ρ 1 + (-1 * ρ 4 + 0))
      (try rw [h0]); omega
    · show 0 ≤ -1 * ρ 0 + (1 * ρ 6 + 0)
      (try rw [h0]); omega
    · show 0 ≤ 1 * ρ 0 + (-1 * ρ 6 + 0)
      (try rw [h0]); omega
    · show 0 ≤ 1 * ρ 7 + (-1 * ρ 8 + 0)
      (try rw [h0]); omega
    · show 0 ≤ -1 * ρ 7 + (1 * ρ 8 + 0)
      (try rw [h0]); omega
  · show sI M
    exact hI
-- signNo7_r
def xr_182 : qRu := (10, [[(-1, 0), (1, 5)], [(1, 1)], [(-1, 0), (-1, 1), (1, 2)], [(-123, 0), (1, 9)], [(255, 0), (-1, 9)]], [(4, 210, [(1, 0)]), (4, 211, [(1, 1)]), (4, 101, [(1, 2)]), (3, 46, [(1, 3)]), (3, 47, [(1, 4)]), (4, 100, [(1, 5)]), (3, 50, [(1, 6)]), (3, 51, [(1, 7)]), (4, 108, [(1, 8)]), (4, 212, [(1, 0)]), (4, 213, [(1, 9)])], [], [], [[(-1, 1), (1, 3)], [(1, 1), (-1, 3)], [(-1, 0), (-1, 1), (1, 4)], [(1, 0), (1, 1), (-1, 4)], [(-5, 0), (1, 6)], [(5, 0), (-1, 6)], [(1, 7), (-1, 9)], [(-1, 7), (1, 9)]])
theorem xo_182 : qRok xr_182 := by
  intro ρ M h0 hf hm hI
  have f0 := hf [(-1, 0), (1, 5)] (by decide)
  have f1 := hf [(1, 1)] (by decide)
  have f2 := hf [(-1, 0), (-1, 1), (1, 2)] (by decide)
  have f3 := hf [(-123, 0), (1, 9)] (by decide)
  have f4 := hf [(255, 0), (-1, 9)] (by decide)
  simp only [qD, h0] at f0 f1 f2 f3 f4
  have m0 : M 4 210 = 1 * ρ 0 + 0 := hm (4, 210, [(1, 0)]) (by decide)
  have m1 : M 4 211 = 1 * ρ 1 + 0 := hm (4, 211, [(1, 1)]) (by decide)
  have m2 : M 4 101 = 1 * ρ 2 + 0 := hm (4, 101, [(1, 2)]) (by decide)
  have m3 : M 3 46 = 1 * ρ 3 + 0 := hm (3, 46, [(1, 3)]) (by decide)
  have m4 : M 3 47 = 1 * ρ 4 + 0 := hm (3, 47, [(1, 4)]) (by decide)
  have m5 : M 4 100 = 1 * ρ 5 + 0 := hm (4, 100, [(1, 5)]) (by decide)
  have m6 : M 3 50 = 1 * ρ 6 + 0 := hm (3, 50, [(1, 6)]) (by decide)
  have m7 : M 3 51 = 1 * ρ 7 + 0 := hm (3, 51, [(1, 7)]) (by decide)
  have m8 : M 4 108 = 1 * ρ 8 + 0 := hm (4, 108, [(1, 8)]) (by decide)
  have m9 : M 4 212 = 1 * ρ 0 + 0 := hm (4, 212, [(1, 0)]) (by decide)
  have m10 : M 4 213 = 1 * ρ 9 + 0 := hm (4, 213, [(1, 9)]) (by decide)
  simp only [h0] at m0 m9
  obtain ⟨u1, u2, _⟩ := gx_xS8 hI (by omega)

  have hx : M 4 213 = M 92 (M 4 211).toNat := gx_xS9 hI (by omega)

  obtain ⟨t1, t2, t3, t4, t5, t6⟩ := tk_of hI (by omega) (by omega) (by omega) (show tAt (M 92) (M 4 101).toNat (M 4 211).toNat (M 4 107) (M 4 108) = (1, M 4 107, ((M 4 211).toNat : Int), ((M 4 211).toNat : Int) + 1, 5, M 4 213) from by
    unfold tAt
    rw [if_neg (by omega), if_neg (by omega), if_neg (by omega), if_neg (by omega), if_neg (by omega), if_neg (by omega)]
    have e : tSg (M 92 (M 4 211).toNat) = 1 := by
      unfold tSg
      rw [if_neg (by omega), if_neg (by omega), if_neg (by omega), if_neg (by omega), if_neg (by omega), if_neg (by omega), if_neg (by omega), if_neg (by omega), if_neg (by omega), if_neg (by omega)]
    unfold tSr
    rw [e, if_pos rfl, ← hx])
  refine ⟨ρ, fun _ _ => rfl, fun f h => ?_, ?_⟩
  · have h : f ∈ ([[(-1, 1), (1, 3)], [(1, 1), (-1, 3)], [(-1, 0), (-1, 1), (1, 4)], [(1, 0), (1, 1), (-1, 4)], [(-5, 0), (1, 6)], [(5, 0), (-1, 6)], [(1, 7), (-1, 9)], [(-1, 7), (1, 9)]] : List qF) := h
    simp only [List.mem_cons, List.not_mem_nil, or_false] at h
    rcases h with rfl | rfl | rfl | rfl | rfl | rfl | rfl | rfl
    · show 0 ≤ -1 * ρ 1 + (1 * ρ 3 + 0)
      (try rw [h0]); omega
    · show 0 ≤ 1 * ρ 1 + (-1 * ρ 3 + 0)
      (try rw [h0]); omega
    · show 0 ≤ -1 * ρ 0 + (-1 * ρ 1 + (1 * ρ 4 + 0))
      (try rw [h0]); omega
    · show 0 ≤ 1 * ρ 0 + (1 * ρ 1 + (-1 * ρ 4 + 0))
      (try rw [h0]); omega
    · show 0 ≤ -5 * ρ 0 + (1 * ρ 6 + 0)
      (try rw [h0]); omega
    · show 0 ≤ 5 * ρ 0 + (-1 * ρ 6 + 0)
      (try rw [h0]); omega
    · show 0 ≤ 1 * ρ 7 + (-1 * ρ 9 + 0)
      (try rw [h0]); omega
    · show 0 ≤ -1 * ρ 7 + (1 * ρ 9 + 0)
      (try rw [h0]); omega
  · show sI M
    exact hI
-- signL61_c
def xr_183 : qRu := (11, [[(-1, 0), (1, 5)], [(1, 1)], [(-2, 0), (-1, 1), (1, 2)], [(-60, 0), (1, 9)], [(60, 0), (-1, 9)], [(-61, 0), (1, 10)], [(61, 0), (-1, 10)]], [(4, 210, [(1, 0)]), (4, 211, [(1, 1)]), (4, 101, [(1, 2)]), (3, 46, [(1, 3)]), (3, 47, [(1, 4)]), (4, 100, [(1, 5)]), (3, 44, [(1, 6)]), (3, 45, [(1, 7)]), (4, 107, [(1, 8)]), (4, 212, [(1, 0)]), (4, 213, [(1, 9)]), (4, 233, [(1, 0)]), (4, 234, [(1, 10)])], [], [], [[(-1, 1), (1, 3)], [(1, 1), (-1, 3)], [(-2, 0), (-1, 1), (1, 4)], [(2, 0), (1, 1), (-1, 4)], [(-13, 0), (1, 6)], [(13, 0), (-1, 6)], [(1, 7), (-1, 8)], [(-1, 7), (1, 8)]])
theorem xo_183 : qRok xr_183 := by
  intro ρ M h0 hf hm hI
  have f0 := hf [(-1, 0), (1, 5)] (by decide)
  have f1 := hf [(1, 1)] (by decide)
  have f2 := hf [(-2, 0), (-1, 1), (1, 2)] (by decide)
  have f3 := hf [(-60, 0), (1, 9)] (by decide)
  have f4 := hf [(60, 0), (-1, 9)] (by decide)
  have f5 := hf [(-61, 0), (1, 10)] (by decide)
  have f6 := hf [(61, 0), (-1, 10)] (by decide)
  simp only [qD, h0] at f0 f1 f2 f3 f4 f5 f6
  have m0 : M 4 210 = 1 * ρ 0 + 0 := hm (4, 210, [(1, 0)]) (by decide)
  have m1 : M 4 211 = 1 * ρ 1 + 0 := hm (4, 211, [(1, 1)]) (by decide)
  have m2 : M 4 101 = 1 * ρ 2 + 0 := hm (4, 101, [(1, 2)]) (by decide)
  have m3 : M 3 46 = 1 * ρ 3 + 0 := hm (3, 46, [(1, 3)]) (by decide)
  have m4 : M 3 47 = 1 * ρ 4 + 0 := hm (3, 47, [(1, 4)]) (by decide)
  have m5 : M 4 100 = 1 * ρ 5 + 0 := hm (4, 100, [(1, 5)]) (by decide)
  have m6 : M 3 44 = 1 * ρ 6 + 0 := hm (3, 44, [(1, 6)]) (by decide)
  have m7 : M 3 45 = 1 * ρ 7 + 0 := hm (3, 45, [(1, 7)]) (by decide)
  have m8 : M 4 107 = 1 * ρ 8 + 0 := hm (4, 107, [(1, 8)]) (by decide)
  have m9 : M 4 212 = 1 * ρ 0 + 0 := hm (4, 212, [(1, 0)]) (by decide)
  have m10 : M 4 213 = 1 * ρ 9 + 0 := hm (4, 213, [(1, 9)]) (by decide)
  have m11 : M 4 233 = 1 * ρ 0 + 0 := hm (4, 233, [(1, 0)]) (by decide)
  have m12 : M 4 234 = 1 * ρ 10 + 0 := hm (4, 234, [(1, 10)]) (by decide)
  simp only [h0] at m0 m9 m11
  obtain ⟨u1, u2, _⟩ := gx_xS8 hI (by omega)

  have hx : M 4 213 = M 92 (M 4 211).toNat := gx_xS9 hI (by omega)

  have hy : M 4 234 = M 92 ((M 4 211).toNat + 1) := gx_xSF hI (by omega)

  obtain ⟨t1, t2, t3, t4, t5, t6⟩ := tk_of hI (by omega) (by omega) (by omega) (show tAt (M 92) (M 4 101).toNat (M 4 211).toNat (M 4 107) (M 4 108) = (13, M 4 107, ((M 4 211).toNat : Int), ((M 4 211).toNat : Int) + 2, 3, 256) from by
    unfold tAt
    rw [if_neg (by omega), if_neg (by omega), if_neg (by omega), if_pos (by omega)])
  refine ⟨ρ, fun _ _ => rfl, fun f h => ?_, ?_⟩
  · have h : f ∈ ([[(-1, 1), (1, 3)], [(1, 1), (-1, 3)], [(-2, 0), (-1, 1), (1, 4)], [(2, 0), (1, 1), (-1, 4)], [(-13, 0), (1, 6)], [(13, 0), (-1, 6)], [(1, 7), (-1, 8)], [(-1, 7), (1, 8)]] : List qF) := h
    simp only [List.mem_cons, List.not_mem_nil, or_false] at h
    rcases h with rfl | rfl | rfl | rfl | rfl | rfl | rfl | rfl
    · show 0 ≤ -1 * ρ 1 + (1 * ρ 3 + 0)
      (try rw [h0]); omega
    · show 0 ≤ 1 * ρ 1 + (-1 * ρ 3 + 0)
      (try rw [h0]); omega
    · show 0 ≤ -2 * ρ 0 + (-1 * ρ 1 + (1 * ρ 4 + 0))
      (try rw [h0]); omega
    · show 0 ≤ 2 * ρ 0 + (1 * ρ 1 + (-1 * ρ 4 + 0))
      (try rw [h0]); omega
    · show 0 ≤ -13 * ρ 0 + (1 * ρ 6 + 0)
      (try rw [h0]); omega
    · show 0 ≤ 13 * ρ 0 + (-1 * ρ 6 + 0)
      (try rw [h0]); omega
    · show 0 ≤ 1 * ρ 7 + (-1 * ρ 8 + 0)
      (try rw [h0]); omega
    · show 0 ≤ -1 * ρ 7 + (1 * ρ 8 + 0)
      (try rw [h0]); omega
  · show sI M
    exact hI
-- signL61_r
def xr_184 : qRu := (11, [[(-1, 0), (1, 5)], [(1, 1)], [(-2, 0), (-1, 1), (1, 2)], [(-60, 0), (1, 9)], [(60, 0), (-1, 9)], [(-61, 0), (1, 10)], [(61, 0), (-1, 10)]], [(4, 210, [(1, 0)]), (4, 211, [(1, 1)]), (4, 101, [(1, 2)]), (3, 46, [(1, 3)]), (3, 47, [(1, 4)]), (4, 100, [(1, 5)]), (3, 50, [(1, 6)]), (3, 51, [(1, 7)]), (4, 108, [(1, 8)]), (4, 212, [(1, 0)]), (4, 213, [(1, 9)]), (4, 233, [(1, 0)]), (4, 234, [(1, 10)])], [], [], [[(-1, 1), (1, 3)], [(1, 1), (-1, 3)], [(-2, 0), (-1, 1), (1, 4)], [(2, 0), (1, 1), (-1, 4)], [(-3, 0), (1, 6)], [(3, 0), (-1, 6)], [(-256, 0), (1, 7)], [(256, 0), (-1, 7)]])
theorem xo_184 : qRok xr_184 := by
  intro ρ M h0 hf hm hI
  have f0 := hf [(-1, 0), (1, 5)] (by decide)
  have f1 := hf [(1, 1)] (by decide)
  have f2 := hf [(-2, 0), (-1, 1), (1, 2)] (by decide)
  have f3 := hf [(-60, 0), (1, 9)] (by decide)
  have f4 := hf [(60, 0), (-1, 9)] (by decide)
  have f5 := hf [(-61, 0), (1, 10)] (by decide)
  have f6 := hf [(61, 0), (-1, 10)] (by decide)
  simp only [qD, h0] at f0 f1 f2 f3 f4 f5 f6
  have m0 : M 4 210 = 1 * ρ 0 + 0 := hm (4, 210, [(1, 0)]) (by decide)
  have m1 : M 4 211 = 1 * ρ 1 + 0 := hm (4, 211, [(1, 1)]) (by decide)
  have m2 : M 4 101 = 1 * ρ 2 + 0 := hm (4, 101, [(1, 2)]) (by decide)
  have m3 : M 3 46 = 1 * ρ 3 + 0 := hm (3, 46, [(1, 3)]) (by decide)
  have m4 : M 3 47 = 1 * ρ 4 + 0 := hm (3, 47, [(1, 4)]) (by decide)
  have m5 : M 4 100 = 1 * ρ 5 + 0 := hm (4, 100, [(1, 5)]) (by decide)
  have m6 : M 3 50 = 1 * ρ 6 + 0 := hm (3, 50, [(1, 6)]) (by decide)
  have m7 : M 3 51 = 1 * ρ 7 + 0 := hm (3, 51, [(1, 7)]) (by decide)
  have m8 : M 4 108 = 1 * ρ 8 + 0 := hm (4, 108, [(1, 8)]) (by decide)
  have m9 : M 4 212 = 1 * ρ 0 + 0 := hm (4, 212, [(1, 0)]) (by decide)
  have m10 : M 4 213 = 1 * ρ 9 + 0 := hm (4, 213, [(1, 9)]) (by decide)
  have m11 : M 4 233 = 1 * ρ 0 + 0 := hm (4, 233, [(1, 0)]) (by decide)
  have m12 : M 4 234 = 1 * ρ 10 + 0 := hm (4, 234, [(1, 10)]) (by decide)
  simp only [h0] at m0 m9 m11
  obtain ⟨u1, u2, _⟩ := gx_xS8 hI (by omega)

  have hx : M 4 213 = M 92 (M 4 211).toNat := gx_xS9 hI (by omega)

  have hy : M 4 234 = M 92 ((M 4 211).toNat + 1) := gx_xSF hI (by omega)

  obtain ⟨t1, t2, t3, t4, t5, t6⟩ := tk_of hI (by omega) (by omega) (by omega) (show tAt (M 92) (M 4 101).toNat (M 4 211).toNat (M 4 107) (M 4 108) = (13, M 4 107, ((M 4 211).toNat : Int), ((M 4 211).toNat : Int) + 2, 3, 256) from by
    unfold tAt
    rw [if_neg (by omega), if_neg (by omega), if_neg (by omega), if_pos (by omega)])
  refine ⟨ρ, fun _ _ => rfl, fun f h => ?_, ?_⟩
  · have h : f ∈ ([[(-1, 1), (1, 3)], [(1, 1), (-1, 3)], [(-2, 0), (-1, 1), (1, 4)], [(2, 0), (1, 1), (-1, 4)], [(-3, 0), (1, 6)], [(3, 0), (-1, 6)], [(-256, 0), (1, 7)], [(256, 0), (-1, 7)]] : List qF) := h
    simp only [List.mem_cons, List.not_mem_nil, or_false] at h
    rcases h with rfl | rfl | rfl | rfl | rfl | rfl | rfl | rfl
    · show 0 ≤ -1 * ρ 1 + (1 * ρ 3 + 0)
      (try rw [h0]); omega
    · show 0 ≤ 1 * ρ 1 + (-1 * ρ 3 + 0)
      (try rw [h0]); omega
    · show 0 ≤ -2 * ρ 0 + (-1 * ρ 1 + (1 * ρ 4 + 0))
      (try rw [h0]); omega
    · show 0 ≤ 2 * ρ 0 + (1 * ρ 1 + (-1 * ρ 4 + 0))
      (try rw [h0]); omega
    · show 0 ≤ -3 * ρ 0 + (1 * ρ 6 + 0)
      (try rw [h0]); omega
    · show 0 ≤ 3 * ρ 0 + (-1 * ρ 6 + 0)
      (try rw [h0]); omega
    · show 0 ≤ -256 * ρ 0 + (1 * ρ 7 + 0)
      (try rw [h0]); omega
    · show 0 ≤ 256 * ρ 0 + (-1 * ρ 7 + 0)
      (try rw [h0]); omega
  · show sI M
    exact hI
-- signL62_c
def xr_185 : qRu := (11, [[(-1, 0), (1, 5)], [(1, 1)], [(-2, 0), (-1, 1), (1, 2)], [(-60, 0), (1, 9)], [(60, 0), (-1, 9)], [(-62, 0), (1, 10)], [(62, 0), (-1, 10)]], [(4, 210, [(1, 0)]), (4, 211, [(1, 1)]), (4, 101, [(1, 2)]), (3, 46, [(1, 3)]), (3, 47, [(1, 4)]), (4, 100, [(1, 5)]), (3, 44, [(1, 6)]), (3, 45, [(1, 7)]), (4, 107, [(1, 8)]), (4, 212, [(1, 0)]), (4, 213, [(1, 9)]), (4, 233, [(1, 0)]), (4, 234, [(1, 10)])], [], [], [[(-1, 1), (1, 3)], [(1, 1), (-1, 3)], [(-2, 0), (-1, 1), (1, 4)], [(2, 0), (1, 1), (-1, 4)], [(-15, 0), (1, 6)], [(15, 0), (-1, 6)], [(1, 7), (-1, 8)], [(-1, 7), (1, 8)]])
theorem xo_185 : qRok xr_185 := by
  intro ρ M h0 hf hm hI
  have f0 := hf [(-1, 0), (1, 5)] (by decide)
  have f1 := hf [(1, 1)] (by decide)
  have f2 := hf [(-2, 0), (-1, 1), (1, 2)] (by decide)
  have f3 := hf [(-60, 0), (1, 9)] (by decide)
  have f4 := hf [(60, 0), (-1, 9)] (by decide)
  have f5 := hf [(-62, 0), (1, 10)] (by decide)
  have f6 := hf [(62, 0), (-1, 10)] (by decide)
  simp only [qD, h0] at f0 f1 f2 f3 f4 f5 f6
  have m0 : M 4 210 = 1 * ρ 0 + 0 := hm (4, 210, [(1, 0)]) (by decide)
  have m1 : M 4 211 = 1 * ρ 1 + 0 := hm (4, 211, [(1, 1)]) (by decide)
  have m2 : M 4 101 = 1 * ρ 2 + 0 := hm (4, 101, [(1, 2)]) (by decide)
  have m3 : M 3 46 = 1 * ρ 3 + 0 := hm (3, 46, [(1, 3)]) (by decide)
  have m4 : M 3 47 = 1 * ρ 4 + 0 := hm (3, 47, [(1, 4)]) (by decide)
  have m5 : M 4 100 = 1 * ρ 5 + 0 := hm (4, 100, [(1, 5)]) (by decide)
  have m6 : M 3 44 = 1 * ρ 6 + 0 := hm (3, 44, [(1, 6)]) (by decide)
  have m7 : M 3 45 = 1 * ρ 7 + 0 := hm (3, 45, [(1, 7)]) (by decide)
  have m8 : M 4 107 = 1 * ρ 8 + 0 := hm (4, 107, [(1, 8)]) (by decide)
  have m9 : M 4 212 = 1 * ρ 0 + 0 := hm (4, 212, [(1, 0)]) (by decide)
  have m10 : M 4 213 = 1 * ρ 9 + 0 := hm (4, 213, [(1, 9)]) (by decide)
  have m11 : M 4 233 = 1 * ρ 0 + 0 := hm (4, 233, [(1, 0)]) (by decide)
  have m12 : M 4 234 = 1 * ρ 10 + 0 := hm (4, 234, [(1, 10)]) (by decide)
  simp only [h0] at m0 m9 m11
  obtain ⟨u1, u2, _⟩ := gx_xS8 hI (by omega)

  have hx : M 4 213 = M 92 (M 4 211).toNat := gx_xS9 hI (by omega)

  have hy : M 4 234 = M 92 ((M 4 211).toNat + 1) := gx_xSF hI (by omega)

  obtain ⟨t1, t2, t3, t4, t5, t6⟩ := tk_of hI (by omega) (by omega) (by omega) (show tAt (M 92) (M 4 101).toNat (M 4 211).toNat (M 4 107) (M 4 108) = (15, M 4 107, ((M 4 211).toNat : Int), ((M 4 211).toNat : Int) + 2, 3, 257) from by
    unfold tAt
    rw [if_neg (by omega), if_neg (by omega), if_neg (by omega), if_neg (by omega), if_pos (by omega)])
  refine ⟨ρ, fun _ _ => rfl, fun f h => ?_, ?_⟩
  · have h : f ∈ ([[(-1, 1), (1, 3)], [(1, 1), (-1, 3)], [(-2, 0), (-1, 1), (1, 4)], [(2, 0), (1, 1), (-1, 4)], [(-15, 0), (1, 6)], [(15, 0), (-1, 6)], [(1, 7), (-1, 8)], [(-1, 7), (1, 8)]] : List qF) := h
    simp only [List.mem_cons, List.not_mem_nil, or_false] at h
    rcases h with rfl | rfl | rfl | rfl | rfl | rfl | rfl | rfl
    · show 0 ≤ -1 * ρ 1 + (1 * ρ 3 + 0)
      (try rw [h0]); omega
    · show 0 ≤ 1 * ρ 1 + (-1 * ρ 3 + 0)
      (try rw [h0]); omega
    · show 0 ≤ -2 * ρ 0 + (-1 * ρ 1 + (1 * ρ 4 + 0))
      (try rw [h0]); omega
    · show 0 ≤ 2 * ρ 0 + (1 * ρ 1 + (-1 * ρ 4 + 0))
      (try rw [h0]); omega
    · show 0 ≤ -15 * ρ 0 + (1 * ρ 6 + 0)
      (try rw [h0]); omega
    · show 0 ≤ 15 * ρ 0 + (-1 * ρ 6 + 0)
      (try rw [h0]); omega
    · show 0 ≤ 1 * ρ 7 + (-1 * ρ 8 + 0)
      (try rw [h0]); omega
    · show 0 ≤ -1 * ρ 7 + (1 * ρ 8 + 0)
      (try rw [h0]); omega
  · show sI M
    exact hI
-- signL62_r
def xr_186 : qRu := (11, [[(-1, 0), (1, 5)], [(1, 1)], [(-2, 0), (-1, 1), (1, 2)], [(-60, 0), (1, 9)], [(60, 0), (-1, 9)], [(-62, 0), (1, 10)], [(62, 0), (-1, 10)]], [(4, 210, [(1, 0)]), (4, 211, [(1, 1)]), (4, 101, [(1, 2)]), (3, 46, [(1, 3)]), (3, 47, [(1, 4)]), (4, 100, [(1, 5)]), (3, 50, [(1, 6)]), (3, 51, [(1, 7)]), (4, 108, [(1, 8)]), (4, 212, [(1, 0)]), (4, 213, [(1, 9)]), (4, 233, [(1, 0)]), (4, 234, [(1, 10)])], [], [], [[(-1, 1), (1, 3)], [(1, 1), (-1, 3)], [(-2, 0), (-1, 1), (1, 4)], [(2, 0), (1, 1), (-1, 4)], [(-3, 0), (1, 6)], [(3, 0), (-1, 6)], [(-257, 0), (1, 7)], [(257, 0), (-1, 7)]])
theorem xo_186 : qRok xr_186 := by
  intro ρ M h0 hf hm hI
  have f0 := hf [(-1, 0), (1, 5)] (by decide)
  have f1 := hf [(1, 1)] (by decide)
  have f2 := hf [(-2, 0), (-1, 1), (1, 2)] (by decide)
  have f3 := hf [(-60, 0), (1, 9)] (by decide)
  have f4 := hf [(60, 0), (-1, 9)] (by decide)
  have f5 := hf [(-62, 0), (1, 10)] (by decide)
  have f6 := hf [(62, 0), (-1, 10)] (by decide)
  simp only [qD, h0] at f0 f1 f2 f3 f4 f5 f6
  have m0 : M 4 210 = 1 * ρ 0 + 0 := hm (4, 210, [(1, 0)]) (by decide)
  have m1 : M 4 211 = 1 * ρ 1 + 0 := hm (4, 211, [(1, 1)]) (by decide)
  have m2 : M 4 101 = 1 * ρ 2 + 0 := hm (4, 101, [(1, 2)]) (by decide)
  have m3 : M 3 46 = 1 * ρ 3 + 0 := hm (3, 46, [(1, 3)]) (by decide)
  have m4 : M 3 47 = 1 * ρ 4 + 0 := hm (3, 47, [(1, 4)]) (by decide)
  have m5 : M 4 100 = 1 * ρ 5 + 0 := hm (4, 100, [(1, 5)]) (by decide)
  have m6 : M 3 50 = 1 * ρ 6 + 0 := hm (3, 50, [(1, 6)]) (by decide)
  have m7 : M 3 51 = 1 * ρ 7 + 0 := hm (3, 51, [(1, 7)]) (by decide)
  have m8 : M 4 108 = 1 * ρ 8 + 0 := hm (4, 108, [(1, 8)]) (by decide)
  have m9 : M 4 212 = 1 * ρ 0 + 0 := hm (4, 212, [(1, 0)]) (by decide)
  have m10 : M 4 213 = 1 * ρ 9 + 0 := hm (4, 213, [(1, 9)]) (by decide)
  have m11 : M 4 233 = 1 * ρ 0 + 0 := hm (4, 233, [(1, 0)]) (by decide)
  have m12 : M 4 234 = 1 * ρ 10 + 0 := hm (4, 234, [(1, 10)]) (by decide)
  simp only [h0] at m0 m9 m11
  obtain ⟨u1, u2, _⟩ := gx_xS8 hI (by omega)

  have hx : M 4 213 = M 92 (M 4 211).toNat := gx_xS9 hI (by omega)

  have hy : M 4 234 = M 92 ((M 4 211).toNat + 1) := gx_xSF hI (by omega)

  obtain ⟨t1, t2, t3, t4, t5, t6⟩ := tk_of hI (by omega) (by omega) (by omega) (show tAt (M 92) (M 4 101).toNat (M 4 211).toNat (M 4 107) (M 4 108) = (15, M 4 107, ((M 4 211).toNat : Int), ((M 4 211).toNat : Int) + 2, 3, 257) from by
    unfold tAt
    rw [if_neg (by omega), if_neg (by omega), if_neg (by omega), if_neg (by omega), if_pos (by omega)])
  refine ⟨ρ, fun _ _ => rfl, fun f h => ?_, ?_⟩
  · have h : f ∈ ([[(-1, 1), (1, 3)], [(1, 1), (-1, 3)], [(-2, 0), (-1, 1), (1, 4)], [(2, 0), (1, 1), (-1, 4)], [(-3, 0), (1, 6)], [(3, 0), (-1, 6)], [(-257, 0), (1, 7)], [(257, 0), (-1, 7)]] : List qF) := h
    simp only [List.mem_cons, List.not_mem_nil, or_false] at h
    rcases h with rfl | rfl | rfl | rfl | rfl | rfl | rfl | rfl
    · show 0 ≤ -1 * ρ 1 + (1 * ρ 3 + 0)
      (try rw [h0]); omega
    · show 0 ≤ 1 * ρ 1 + (-1 * ρ 3 + 0)
      (try rw [h0]); omega
    · show 0 ≤ -2 * ρ 0 + (-1 * ρ 1 + (1 * ρ 4 + 0))
      (try rw [h0]); omega
    · show 0 ≤ 2 * ρ 0 + (1 * ρ 1 + (-1 * ρ 4 + 0))
      (try rw [h0]); omega
    · show 0 ≤ -3 * ρ 0 + (1 * ρ 6 + 0)
      (try rw [h0]); omega
    · show 0 ≤ 3 * ρ 0 + (-1 * ρ 6 + 0)
      (try rw [h0]); omega
    · show 0 ≤ -257 * ρ 0 + (1 * ρ 7 + 0)
      (try rw [h0]); omega
    · show 0 ≤ 257 * ρ 0 + (-1 * ρ 7 + 0)
      (try rw [h0]); omega
  · show sI M
    exact hI
-- signLlo_c
def xr_187 : qRu := (11, [[(-1, 0), (1, 5)], [(1, 1)], [(-2, 0), (-1, 1), (1, 2)], [(-60, 0), (1, 9)], [(60, 0), (-1, 9)], [(60, 0), (-1, 10)]], [(4, 210, [(1, 0)]), (4, 211, [(1, 1)]), (4, 101, [(1, 2)]), (3, 46, [(1, 3)]), (3, 47, [(1, 4)]), (4, 100, [(1, 5)]), (3, 44, [(1, 6)]), (3, 45, [(1, 7)]), (4, 107, [(1, 8)]), (4, 212, [(1, 0)]), (4, 213, [(1, 9)]), (4, 233, [(1, 0)]), (4, 234, [(1, 10)])], [], [], [[(-1, 1), (1, 3)], [(1, 1), (-1, 3)], [(-1, 0), (-1, 1), (1, 4)], [(1, 0), (1, 1), (-1, 4)], [(-12, 0), (1, 6)], [(12, 0), (-1, 6)], [(1, 7), (-1, 8)], [(-1, 7), (1, 8)]])
theorem xo_187 : qRok xr_187 := by
  intro ρ M h0 hf hm hI
  have f0 := hf [(-1, 0), (1, 5)] (by decide)
  have f1 := hf [(1, 1)] (by decide)
  have f2 := hf [(-2, 0), (-1, 1), (1, 2)] (by decide)
  have f3 := hf [(-60, 0), (1, 9)] (by decide)
  have f4 := hf [(60, 0), (-1, 9)] (by decide)
  have f5 := hf [(60, 0), (-1, 10)] (by decide)
  simp only [qD, h0] at f0 f1 f2 f3 f4 f5
  have m0 : M 4 210 = 1 * ρ 0 + 0 := hm (4, 210, [(1, 0)]) (by decide)
  have m1 : M 4 211 = 1 * ρ 1 + 0 := hm (4, 211, [(1, 1)]) (by decide)
  have m2 : M 4 101 = 1 * ρ 2 + 0 := hm (4, 101, [(1, 2)]) (by decide)
  have m3 : M 3 46 = 1 * ρ 3 + 0 := hm (3, 46, [(1, 3)]) (by decide)
  have m4 : M 3 47 = 1 * ρ 4 + 0 := hm (3, 47, [(1, 4)]) (by decide)
  have m5 : M 4 100 = 1 * ρ 5 + 0 := hm (4, 100, [(1, 5)]) (by decide)
  have m6 : M 3 44 = 1 * ρ 6 + 0 := hm (3, 44, [(1, 6)]) (by decide)
  have m7 : M 3 45 = 1 * ρ 7 + 0 := hm (3, 45, [(1, 7)]) (by decide)
  have m8 : M 4 107 = 1 * ρ 8 + 0 := hm (4, 107, [(1, 8)]) (by decide)
  have m9 : M 4 212 = 1 * ρ 0 + 0 := hm (4, 212, [(1, 0)]) (by decide)
  have m10 : M 4 213 = 1 * ρ 9 + 0 := hm (4, 213, [(1, 9)]) (by decide)
  have m11 : M 4 233 = 1 * ρ 0 + 0 := hm (4, 233, [(1, 0)]) (by decide)
  have m12 : M 4 234 = 1 * ρ 10 + 0 := hm (4, 234, [(1, 10)]) (by decide)
  simp only [h0] at m0 m9 m11
  obtain ⟨u1, u2, _⟩ := gx_xS8 hI (by omega)

  have hx : M 4 213 = M 92 (M 4 211).toNat := gx_xS9 hI (by omega)

  have hy : M 4 234 = M 92 ((M 4 211).toNat + 1) := gx_xSF hI (by omega)

  obtain ⟨t1, t2, t3, t4, t5, t6⟩ := tk_of hI (by omega) (by omega) (by omega) (show tAt (M 92) (M 4 101).toNat (M 4 211).toNat (M 4 107) (M 4 108) = (12, M 4 107, ((M 4 211).toNat : Int), ((M 4 211).toNat : Int) + 1, 3, 60) from by
    unfold tAt
    rw [if_neg (by omega), if_neg (by omega), if_neg (by omega), if_neg (by omega), if_neg (by omega), if_neg (by omega)]
    rw [show M 92 (M 4 211).toNat = 60 by omega]
    rfl)
  refine ⟨ρ, fun _ _ => rfl, fun f h => ?_, ?_⟩
  · have h : f ∈ ([[(-1, 1), (1, 3)], [(1, 1), (-1, 3)], [(-1, 0), (-1, 1), (1, 4)], [(1, 0), (1, 1), (-1, 4)], [(-12, 0), (1, 6)], [(12, 0), (-1, 6)], [(1, 7), (-1, 8)], [(-1, 7), (1, 8)]] : List qF) := h
    simp only [List.mem_cons, List.not_mem_nil, or_false] at h
    rcases h with rfl | rfl | rfl | rfl | rfl | rfl | rfl | rfl
    · show 0 ≤ -1 * ρ 1 + (1 * ρ 3 + 0)
      (try rw [h0]); omega
    · show 0 ≤ 1 * ρ 1 + (-1 * ρ 3 + 0)
      (try rw [h0]); omega
    · show 0 ≤ -1 * ρ 0 + (-1 * ρ 1 + (1 * ρ 4 + 0))
      (try rw [h0]); omega
    · show 0 ≤ 1 * ρ 0 + (1 * ρ 1 + (-1 * ρ 4 + 0))
      (try rw [h0]); omega
    · show 0 ≤ -12 * ρ 0 + (1 * ρ 6 + 0)
      (try rw [h0]); omega
    · show 0 ≤ 12 * ρ 0 + (-1 * ρ 6 + 0)
      (try rw [h0]); omega
    · show 0 ≤ 1 * ρ 7 + (-1 * ρ 8 + 0)
      (try rw [h0]); omega
    · show 0 ≤ -1 * ρ 7 + (1 * ρ 8 + 0)
      (try rw [h0]); omega
  · show sI M
    exact hI
-- signLlo_r
def xr_188 : qRu := (11, [[(-1, 0), (1, 5)], [(1, 1)], [(-2, 0), (-1, 1), (1, 2)], [(-60, 0), (1, 9)], [(60, 0), (-1, 9)], [(60, 0), (-1, 10)]], [(4, 210, [(1, 0)]), (4, 211, [(1, 1)]), (4, 101, [(1, 2)]), (3, 46, [(1, 3)]), (3, 47, [(1, 4)]), (4, 100, [(1, 5)]), (3, 50, [(1, 6)]), (3, 51, [(1, 7)]), (4, 108, [(1, 8)]), (4, 212, [(1, 0)]), (4, 213, [(1, 9)]), (4, 233, [(1, 0)]), (4, 234, [(1, 10)])], [], [], [[(-1, 1), (1, 3)], [(1, 1), (-1, 3)], [(-1, 0), (-1, 1), (1, 4)], [(1, 0), (1, 1), (-1, 4)], [(-3, 0), (1, 6)], [(3, 0), (-1, 6)], [(-60, 0), (1, 7)], [(60, 0), (-1, 7)]])
theorem xo_188 : qRok xr_188 := by
  intro ρ M h0 hf hm hI
  have f0 := hf [(-1, 0), (1, 5)] (by decide)
  have f1 := hf [(1, 1)] (by decide)
  have f2 := hf [(-2, 0), (-1, 1), (1, 2)] (by decide)
  have f3 := hf [(-60, 0), (1, 9)] (by decide)
  have f4 := hf [(60, 0), (-1, 9)] (by decide)
  have f5 := hf [(60, 0), (-1, 10)] (by decide)
  simp only [qD, h0] at f0 f1 f2 f3 f4 f5
  have m0 : M 4 210 = 1 * ρ 0 + 0 := hm (4, 210, [(1, 0)]) (by decide)
  have m1 : M 4 211 = 1 * ρ 1 + 0 := hm (4, 211, [(1, 1)]) (by decide)
  have m2 : M 4 101 = 1 * ρ 2 + 0 := hm (4, 101, [(1, 2)]) (by decide)
  have m3 : M 3 46 = 1 * ρ 3 + 0 := hm (3, 46, [(1, 3)]) (by decide)
  have m4 : M 3 47 = 1 * ρ 4 + 0 := hm (3, 47, [(1, 4)]) (by decide)
  have m5 : M 4 100 = 1 * ρ 5 + 0 := hm (4, 100, [(1, 5)]) (by decide)
  have m6 : M 3 50 = 1 * ρ 6 + 0 := hm (3, 50, [(1, 6)]) (by decide)
  have m7 : M 3 51 = 1 * ρ 7 + 0 := hm (3, 51, [(1, 7)]) (by decide)
  have m8 : M 4 108 = 1 * ρ 8 + 0 := hm (4, 108, [(1, 8)]) (by decide)
  have m9 : M 4 212 = 1 * ρ 0 + 0 := hm (4, 212, [(1, 0)]) (by decide)
  have m10 : M 4 213 = 1 * ρ 9 + 0 := hm (4, 213, [(1, 9)]) (by decide)
  have m11 : M 4 233 = 1 * ρ 0 + 0 := hm (4, 233, [(1, 0)]) (by decide)
  have m12 : M 4 234 = 1 * ρ 10 + 0 := hm (4, 234, [(1, 10)]) (by decide)
  simp only [h0] at m0 m9 m11
  obtain ⟨u1, u2, _⟩ := gx_xS8 hI (by omega)

  have hx : M 4 213 = M 92 (M 4 211).toNat := gx_xS9 hI (by omega)

  have hy : M 4 234 = M 92 ((M 4 211).toNat + 1) := gx_xSF hI (by omega)

  obtain ⟨t1, t2, t3, t4, t5, t6⟩ := tk_of hI (by omega) (by omega) (by omega) (show tAt (M 92) (M 4 101).toNat (M 4 211).toNat (M 4 107) (M 4 108) = (12, M 4 107, ((M 4 211).toNat : Int), ((M 4 211).toNat : Int) + 1, 3, 60) from by
    unfold tAt
    rw [if_neg (by omega), if_neg (by omega), if_neg (by omega), if_neg (by omega), if_neg (by omega), if_neg (by omega)]
    rw [show M 92 (M 4 211).toNat = 60 by omega]
    rfl)
  refine ⟨ρ, fun _ _ => rfl, fun f h => ?_, ?_⟩
  · have h : f ∈ ([[(-1, 1), (1, 3)], [(1, 1), (-1, 3)], [(-1, 0), (-1, 1), (1, 4)], [(1, 0), (1, 1), (-1, 4)], [(-3, 0), (1, 6)], [(3, 0), (-1, 6)], [(-60, 0), (1, 7)], [(60, 0), (-1, 7)]] : List qF) := h
    simp only [List.mem_cons, List.not_mem_nil, or_false] at h
    rcases h with rfl | rfl | rfl | rfl | rfl | rfl | rfl | rfl
    · show 0 ≤ -1 * ρ 1 + (1 * ρ 3 + 0)
      (try rw [h0]); omega
    · show 0 ≤ 1 * ρ 1 + (-1 * ρ 3 + 0)
      (try rw [h0]); omega
    · show 0 ≤ -1 * ρ 0 + (-1 * ρ 1 + (1 * ρ 4 + 0))
      (try rw [h0]); omega
    · show 0 ≤ 1 * ρ 0 + (1 * ρ 1 + (-1 * ρ 4 + 0))
      (try rw [h0]); omega
    · show 0 ≤ -3 * ρ 0 + (1 * ρ 6 + 0)
      (try rw [h0]); omega
    · show 0 ≤ 3 * ρ 0 + (-1 * ρ 6 + 0)
      (try rw [h0]); omega
    · show 0 ≤ -60 * ρ 0 + (1 * ρ 7 + 0)
      (try rw [h0]); omega
    · show 0 ≤ 60 * ρ 0 + (-1 * ρ 7 + 0)
      (try rw [h0]); omega
  · show sI M
    exact hI
-- signLhi_c
def xr_189 : qRu := (11, [[(-1, 0), (1, 5)], [(1, 1)], [(-2, 0), (-1, 1), (1, 2)], [(-60, 0), (1, 9)], [(60, 0), (-1, 9)], [(-63, 0), (1, 10)]], [(4, 210, [(1, 0)]), (4, 211, [(1, 1)]), (4, 101, [(1, 2)]), (3, 46, [(1, 3)]), (3, 47, [(1, 4)]), (4, 100, [(1, 5)]), (3, 44, [(1, 6)]), (3, 45, [(1, 7)]), (4, 107, [(1, 8)]), (4, 212, [(1, 0)]), (4, 213, [(1, 9)]), (4, 233, [(1, 0)]), (4, 234, [(1, 10)])], [], [], [[(-1, 1), (1, 3)], [(1, 1), (-1, 3)], [(-1, 0), (-1, 1), (1, 4)], [(1, 0), (1, 1), (-1, 4)], [(-12, 0), (1, 6)], [(12, 0), (-1, 6)], [(1, 7), (-1, 8)], [(-1, 7), (1, 8)]])
theorem xo_189 : qRok xr_189 := by
  intro ρ M h0 hf hm hI
  have f0 := hf [(-1, 0), (1, 5)] (by decide)
  have f1 := hf [(1, 1)] (by decide)
  have f2 := hf [(-2, 0), (-1, 1), (1, 2)] (by decide)
  have f3 := hf [(-60, 0), (1, 9)] (by decide)
  have f4 := hf [(60, 0), (-1, 9)] (by decide)
  have f5 := hf [(-63, 0), (1, 10)] (by decide)
  simp only [qD, h0] at f0 f1 f2 f3 f4 f5
  have m0 : M 4 210 = 1 * ρ 0 + 0 := hm (4, 210, [(1, 0)]) (by decide)
  have m1 : M 4 211 = 1 * ρ 1 + 0 := hm (4, 211, [(1, 1)]) (by decide)
  have m2 : M 4 101 = 1 * ρ 2 + 0 := hm (4, 101, [(1, 2)]) (by decide)
  have m3 : M 3 46 = 1 * ρ 3 + 0 := hm (3, 46, [(1, 3)]) (by decide)
  have m4 : M 3 47 = 1 * ρ 4 + 0 := hm (3, 47, [(1, 4)]) (by decide)
  have m5 : M 4 100 = 1 * ρ 5 + 0 := hm (4, 100, [(1, 5)]) (by decide)
  have m6 : M 3 44 = 1 * ρ 6 + 0 := hm (3, 44, [(1, 6)]) (by decide)
  have m7 : M 3 45 = 1 * ρ 7 + 0 := hm (3, 45, [(1, 7)]) (by decide)
  have m8 : M 4 107 = 1 * ρ 8 + 0 := hm (4, 107, [(1, 8)]) (by decide)
  have m9 : M 4 212 = 1 * ρ 0 + 0 := hm (4, 212, [(1, 0)]) (by decide)
  have m10 : M 4 213 = 1 * ρ 9 + 0 := hm (4, 213, [(1, 9)]) (by decide)
  have m11 : M 4 233 = 1 * ρ 0 + 0 := hm (4, 233, [(1, 0)]) (by decide)
  have m12 : M 4 234 = 1 * ρ 10 + 0 := hm (4, 234, [(1, 10)]) (by decide)
  simp only [h0] at m0 m9 m11
  obtain ⟨u1, u2, _⟩ := gx_xS8 hI (by omega)

  have hx : M 4 213 = M 92 (M 4 211).toNat := gx_xS9 hI (by omega)

  have hy : M 4 234 = M 92 ((M 4 211).toNat + 1) := gx_xSF hI (by omega)

  obtain ⟨t1, t2, t3, t4, t5, t6⟩ := tk_of hI (by omega) (by omega) (by omega) (show tAt (M 92) (M 4 101).toNat (M 4 211).toNat (M 4 107) (M 4 108) = (12, M 4 107, ((M 4 211).toNat : Int), ((M 4 211).toNat : Int) + 1, 3, 60) from by
    unfold tAt
    rw [if_neg (by omega), if_neg (by omega), if_neg (by omega), if_neg (by omega), if_neg (by omega), if_neg (by omega)]
    rw [show M 92 (M 4 211).toNat = 60 by omega]
    rfl)
  refine ⟨ρ, fun _ _ => rfl, fun f h => ?_, ?_⟩
  · have h : f ∈ ([[(-1, 1), (1, 3)], [(1, 1), (-1, 3)], [(-1, 0), (-1, 1), (1, 4)], [(1, 0), (1, 1), (-1, 4)], [(-12, 0), (1, 6)], [(12, 0), (-1, 6)], [(1, 7), (-1, 8)], [(-1, 7), (1, 8)]] : List qF) := h
    simp only [List.mem_cons, List.not_mem_nil, or_false] at h
    rcases h with rfl | rfl | rfl | rfl | rfl | rfl | rfl | rfl
    · show 0 ≤ -1 * ρ 1 + (1 * ρ 3 + 0)
      (try rw [h0]); omega
    · show 0 ≤ 1 * ρ 1 + (-1 * ρ 3 + 0)
      (try rw [h0]); omega
    · show 0 ≤ -1 * ρ 0 + (-1 * ρ 1 + (1 * ρ 4 + 0))
      (try rw [h0]); omega
    · show 0 ≤ 1 * ρ 0 + (1 * ρ 1 + (-1 * ρ 4 + 0))
      (try rw [h0]); omega
    · show 0 ≤ -12 * ρ 0 + (1 * ρ 6 + 0)
      (try rw [h0]); omega
    · show 0 ≤ 12 * ρ 0 + (-1 * ρ 6 + 0)
      (try rw [h0]); omega
    · show 0 ≤ 1 * ρ 7 + (-1 * ρ 8 + 0)
      (try rw [h0]); omega
    · show 0 ≤ -1 * ρ 7 + (1 * ρ 8 + 0)
      (try rw [h0]); omega
  · show sI M
    exact hI
-- signLhi_r
def xr_190 : qRu := (11, [[(-1, 0), (1, 5)], [(1, 1)], [(-2, 0), (-1, 1), (1, 2)], [(-60, 0), (1, 9)], [(60, 0), (-1, 9)], [(-63, 0), (1, 10)]], [(4, 210, [(1, 0)]), (4, 211, [(1, 1)]), (4, 101, [(1, 2)]), (3, 46, [(1, 3)]), (3, 47, [(1, 4)]), (4, 100, [(1, 5)]), (3, 50, [(1, 6)]), (3, 51, [(1, 7)]), (4, 108, [(1, 8)]), (4, 212, [(1, 0)]), (4, 213, [(1, 9)]), (4, 233, [(1, 0)]), (4, 234, [(1, 10)])], [], [], [[(-1, 1), (1, 3)], [(1, 1), (-1, 3)], [(-1, 0), (-1, 1), (1, 4)], [(1, 0), (1, 1), (-1, 4)], [(-3, 0), (1, 6)], [(3, 0), (-1, 6)], [(-60, 0), (1, 7)], [(60, 0), (-1, 7)]])
theorem xo_190 : qRok xr_190 := by
  intro ρ M h0 hf hm hI
  have f0 := hf [(-1, 0), (1, 5)] (by decide)
  have f1 := hf [(1, 1)] (by decide)
  have f2 := hf [(-2, 0), (-1, 1), (1, 2)] (by decide)
  have f3 := hf [(-60, 0), (1, 9)] (by decide)
  have f4 := hf [(60, 0), (-1, 9)] (by decide)
  have f5 := hf [(-63, 0), (1, 10)] (by decide)
  simp only [qD, h0] at f0 f1 f2 f3 f4 f5
  have m0 : M 4 210 = 1 * ρ 0 + 0 := hm (4, 210, [(1, 0)]) (by decide)
  have m1 : M 4 211 = 1 * ρ 1 + 0 := hm (4, 211, [(1, 1)]) (by decide)
  have m2 : M 4 101 = 1 * ρ 2 + 0 := hm (4, 101, [(1, 2)]) (by decide)
  have m3 : M 3 46 = 1 * ρ 3 + 0 := hm (3, 46, [(1, 3)]) (by decide)
  have m4 : M 3 47 = 1 * ρ 4 + 0 := hm (3, 47, [(1, 4)]) (by decide)
  have m5 : M 4 100 = 1 * ρ 5 + 0 := hm (4, 100, [(1, 5)]) (by decide)
  have m6 : M 3 50 = 1 * ρ 6 + 0 := hm (3, 50, [(1, 6)]) (by decide)
  have m7 : M 3 51 = 1 * ρ 7 + 0 := hm (3, 51, [(1, 7)]) (by decide)
  have m8 : M 4 108 = 1 * ρ 8 + 0 := hm (4, 108, [(1, 8)]) (by decide)
  have m9 : M 4 212 = 1 * ρ 0 + 0 := hm (4, 212, [(1, 0)]) (by decide)
  have m10 : M 4 213 = 1 * ρ 9 + 0 := hm (4, 213, [(1, 9)]) (by decide)
  have m11 : M 4 233 = 1 * ρ 0 + 0 := hm (4, 233, [(1, 0)]) (by decide)
  have m12 : M 4 234 = 1 * ρ 10 + 0 := hm (4, 234, [(1, 10)]) (by decide)
  simp only [h0] at m0 m9 m11
  obtain ⟨u1, u2, _⟩ := gx_xS8 hI (by omega)

  have hx : M 4 213 = M 92 (M 4 211).toNat := gx_xS9 hI (by omega)

  have hy : M 4 234 = M 92 ((M 4 211).toNat + 1) := gx_xSF hI (by omega)

  obtain ⟨t1, t2, t3, t4, t5, t6⟩ := tk_of hI (by omega) (by omega) (by omega) (show tAt (M 92) (M 4 101).toNat (M 4 211).toNat (M 4 107) (M 4 108) = (12, M 4 107, ((M 4 211).toNat : Int), ((M 4 211).toNat : Int) + 1, 3, 60) from by
    unfold tAt
    rw [if_neg (by omega), if_neg (by omega), if_neg (by omega), if_neg (by omega), if_neg (by omega), if_neg (by omega)]
    rw [show M 92 (M 4 211).toNat = 60 by omega]
    rfl)
  refine ⟨ρ, fun _ _ => rfl, fun f h => ?_, ?_⟩
  · have h : f ∈ ([[(-1, 1), (1, 3)], [(1, 1), (-1, 3)], [(-1, 0), (-1, 1), (1, 4)], [(1, 0), (1, 1), (-1, 4)], [(-3, 0), (1, 6)], [(3, 0), (-1, 6)], [(-60, 0), (1, 7)], [(60, 0), (-1, 7)]] : List qF) := h
    simp only [List.mem_cons, List.not_mem_nil, or_false] at h
    rcases h with rfl | rfl | rfl | rfl | rfl | rfl | rfl | rfl
    · show 0 ≤ -1 * ρ 1 + (1 * ρ 3 + 0)
      (try rw [h0]); omega
    · show 0 ≤ 1 * ρ 1 + (-1 * ρ 3 + 0)
      (try rw [h0]); omega
    · show 0 ≤ -1 * ρ 0 + (-1 * ρ 1 + (1 * ρ 4 + 0))
      (try rw [h0]); omega
    · show 0 ≤ 1 * ρ 0 + (1 * ρ 1 + (-1 * ρ 4 + 0))
      (try rw [h0]); omega
    · show 0 ≤ -3 * ρ 0 + (1 * ρ 6 + 0)
      (try rw [h0]); omega
    · show 0 ≤ 3 * ρ 0 + (-1 * ρ 6 + 0)
      (try rw [h0]); omega
    · show 0 ≤ -60 * ρ 0 + (1 * ρ 7 + 0)
      (try rw [h0]); omega
    · show 0 ≤ 60 * ρ 0 + (-1 * ρ 7 + 0)
      (try rw [h0]); omega
  · show sI M
    exact hI
-- signG61_c
def xr_191 : qRu := (11, [[(-1, 0), (1, 5)], [(1, 1)], [(-2, 0), (-1, 1), (1, 2)], [(-62, 0), (1, 9)], [(62, 0), (-1, 9)], [(-61, 0), (1, 10)], [(61, 0), (-1, 10)]], [(4, 210, [(1, 0)]), (4, 211, [(1, 1)]), (4, 101, [(1, 2)]), (3, 46, [(1, 3)]), (3, 47, [(1, 4)]), (4, 100, [(1, 5)]), (3, 44, [(1, 6)]), (3, 45, [(1, 7)]), (4, 107, [(1, 8)]), (4, 212, [(1, 0)]), (4, 213, [(1, 9)]), (4, 233, [(1, 0)]), (4, 234, [(1, 10)])], [], [], [[(-1, 1), (1, 3)], [(1, 1), (-1, 3)], [(-2, 0), (-1, 1), (1, 4)], [(2, 0), (1, 1), (-1, 4)], [(-16, 0), (1, 6)], [(16, 0), (-1, 6)], [(1, 7), (-1, 8)], [(-1, 7), (1, 8)]])
theorem xo_191 : qRok xr_191 := by
  intro ρ M h0 hf hm hI
  have f0 := hf [(-1, 0), (1, 5)] (by decide)
  have f1 := hf [(1, 1)] (by decide)
  have f2 := hf [(-2, 0), (-1, 1), (1, 2)] (by decide)
  have f3 := hf [(-62, 0), (1, 9)] (by decide)
  have f4 := hf [(62, 0), (-1, 9)] (by decide)
  have f5 := hf [(-61, 0), (1, 10)] (by decide)
  have f6 := hf [(61, 0), (-1, 10)] (by decide)
  simp only [qD, h0] at f0 f1 f2 f3 f4 f5 f6
  have m0 : M 4 210 = 1 * ρ 0 + 0 := hm (4, 210, [(1, 0)]) (by decide)
  have m1 : M 4 211 = 1 * ρ 1 + 0 := hm (4, 211, [(1, 1)]) (by decide)
  have m2 : M 4 101 = 1 * ρ 2 + 0 := hm (4, 101, [(1, 2)]) (by decide)
  have m3 : M 3 46 = 1 * ρ 3 + 0 := hm (3, 46, [(1, 3)]) (by decide)
  have m4 : M 3 47 = 1 * ρ 4 + 0 := hm (3, 47, [(1, 4)]) (by decide)
  have m5 : M 4 100 = 1 * ρ 5 + 0 := hm (4, 100, [(1, 5)]) (by decide)
  have m6 : M 3 44 = 1 * ρ 6 + 0 := hm (3, 44, [(1, 6)]) (by decide)
  have m7 : M 3 45 = 1 * ρ 7 + 0 := hm (3, 45, [(1, 7)]) (by decide)
  have m8 : M 4 107 = 1 * ρ 8 + 0 := hm (4, 107, [(1, 8)]) (by decide)
  have m9 : M 4 212 = 1 * ρ 0 + 0 := hm (4, 212, [(1, 0)]) (by decide)
  have m10 : M 4 213 = 1 * ρ 9 + 0 := hm (4, 213, [(1, 9)]) (by decide)
  have m11 : M 4 233 = 1 * ρ 0 + 0 := hm (4, 233, [(1, 0)]) (by decide)
  have m12 : M 4 234 = 1 * ρ 10 + 0 := hm (4, 234, [(1, 10)]) (by decide)
  simp only [h0] at m0 m9 m11
  obtain ⟨u1, u2, _⟩ := gx_xS8 hI (by omega)

  have hx : M 4 213 = M 92 (M 4 211).toNat := gx_xS9 hI (by omega)

  have hy : M 4 234 = M 92 ((M 4 211).toNat + 1) := gx_xSF hI (by omega)

  obtain ⟨t1, t2, t3, t4, t5, t6⟩ := tk_of hI (by omega) (by omega) (by omega) (show tAt (M 92) (M 4 101).toNat (M 4 211).toNat (M 4 107) (M 4 108) = (16, M 4 107, ((M 4 211).toNat : Int), ((M 4 211).toNat : Int) + 2, 3, 258) from by
    unfold tAt
    rw [if_neg (by omega), if_neg (by omega), if_neg (by omega), if_neg (by omega), if_neg (by omega), if_pos (by omega)])
  refine ⟨ρ, fun _ _ => rfl, fun f h => ?_, ?_⟩
  · have h : f ∈ ([[(-1, 1), (1, 3)], [(1, 1), (-1, 3)], [(-2, 0), (-1, 1), (1, 4)], [(2, 0), (1, 1), (-1, 4)], [(-16, 0), (1, 6)], [(16, 0), (-1, 6)], [(1, 7), (-1, 8)], [(-1, 7), (1, 8)]] : List qF) := h
    simp only [List.mem_cons, List.not_mem_nil, or_false] at h
    rcases h with rfl | rfl | rfl | rfl | rfl | rfl | rfl | rfl
    · show 0 ≤ -1 * ρ 1 + (1 * ρ 3 + 0)
      (try rw [h0]); omega
    · show 0 ≤ 1 * ρ 1 + (-1 * ρ 3 + 0)
      (try rw [h0]); omega
    · show 0 ≤ -2 * ρ 0 + (-1 * ρ 1 + (1 * ρ 4 + 0))
      (try rw [h0]); omega
    · show 0 ≤ 2 * ρ 0 + (1 * ρ 1 + (-1 * ρ 4 + 0))
      (try rw [h0]); omega
    · show 0 ≤ -16 * ρ 0 + (1 * ρ 6 + 0)
      (try rw [h0]); omega
    · show 0 ≤ 16 * ρ 0 + (-1 * ρ 6 + 0)
      (try rw [h0]); omega
    · show 0 ≤ 1 * ρ 7 + (-1 * ρ 8 + 0)
      (try rw [h0]); omega
    · show 0 ≤ -1 * ρ 7 + (1 * ρ 8 + 0)
      (try rw [h0]); omega
  · show sI M
    exact hI
-- signG61_r
def xr_192 : qRu := (11, [[(-1, 0), (1, 5)], [(1, 1)], [(-2, 0), (-1, 1), (1, 2)], [(-62, 0), (1, 9)], [(62, 0), (-1, 9)], [(-61, 0), (1, 10)], [(61, 0), (-1, 10)]], [(4, 210, [(1, 0)]), (4, 211, [(1, 1)]), (4, 101, [(1, 2)]), (3, 46, [(1, 3)]), (3, 47, [(1, 4)]), (4, 100, [(1, 5)]), (3, 50, [(1, 6)]), (3, 51, [(1, 7)]), (4, 108, [(1, 8)]), (4, 212, [(1, 0)]), (4, 213, [(1, 9)]), (4, 233, [(1, 0)]), (4, 234, [(1, 10)])], [], [], [[(-1, 1), (1, 3)], [(1, 1), (-1, 3)], [(-2, 0), (-1, 1), (1, 4)], [(2, 0), (1, 1), (-1, 4)], [(-3, 0), (1, 6)], [(3, 0), (-1, 6)], [(-258, 0), (1, 7)], [(258, 0), (-1, 7)]])
theorem xo_192 : qRok xr_192 := by
  intro ρ M h0 hf hm hI
  have f0 := hf [(-1, 0), (1, 5)] (by decide)
  have f1 := hf [(1, 1)] (by decide)
  have f2 := hf [(-2, 0), (-1, 1), (1, 2)] (by decide)
  have f3 := hf [(-62, 0), (1, 9)] (by decide)
  have f4 := hf [(62, 0), (-1, 9)] (by decide)
  have f5 := hf [(-61, 0), (1, 10)] (by decide)
  have f6 := hf [(61, 0), (-1, 10)] (by decide)
  simp only [qD, h0] at f0 f1 f2 f3 f4 f5 f6
  have m0 : M 4 210 = 1 * ρ 0 + 0 := hm (4, 210, [(1, 0)]) (by decide)
  have m1 : M 4 211 = 1 * ρ 1 + 0 := hm (4, 211, [(1, 1)]) (by decide)
  have m2 : M 4 101 = 1 * ρ 2 + 0 := hm (4, 101, [(1, 2)]) (by decide)
  have m3 : M 3 46 = 1 * ρ 3 + 0 := hm (3, 46, [(1, 3)]) (by decide)
  have m4 : M 3 47 = 1 * ρ 4 + 0 := hm (3, 47, [(1, 4)]) (by decide)
  have m5 : M 4 100 = 1 * ρ 5 + 0 := hm (4, 100, [(1, 5)]) (by decide)
  have m6 : M 3 50 = 1 * ρ 6 + 0 := hm (3, 50, [(1, 6)]) (by decide)
  have m7 : M 3 51 = 1 * ρ 7 + 0 := hm (3, 51, [(1, 7)]) (by decide)
  have m8 : M 4 108 = 1 * ρ 8 + 0 := hm (4, 108, [(1, 8)]) (by decide)
  have m9 : M 4 212 = 1 * ρ 0 + 0 := hm (4, 212, [(1, 0)]) (by decide)
  have m10 : M 4 213 = 1 * ρ 9 + 0 := hm (4, 213, [(1, 9)]) (by decide)
  have m11 : M 4 233 = 1 * ρ 0 + 0 := hm (4, 233, [(1, 0)]) (by decide)
  have m12 : M 4 234 = 1 * ρ 10 + 0 := hm (4, 234, [(1, 10)]) (by decide)
  simp only [h0] at m0 m9 m11
  obtain ⟨u1, u2, _⟩ := gx_xS8 hI (by omega)

  have hx : M 4 213 = M 92 (M 4 211).toNat := gx_xS9 hI (by omega)

  have hy : M 4 234 = M 92 ((M 4 211).toNat + 1) := gx_xSF hI (by omega)

  obtain ⟨t1, t2, t3, t4, t5, t6⟩ := tk_of hI (by omega) (by omega) (by omega) (show tAt (M 92) (M 4 101).toNat (M 4 211).toNat (M 4 107) (M 4 108) = (16, M 4 107, ((M 4 211).toNat : Int), ((M 4 211).toNat : Int) + 2, 3, 258) from by
    unfold tAt
    rw [if_neg (by omega), if_neg (by omega), if_neg (by omega), if_neg (by omega), if_neg (by omega), if_pos (by omega)])
  refine ⟨ρ, fun _ _ => rfl, fun f h => ?_, ?_⟩
  · have h : f ∈ ([[(-1, 1), (1, 3)], [(1, 1), (-1, 3)], [(-2, 0), (-1, 1), (1, 4)], [(2, 0), (1, 1), (-1, 4)], [(-3, 0), (1, 6)], [(3, 0), (-1, 6)], [(-258, 0), (1, 7)], [(258, 0), (-1, 7)]] : List qF) := h
    simp only [List.mem_cons, List.not_mem_nil, or_false] at h
    rcases h with rfl | rfl | rfl | rfl | rfl | rfl | rfl | rfl
    · show 0 ≤ -1 * ρ 1 + (1 * ρ 3 + 0)
      (try rw [h0]); omega
    · show 0 ≤ 1 * ρ 1 + (-1 * ρ 3 + 0)
      (try rw [h0]); omega
    · show 0 ≤ -2 * ρ 0 + (-1 * ρ 1 + (1 * ρ 4 + 0))
      (try rw [h0]); omega
    · show 0 ≤ 2 * ρ 0 + (1 * ρ 1 + (-1 * ρ 4 + 0))
      (try rw [h0]); omega
    · show 0 ≤ -3 * ρ 0 + (1 * ρ 6 + 0)
      (try rw [h0]); omega
    · show 0 ≤ 3 * ρ 0 + (-1 * ρ 6 + 0)
      (try rw [h0]); omega
    · show 0 ≤ -258 * ρ 0 + (1 * ρ 7 + 0)
      (try rw [h0]); omega
    · show 0 ≤ 258 * ρ 0 + (-1 * ρ 7 + 0)
      (try rw [h0]); omega
  · show sI M
    exact hI
-- signGlo_c
def xr_193 : qRu := (11, [[(-1, 0), (1, 5)], [(1, 1)], [(-2, 0), (-1, 1), (1, 2)], [(-62, 0), (1, 9)], [(62, 0), (-1, 9)], [(60, 0), (-1, 10)]], [(4, 210, [(1, 0)]), (4, 211, [(1, 1)]), (4, 101, [(1, 2)]), (3, 46, [(1, 3)]), (3, 47, [(1, 4)]), (4, 100, [(1, 5)]), (3, 44, [(1, 6)]), (3, 45, [(1, 7)]), (4, 107, [(1, 8)]), (4, 212, [(1, 0)]), (4, 213, [(1, 9)]), (4, 233, [(1, 0)]), (4, 234, [(1, 10)])], [], [], [[(-1, 1), (1, 3)], [(1, 1), (-1, 3)], [(-1, 0), (-1, 1), (1, 4)], [(1, 0), (1, 1), (-1, 4)], [(-17, 0), (1, 6)], [(17, 0), (-1, 6)], [(1, 7), (-1, 8)], [(-1, 7), (1, 8)]])
theorem xo_193 : qRok xr_193 := by
  intro ρ M h0 hf hm hI
  have f0 := hf [(-1, 0), (1, 5)] (by decide)
  have f1 := hf [(1, 1)] (by decide)
  have f2 := hf [(-2, 0), (-1, 1), (1, 2)] (by decide)
  have f3 := hf [(-62, 0), (1, 9)] (by decide)
  have f4 := hf [(62, 0), (-1, 9)] (by decide)
  have f5 := hf [(60, 0), (-1, 10)] (by decide)
  simp only [qD, h0] at f0 f1 f2 f3 f4 f5
  have m0 : M 4 210 = 1 * ρ 0 + 0 := hm (4, 210, [(1, 0)]) (by decide)
  have m1 : M 4 211 = 1 * ρ 1 + 0 := hm (4, 211, [(1, 1)]) (by decide)
  have m2 : M 4 101 = 1 * ρ 2 + 0 := hm (4, 101, [(1, 2)]) (by decide)
  have m3 : M 3 46 = 1 * ρ 3 + 0 := hm (3, 46, [(1, 3)]) (by decide)
  have m4 : M 3 47 = 1 * ρ 4 + 0 := hm (3, 47, [(1, 4)]) (by decide)
  have m5 : M 4 100 = 1 * ρ 5 + 0 := hm (4, 100, [(1, 5)]) (by decide)
  have m6 : M 3 44 = 1 * ρ 6 + 0 := hm (3, 44, [(1, 6)]) (by decide)
  have m7 : M 3 45 = 1 * ρ 7 + 0 := hm (3, 45, [(1, 7)]) (by decide)
  have m8 : M 4 107 = 1 * ρ 8 + 0 := hm (4, 107, [(1, 8)]) (by decide)
  have m9 : M 4 212 = 1 * ρ 0 + 0 := hm (4, 212, [(1, 0)]) (by decide)
  have m10 : M 4 213 = 1 * ρ 9 + 0 := hm (4, 213, [(1, 9)]) (by decide)
  have m11 : M 4 233 = 1 * ρ 0 + 0 := hm (4, 233, [(1, 0)]) (by decide)
  have m12 : M 4 234 = 1 * ρ 10 + 0 := hm (4, 234, [(1, 10)]) (by decide)
  simp only [h0] at m0 m9 m11
  obtain ⟨u1, u2, _⟩ := gx_xS8 hI (by omega)

  have hx : M 4 213 = M 92 (M 4 211).toNat := gx_xS9 hI (by omega)

  have hy : M 4 234 = M 92 ((M 4 211).toNat + 1) := gx_xSF hI (by omega)

  obtain ⟨t1, t2, t3, t4, t5, t6⟩ := tk_of hI (by omega) (by omega) (by omega) (show tAt (M 92) (M 4 101).toNat (M 4 211).toNat (M 4 107) (M 4 108) = (17, M 4 107, ((M 4 211).toNat : Int), ((M 4 211).toNat : Int) + 1, 3, 62) from by
    unfold tAt
    rw [if_neg (by omega), if_neg (by omega), if_neg (by omega), if_neg (by omega), if_neg (by omega), if_neg (by omega)]
    rw [show M 92 (M 4 211).toNat = 62 by omega]
    rfl)
  refine ⟨ρ, fun _ _ => rfl, fun f h => ?_, ?_⟩
  · have h : f ∈ ([[(-1, 1), (1, 3)], [(1, 1), (-1, 3)], [(-1, 0), (-1, 1), (1, 4)], [(1, 0), (1, 1), (-1, 4)], [(-17, 0), (1, 6)], [(17, 0), (-1, 6)], [(1, 7), (-1, 8)], [(-1, 7), (1, 8)]] : List qF) := h
    simp only [List.mem_cons, List.not_mem_nil, or_false] at h
    rcases h with rfl | rfl | rfl | rfl | rfl | rfl | rfl | rfl
    · show 0 ≤ -1 * ρ 1 + (1 * ρ 3 + 0)
      (try rw [h0]); omega
    · show 0 ≤ 1 * ρ 1 + (-1 * ρ 3 + 0)
      (try rw [h0]); omega
    · show 0 ≤ -1 * ρ 0 + (-1 * ρ 1 + (1 * ρ 4 + 0))
      (try rw [h0]); omega
    · show 0 ≤ 1 * ρ 0 + (1 * ρ 1 + (-1 * ρ 4 + 0))
      (try rw [h0]); omega
    · show 0 ≤ -17 * ρ 0 + (1 * ρ 6 + 0)
      (try rw [h0]); omega
    · show 0 ≤ 17 * ρ 0 + (-1 * ρ 6 + 0)
      (try rw [h0]); omega
    · show 0 ≤ 1 * ρ 7 + (-1 * ρ 8 + 0)
      (try rw [h0]); omega
    · show 0 ≤ -1 * ρ 7 + (1 * ρ 8 + 0)
      (try rw [h0]); omega
  · show sI M
    exact hI
-- signGlo_r
def xr_194 : qRu := (11, [[(-1, 0), (1, 5)], [(1, 1)], [(-2, 0), (-1, 1), (1, 2)], [(-62, 0), (1, 9)], [(62, 0), (-1, 9)], [(60, 0), (-1, 10)]], [(4, 210, [(1, 0)]), (4, 211, [(1, 1)]), (4, 101, [(1, 2)]), (3, 46, [(1, 3)]), (3, 47, [(1, 4)]), (4, 100, [(1, 5)]), (3, 50, [(1, 6)]), (3, 51, [(1, 7)]), (4, 108, [(1, 8)]), (4, 212, [(1, 0)]), (4, 213, [(1, 9)]), (4, 233, [(1, 0)]), (4, 234, [(1, 10)])], [], [], [[(-1, 1), (1, 3)], [(1, 1), (-1, 3)], [(-1, 0), (-1, 1), (1, 4)], [(1, 0), (1, 1), (-1, 4)], [(-3, 0), (1, 6)], [(3, 0), (-1, 6)], [(-62, 0), (1, 7)], [(62, 0), (-1, 7)]])
theorem xo_194 : qRok xr_194 := by
  intro ρ M h0 hf hm hI
  have f0 := hf [(-1, 0), (1, 5)] (by decide)
  have f1 := hf [(1, 1)] (by decide)
  have f2 := hf [(-2, 0), (-1, 1), (1, 2)] (by decide)
  have f3 := hf [(-62, 0), (1, 9)] (by decide)
  have f4 := hf [(62, 0), (-1, 9)] (by decide)
  have f5 := hf [(60, 0), (-1, 10)] (by decide)
  simp only [qD, h0] at f0 f1 f2 f3 f4 f5
  have m0 : M 4 210 = 1 * ρ 0 + 0 := hm (4, 210, [(1, 0)]) (by decide)
  have m1 : M 4 211 = 1 * ρ 1 + 0 := hm (4, 211, [(1, 1)]) (by decide)
  have m2 : M 4 101 = 1 * ρ 2 + 0 := hm (4, 101, [(1, 2)]) (by decide)
  have m3 : M 3 46 = 1 * ρ 3 + 0 := hm (3, 46, [(1, 3)]) (by decide)
  have m4 : M 3 47 = 1 * ρ 4 + 0 := hm (3, 47, [(1, 4)]) (by decide)
  have m5 : M 4 100 = 1 * ρ 5 + 0 := hm (4, 100, [(1, 5)]) (by decide)
  have m6 : M 3 50 = 1 * ρ 6 + 0 := hm (3, 50, [(1, 6)]) (by decide)
  have m7 : M 3 51 = 1 * ρ 7 + 0 := hm (3, 51, [(1, 7)]) (by decide)
  have m8 : M 4 108 = 1 * ρ 8 + 0 := hm (4, 108, [(1, 8)]) (by decide)
  have m9 : M 4 212 = 1 * ρ 0 + 0 := hm (4, 212, [(1, 0)]) (by decide)
  have m10 : M 4 213 = 1 * ρ 9 + 0 := hm (4, 213, [(1, 9)]) (by decide)
  have m11 : M 4 233 = 1 * ρ 0 + 0 := hm (4, 233, [(1, 0)]) (by decide)
  have m12 : M 4 234 = 1 * ρ 10 + 0 := hm (4, 234, [(1, 10)]) (by decide)
  simp only [h0] at m0 m9 m11
  obtain ⟨u1, u2, _⟩ := gx_xS8 hI (by omega)

  have hx : M 4 213 = M 92 (M 4 211).toNat := gx_xS9 hI (by omega)

  have hy : M 4 234 = M 92 ((M 4 211).toNat + 1) := gx_xSF hI (by omega)

  obtain ⟨t1, t2, t3, t4, t5, t6⟩ := tk_of hI (by omega) (by omega) (by omega) (show tAt (M 92) (M 4 101).toNat (M 4 211).toNat (M 4 107) (M 4 108) = (17, M 4 107, ((M 4 211).toNat : Int), ((M 4 211).toNat : Int) + 1, 3, 62) from by
    unfold tAt
    rw [if_neg (by omega), if_neg (by omega), if_neg (by omega), if_neg (by omega), if_neg (by omega), if_neg (by omega)]
    rw [show M 92 (M 4 211).toNat = 62 by omega]
    rfl)
  refine ⟨ρ, fun _ _ => rfl, fun f h => ?_, ?_⟩
  · have h : f ∈ ([[(-1, 1), (1, 3)], [(1, 1), (-1, 3)], [(-1, 0), (-1, 1), (1, 4)], [(1, 0), (1, 1), (-1, 4)], [(-3, 0), (1, 6)], [(3, 0), (-1, 6)], [(-62, 0), (1, 7)], [(62, 0), (-1, 7)]] : List qF) := h
    simp only [List.mem_cons, List.not_mem_nil, or_false] at h
    rcases h with rfl | rfl | rfl | rfl | rfl | rfl | rfl | rfl
    · show 0 ≤ -1 * ρ 1 + (1 * ρ 3 + 0)
      (try rw [h0]); omega
    · show 0 ≤ 1 * ρ 1 + (-1 * ρ 3 + 0)
      (try rw [h0]); omega
    · show 0 ≤ -1 * ρ 0 + (-1 * ρ 1 + (1 * ρ 4 + 0))
      (try rw [h0]); omega
    · show 0 ≤ 1 * ρ 0 + (1 * ρ 1 + (-1 * ρ 4 + 0))
      (try rw [h0]); omega
    · show 0 ≤ -3 * ρ 0 + (1 * ρ 6 + 0)
      (try rw [h0]); omega
    · show 0 ≤ 3 * ρ 0 + (-1 * ρ 6 + 0)
      (try rw [h0]); omega
    · show 0 ≤ -62 * ρ 0 + (1 * ρ 7 + 0)
      (try rw [h0]); omega
    · show 0 ≤ 62 * ρ 0 + (-1 * ρ 7 + 0)
      (try rw [h0]); omega
  · show sI M
    exact hI
-- signGhi_c
def xr_195 : qRu := (11, [[(-1, 0), (1, 5)], [(1, 1)], [(-2, 0), (-1, 1), (1, 2)], [(-62, 0), (1, 9)], [(62, 0), (-1, 9)], [(-62, 0), (1, 10)]], [(4, 210, [(1, 0)]), (4, 211, [(1, 1)]), (4, 101, [(1, 2)]), (3, 46, [(1, 3)]), (3, 47, [(1, 4)]), (4, 100, [(1, 5)]), (3, 44, [(1, 6)]), (3, 45, [(1, 7)]), (4, 107, [(1, 8)]), (4, 212, [(1, 0)]), (4, 213, [(1, 9)]), (4, 233, [(1, 0)]), (4, 234, [(1, 10)])], [], [], [[(-1, 1), (1, 3)], [(1, 1), (-1, 3)], [(-1, 0), (-1, 1), (1, 4)], [(1, 0), (1, 1), (-1, 4)], [(-17, 0), (1, 6)], [(17, 0), (-1, 6)], [(1, 7), (-1, 8)], [(-1, 7), (1, 8)]])
theorem xo_195 : qRok xr_195 := by
  intro ρ M h0 hf hm hI
  have f0 := hf [(-1, 0), (1, 5)] (by decide)
  have f1 := hf [(1, 1)] (by decide)
  have f2 := hf [(-2, 0), (-1, 1), (1, 2)] (by decide)
  have f3 := hf [(-62, 0), (1, 9)] (by decide)
  have f4 := hf [(62, 0), (-1, 9)] (by decide)
  have f5 := hf [(-62, 0), (1, 10)] (by decide)
  simp only [qD, h0] at f0 f1 f2 f3 f4 f5
  have m0 : M 4 210 = 1 * ρ 0 + 0 := hm (4, 210, [(1, 0)]) (by decide)
  have m1 : M 4 211 = 1 * ρ 1 + 0 := hm (4, 211, [(1, 1)]) (by decide)
  have m2 : M 4 101 = 1 * ρ 2 + 0 := hm (4, 101, [(1, 2)]) (by decide)
  have m3 : M 3 46 = 1 * ρ 3 + 0 := hm (3, 46, [(1, 3)]) (by decide)
  have m4 : M 3 47 = 1 * ρ 4 + 0 := hm (3, 47, [(1, 4)]) (by decide)
  have m5 : M 4 100 = 1 * ρ 5 + 0 := hm (4, 100, [(1, 5)]) (by decide)
  have m6 : M 3 44 = 1 * ρ 6 + 0 := hm (3, 44, [(1, 6)]) (by decide)
  have m7 : M 3 45 = 1 * ρ 7 + 0 := hm (3, 45, [(1, 7)]) (by decide)
  have m8 : M 4 107 = 1 * ρ 8 + 0 := hm (4, 107, [(1, 8)]) (by decide)
  have m9 : M 4 212 = 1 * ρ 0 + 0 := hm (4, 212, [(1, 0)]) (by decide)
  have m10 : M 4 213 = 1 * ρ 9 + 0 := hm (4, 213, [(1, 9)]) (by decide)
  have m11 : M 4 233 = 1 * ρ 0 + 0 := hm (4, 233, [(1, 0)]) (by decide)
  have m12 : M 4 234 = 1 * ρ 10 + 0 := hm (4, 234, [(1, 10)]) (by decide)
  simp only [h0] at m0 m9 m11
  obtain ⟨u1, u2, _⟩ := gx_xS8 hI (by omega)

  have hx : M 4 213 = M 92 (M 4 211).toNat := gx_xS9 hI (by omega)

  have hy : M 4 234 = M 92 ((M 4 211).toNat + 1) := gx_xSF hI (by omega)

  obtain ⟨t1, t2, t3, t4, t5, t6⟩ := tk_of hI (by omega) (by omega) (by omega) (show tAt (M 92) (M 4 101).toNat (M 4 211).toNat (M 4 107) (M 4 108) = (17, M 4 107, ((M 4 211).toNat : Int), ((M 4 211).toNat : Int) + 1, 3, 62) from by
    unfold tAt
    rw [if_neg (by omega), if_neg (by omega), if_neg (by omega), if_neg (by omega), if_neg (by omega), if_neg (by omega)]
    rw [show M 92 (M 4 211).toNat = 62 by omega]
    rfl)
  refine ⟨ρ, fun _ _ => rfl, fun f h => ?_, ?_⟩
  · have h : f ∈ ([[(-1, 1), (1, 3)], [(1, 1), (-1, 3)], [(-1, 0), (-1, 1), (1, 4)], [(1, 0), (1, 1), (-1, 4)], [(-17, 0), (1, 6)], [(17, 0), (-1, 6)], [(1, 7), (-1, 8)], [(-1, 7), (1, 8)]] : List qF) := h
    simp only [List.mem_cons, List.not_mem_nil, or_false] at h
    rcases h with rfl | rfl | rfl | rfl | rfl | rfl | rfl | rfl
    · show 0 ≤ -1 * ρ 1 + (1 * ρ 3 + 0)
      (try rw [h0]); omega
    · show 0 ≤ 1 * ρ 1 + (-1 * ρ 3 + 0)
      (try rw [h0]); omega
    · show 0 ≤ -1 * ρ 0 + (-1 * ρ 1 + (1 * ρ 4 + 0))
      (try rw [h0]); omega
    · show 0 ≤ 1 * ρ 0 + (1 * ρ 1 + (-1 * ρ 4 + 0))
      (try rw [h0]); omega
    · show 0 ≤ -17 * ρ 0 + (1 * ρ 6 + 0)
      (try rw [h0]); omega
    · show 0 ≤ 17 * ρ 0 + (-1 * ρ 6 + 0)
      (try rw [h0]); omega
    · show 0 ≤ 1 * ρ 7 + (-1 * ρ 8 + 0)
      (try rw [h0]); omega
    · show 0 ≤ -1 * ρ 7 + (1 * ρ 8 + 0)
      (try rw [h0]); omega
  · show sI M
    exact hI
-- signGhi_r
def xr_196 : qRu := (11, [[(-1, 0), (1, 5)], [(1, 1)], [(-2, 0), (-1, 1), (1, 2)], [(-62, 0), (1, 9)], [(62, 0), (-1, 9)], [(-62, 0), (1, 10)]], [(4, 210, [(1, 0)]), (4, 211, [(1, 1)]), (4, 101, [(1, 2)]), (3, 46, [(1, 3)]), (3, 47, [(1, 4)]), (4, 100, [(1, 5)]), (3, 50, [(1, 6)]), (3, 51, [(1, 7)]), (4, 108, [(1, 8)]), (4, 212, [(1, 0)]), (4, 213, [(1, 9)]), (4, 233, [(1, 0)]), (4, 234, [(1, 10)])], [], [], [[(-1, 1), (1, 3)], [(1, 1), (-1, 3)], [(-1, 0), (-1, 1), (1, 4)], [(1, 0), (1, 1), (-1, 4)], [(-3, 0), (1, 6)], [(3, 0), (-1, 6)], [(-62, 0), (1, 7)], [(62, 0), (-1, 7)]])
theorem xo_196 : qRok xr_196 := by
  intro ρ M h0 hf hm hI
  have f0 := hf [(-1, 0), (1, 5)] (by decide)
  have f1 := hf [(1, 1)] (by decide)
  have f2 := hf [(-2, 0), (-1, 1), (1, 2)] (by decide)
  have f3 := hf [(-62, 0), (1, 9)] (by decide)
  have f4 := hf [(62, 0), (-1, 9)] (by decide)
  have f5 := hf [(-62, 0), (1, 10)] (by decide)
  simp only [qD, h0] at f0 f1 f2 f3 f4 f5
  have m0 : M 4 210 = 1 * ρ 0 + 0 := hm (4, 210, [(1, 0)]) (by decide)
  have m1 : M 4 211 = 1 * ρ 1 + 0 := hm (4, 211, [(1, 1)]) (by decide)
  have m2 : M 4 101 = 1 * ρ 2 + 0 := hm (4, 101, [(1, 2)]) (by decide)
  have m3 : M 3 46 = 1 * ρ 3 + 0 := hm (3, 46, [(1, 3)]) (by decide)
  have m4 : M 3 47 = 1 * ρ 4 + 0 := hm (3, 47, [(1, 4)]) (by decide)
  have m5 : M 4 100 = 1 * ρ 5 + 0 := hm (4, 100, [(1, 5)]) (by decide)
  have m6 : M 3 50 = 1 * ρ 6 + 0 := hm (3, 50, [(1, 6)]) (by decide)
  have m7 : M 3 51 = 1 * ρ 7 + 0 := hm (3, 51, [(1, 7)]) (by decide)
  have m8 : M 4 108 = 1 * ρ 8 + 0 := hm (4, 108, [(1, 8)]) (by decide)
  have m9 : M 4 212 = 1 * ρ 0 + 0 := hm (4, 212, [(1, 0)]) (by decide)
  have m10 : M 4 213 = 1 * ρ 9 + 0 := hm (4, 213, [(1, 9)]) (by decide)
  have m11 : M 4 233 = 1 * ρ 0 + 0 := hm (4, 233, [(1, 0)]) (by decide)
  have m12 : M 4 234 = 1 * ρ 10 + 0 := hm (4, 234, [(1, 10)]) (by decide)
  simp only [h0] at m0 m9 m11
  obtain ⟨u1, u2, _⟩ := gx_xS8 hI (by omega)

  have hx : M 4 213 = M 92 (M 4 211).toNat := gx_xS9 hI (by omega)

  have hy : M 4 234 = M 92 ((M 4 211).toNat + 1) := gx_xSF hI (by omega)

  obtain ⟨t1, t2, t3, t4, t5, t6⟩ := tk_of hI (by omega) (by omega) (by omega) (show tAt (M 92) (M 4 101).toNat (M 4 211).toNat (M 4 107) (M 4 108) = (17, M 4 107, ((M 4 211).toNat : Int), ((M 4 211).toNat : Int) + 1, 3, 62) from by
    unfold tAt
    rw [if_neg (by omega), if_neg (by omega), if_neg (by omega), if_neg (by omega), if_neg (by omega), if_neg (by omega)]
    rw [show M 92 (M 4 211).toNat = 62 by omega]
    rfl)
  refine ⟨ρ, fun _ _ => rfl, fun f h => ?_, ?_⟩
  · have h : f ∈ ([[(-1, 1), (1, 3)], [(1, 1), (-1, 3)], [(-1, 0), (-1, 1), (1, 4)], [(1, 0), (1, 1), (-1, 4)], [(-3, 0), (1, 6)], [(3, 0), (-1, 6)], [(-62, 0), (1, 7)], [(62, 0), (-1, 7)]] : List qF) := h
    simp only [List.mem_cons, List.not_mem_nil, or_false] at h
    rcases h with rfl | rfl | rfl | rfl | rfl | rfl | rfl | rfl
    · show 0 ≤ -1 * ρ 1 + (1 * ρ 3 + 0)
      (try rw [h0]); omega
    · show 0 ≤ 1 * ρ 1 + (-1 * ρ 3 + 0)
      (try rw [h0]); omega
    · show 0 ≤ -1 * ρ 0 + (-1 * ρ 1 + (1 * ρ 4 + 0))
      (try rw [h0]); omega
    · show 0 ≤ 1 * ρ 0 + (1 * ρ 1 + (-1 * ρ 4 + 0))
      (try rw [h0]); omega
    · show 0 ≤ -3 * ρ 0 + (1 * ρ 6 + 0)
      (try rw [h0]); omega
    · show 0 ≤ 3 * ρ 0 + (-1 * ρ 6 + 0)
      (try rw [h0]); omega
    · show 0 ≤ -62 * ρ 0 + (1 * ρ 7 + 0)
      (try rw [h0]); omega
    · show 0 ≤ 62 * ρ 0 + (-1 * ρ 7 + 0)
      (try rw [h0]); omega
  · show sI M
    exact hI
-- signLend_c
def xr_197 : qRu := (10, [[(-1, 0), (1, 5)], [(1, 1)], [(-1, 0), (-1, 1), (1, 2)], [(1, 0), (1, 1), (-1, 2)], [(-60, 0), (1, 9)], [(60, 0), (-1, 9)]], [(4, 210, [(1, 0)]), (4, 211, [(1, 1)]), (4, 101, [(1, 2)]), (3, 46, [(1, 3)]), (3, 47, [(1, 4)]), (4, 100, [(1, 5)]), (3, 44, [(1, 6)]), (3, 45, [(1, 7)]), (4, 107, [(1, 8)]), (4, 212, [(1, 0)]), (4, 213, [(1, 9)])], [], [], [[(-1, 1), (1, 3)], [(1, 1), (-1, 3)], [(-1, 0), (-1, 1), (1, 4)], [(1, 0), (1, 1), (-1, 4)], [(-12, 0), (1, 6)], [(12, 0), (-1, 6)], [(1, 7), (-1, 8)], [(-1, 7), (1, 8)]])
theorem xo_197 : qRok xr_197 := by
  intro ρ M h0 hf hm hI
  have f0 := hf [(-1, 0), (1, 5)] (by decide)
  have f1 := hf [(1, 1)] (by decide)
  have f2 := hf [(-1, 0), (-1, 1), (1, 2)] (by decide)
  have f3 := hf [(1, 0), (1, 1), (-1, 2)] (by decide)
  have f4 := hf [(-60, 0), (1, 9)] (by decide)
  have f5 := hf [(60, 0), (-1, 9)] (by decide)
  simp only [qD, h0] at f0 f1 f2 f3 f4 f5
  have m0 : M 4 210 = 1 * ρ 0 + 0 := hm (4, 210, [(1, 0)]) (by decide)
  have m1 : M 4 211 = 1 * ρ 1 + 0 := hm (4, 211, [(1, 1)]) (by decide)
  have m2 : M 4 101 = 1 * ρ 2 + 0 := hm (4, 101, [(1, 2)]) (by decide)
  have m3 : M 3 46 = 1 * ρ 3 + 0 := hm (3, 46, [(1, 3)]) (by decide)
  have m4 : M 3 47 = 1 * ρ 4 + 0 := hm (3, 47, [(1, 4)]) (by decide)
  have m5 : M 4 100 = 1 * ρ 5 + 0 := hm (4, 100, [(1, 5)]) (by decide)
  have m6 : M 3 44 = 1 * ρ 6 + 0 := hm (3, 44, [(1, 6)]) (by decide)
  have m7 : M 3 45 = 1 * ρ 7 + 0 := hm (3, 45, [(1, 7)]) (by decide)
  have m8 : M 4 107 = 1 * ρ 8 + 0 := hm (4, 107, [(1, 8)]) (by decide)
  have m9 : M 4 212 = 1 * ρ 0 + 0 := hm (4, 212, [(1, 0)]) (by decide)
  have m10 : M 4 213 = 1 * ρ 9 + 0 := hm (4, 213, [(1, 9)]) (by decide)
  simp only [h0] at m0 m9
  obtain ⟨u1, u2, _⟩ := gx_xS8 hI (by omega)

  have hx : M 4 213 = M 92 (M 4 211).toNat := gx_xS9 hI (by omega)

  obtain ⟨t1, t2, t3, t4, t5, t6⟩ := tk_of hI (by omega) (by omega) (by omega) (show tAt (M 92) (M 4 101).toNat (M 4 211).toNat (M 4 107) (M 4 108) = (12, M 4 107, ((M 4 211).toNat : Int), ((M 4 211).toNat : Int) + 1, 3, 60) from by
    unfold tAt
    rw [if_neg (by omega), if_neg (by omega), if_neg (by omega), if_neg (by omega), if_neg (by omega), if_neg (by omega)]
    rw [show M 92 (M 4 211).toNat = 60 by omega]
    rfl)
  refine ⟨ρ, fun _ _ => rfl, fun f h => ?_, ?_⟩
  · have h : f ∈ ([[(-1, 1), (1, 3)], [(1, 1), (-1, 3)], [(-1, 0), (-1, 1), (1, 4)], [(1, 0), (1, 1), (-1, 4)], [(-12, 0), (1, 6)], [(12, 0), (-1, 6)], [(1, 7), (-1, 8)], [(-1, 7), (1, 8)]] : List qF) := h
    simp only [List.mem_cons, List.not_mem_nil, or_false] at h
    rcases h with rfl | rfl | rfl | rfl | rfl | rfl | rfl | rfl
    · show 0 ≤ -1 * ρ 1 + (1 * ρ 3 + 0)
      (try rw [h0]); omega
    · show 0 ≤ 1 * ρ 1 + (-1 * ρ 3 + 0)
      (try rw [h0]); omega
    · show 0 ≤ -1 * ρ 0 + (-1 * ρ 1 + (1 * ρ 4 + 0))
      (try rw [h0]); omega
    · show 0 ≤ 1 * ρ 0 + (1 * ρ 1 + (-1 * ρ 4 + 0))
      (try rw [h0]); omega
    · show 0 ≤ -12 * ρ 0 + (1 * ρ 6 + 0)
      (try rw [h0]); omega
    · show 0 ≤ 12 * ρ 0 + (-1 * ρ 6 + 0)
      (try rw [h0]); omega
    · show 0 ≤ 1 * ρ 7 + (-1 * ρ 8 + 0)
      (try rw [h0]); omega
    · show 0 ≤ -1 * ρ 7 + (1 * ρ 8 + 0)
      (try rw [h0]); omega
  · show sI M
    exact hI
-- signLend_r
def xr_198 : qRu := (10, [[(-1, 0), (1, 5)], [(1, 1)], [(-1, 0), (-1, 1), (1, 2)], [(1, 0), (1, 1), (-1, 2)], [(-60, 0), (1, 9)], [(60, 0), (-1, 9)]], [(4, 210, [(1, 0)]), (4, 211, [(1, 1)]), (4, 101, [(1, 2)]), (3, 46, [(1, 3)]), (3, 47, [(1, 4)]), (4, 100, [(1, 5)]), (3, 50, [(1, 6)]), (3, 51, [(1, 7)]), (4, 108, [(1, 8)]), (4, 212, [(1, 0)]), (4, 213, [(1, 9)])], [], [], [[(-1, 1), (1, 3)], [(1, 1), (-1, 3)], [(-1, 0), (-1, 1), (1, 4)], [(1, 0), (1, 1), (-1, 4)], [(-3, 0), (1, 6)], [(3, 0), (-1, 6)], [(-60, 0), (1, 7)], [(60, 0), (-1, 7)]])
theorem xo_198 : qRok xr_198 := by
  intro ρ M h0 hf hm hI
  have f0 := hf [(-1, 0), (1, 5)] (by decide)
  have f1 := hf [(1, 1)] (by decide)
  have f2 := hf [(-1, 0), (-1, 1), (1, 2)] (by decide)
  have f3 := hf [(1, 0), (1, 1), (-1, 2)] (by decide)
  have f4 := hf [(-60, 0), (1, 9)] (by decide)
  have f5 := hf [(60, 0), (-1, 9)] (by decide)
  simp only [qD, h0] at f0 f1 f2 f3 f4 f5
  have m0 : M 4 210 = 1 * ρ 0 + 0 := hm (4, 210, [(1, 0)]) (by decide)
  have m1 : M 4 211 = 1 * ρ 1 + 0 := hm (4, 211, [(1, 1)]) (by decide)
  have m2 : M 4 101 = 1 * ρ 2 + 0 := hm (4, 101, [(1, 2)]) (by decide)
  have m3 : M 3 46 = 1 * ρ 3 + 0 := hm (3, 46, [(1, 3)]) (by decide)
  have m4 : M 3 47 = 1 * ρ 4 + 0 := hm (3, 47, [(1, 4)]) (by decide)
  have m5 : M 4 100 = 1 * ρ 5 + 0 := hm (4, 100, [(1, 5)]) (by decide)
  have m6 : M 3 50 = 1 * ρ 6 + 0 := hm (3, 50, [(1, 6)]) (by decide)
  have m7 : M 3 51 = 1 * ρ 7 + 0 := hm (3, 51, [(1, 7)]) (by decide)
  have m8 : M 4 108 = 1 * ρ 8 + 0 := hm (4, 108, [(1, 8)]) (by decide)
  have m9 : M 4 212 = 1 * ρ 0 + 0 := hm (4, 212, [(1, 0)]) (by decide)
  have m10 : M 4 213 = 1 * ρ 9 + 0 := hm (4, 213, [(1, 9)]) (by decide)
  simp only [h0] at m0 m9
  obtain ⟨u1, u2, _⟩ := gx_xS8 hI (by omega)

  have hx : M 4 213 = M 92 (M 4 211).toNat := gx_xS9 hI (by omega)

  obtain ⟨t1, t2, t3, t4, t5, t6⟩ := tk_of hI (by omega) (by omega) (by omega) (show tAt (M 92) (M 4 101).toNat (M 4 211).toNat (M 4 107) (M 4 108) = (12, M 4 107, ((M 4 211).toNat : Int), ((M 4 211).toNat : Int) + 1, 3, 60) from by
    unfold tAt
    rw [if_neg (by omega), if_neg (by omega), if_neg (by omega), if_neg (by omega), if_neg (by omega), if_neg (by omega)]
    rw [show M 92 (M 4 211).toNat = 60 by omega]
    rfl)
  refine ⟨ρ, fun _ _ => rfl, fun f h => ?_, ?_⟩
  · have h : f ∈ ([[(-1, 1), (1, 3)], [(1, 1), (-1, 3)], [(-1, 0), (-1, 1), (1, 4)], [(1, 0), (1, 1), (-1, 4)], [(-3, 0), (1, 6)], [(3, 0), (-1, 6)], [(-60, 0), (1, 7)], [(60, 0), (-1, 7)]] : List qF) := h
    simp only [List.mem_cons, List.not_mem_nil, or_false] at h
    rcases h with rfl | rfl | rfl | rfl | rfl | rfl | rfl | rfl
    · show 0 ≤ -1 * ρ 1 + (1 * ρ 3 + 0)
      (try rw [h0]); omega
    · show 0 ≤ 1 * ρ 1 + (-1 * ρ 3 + 0)
      (try rw [h0]); omega
    · show 0 ≤ -1 * ρ 0 + (-1 * ρ 1 + (1 * ρ 4 + 0))
      (try rw [h0]); omega
    · show 0 ≤ 1 * ρ 0 + (1 * ρ 1 + (-1 * ρ 4 + 0))
      (try rw [h0]); omega
    · show 0 ≤ -3 * ρ 0 + (1 * ρ 6 + 0)
      (try rw [h0]); omega
    · show 0 ≤ 3 * ρ 0 + (-1 * ρ 6 + 0)
      (try rw [h0]); omega
    · show 0 ≤ -60 * ρ 0 + (1 * ρ 7 + 0)
      (try rw [h0]); omega
    · show 0 ≤ 60 * ρ 0 + (-1 * ρ 7 + 0)
      (try rw [h0]); omega
  · show sI M
    exact hI
-- signGend_c
def xr_199 : qRu := (10, [[(-1, 0), (1, 5)], [(1, 1)], [(-1, 0), (-1, 1), (1, 2)], [(1, 0), (1, 1), (-1, 2)], [(-62, 0), (1, 9)], [(62, 0), (-1, 9)]], [(4, 210, [(1, 0)]), (4, 211, [(1, 1)]), (4, 101, [(1, 2)]), (3, 46, [(1, 3)]), (3, 47, [(1, 4)]), (4, 100, [(1, 5)]), (3, 44, [(1, 6)]), (3, 45, [(1, 7)]), (4, 107, [(1, 8)]), (4, 212, [(1, 0)]), (4, 213, [(1, 9)])], [], [], [[(-1, 1), (1, 3)], [(1, 1), (-1, 3)], [(-1, 0), (-1, 1), (1, 4)], [(1, 0), (1, 1), (-1, 4)], [(-17, 0), (1, 6)], [(17, 0), (-1, 6)], [(1, 7), (-1, 8)], [(-1, 7), (1, 8)]])
theorem xo_199 : qRok xr_199 := by
  intro ρ M h0 hf hm hI
  have f0 := hf [(-1, 0), (1, 5)] (by decide)
  have f1 := hf [(1, 1)] (by decide)
  have f2 := hf [(-1, 0), (-1, 1), (1, 2)] (by decide)
  have f3 := hf [(1, 0), (1, 1), (-1, 2)] (by decide)
  have f4 := hf [(-62, 0), (1, 9)] (by decide)
  have f5 := hf [(62, 0), (-1, 9)] (by decide)
  simp only [qD, h0] at f0 f1 f2 f3 f4 f5
  have m0 : M 4 210 = 1 * ρ 0 + 0 := hm (4, 210, [(1, 0)]) (by decide)
  have m1 : M 4 211 = 1 * ρ 1 + 0 := hm (4, 211, [(1, 1)]) (by decide)
  have m2 : M 4 101 = 1 * ρ 2 + 0 := hm (4, 101, [(1, 2)]) (by decide)
  have m3 : M 3 46 = 1 * ρ 3 + 0 := hm (3, 46, [(1, 3)]) (by decide)
  have m4 : M 3 47 = 1 * ρ 4 + 0 := hm (3, 47, [(1, 4)]) (by decide)
  have m5 : M 4 100 = 1 * ρ 5 + 0 := hm (4, 100, [(1, 5)]) (by decide)
  have m6 : M 3 44 = 1 * ρ 6 + 0 := hm (3, 44, [(1, 6)]) (by decide)
  have m7 : M 3 45 = 1 * ρ 7 + 0 := hm (3, 45, [(1, 7)]) (by decide)
  have m8 : M 4 107 = 1 * ρ 8 + 0 := hm (4, 107, [(1, 8)]) (by decide)
  have m9 : M 4 212 = 1 * ρ 0 + 0 := hm (4, 212, [(1, 0)]) (by decide)
  have m10 : M 4 213 = 1 * ρ 9 + 0 := hm (4, 213, [(1, 9)]) (by decide)
  simp only [h0] at m0 m9
  obtain ⟨u1, u2, _⟩ := gx_xS8 hI (by omega)

  have hx : M 4 213 = M 92 (M 4 211).toNat := gx_xS9 hI (by omega)

  obtain ⟨t1, t2, t3, t4, t5, t6⟩ := tk_of hI (by omega) (by omega) (by omega) (show tAt (M 92) (M 4 101).toNat (M 4 211).toNat (M 4 107) (M 4 108) = (17, M 4 107, ((M 4 211).toNat : Int), ((M 4 211).toNat : Int) + 1, 3, 62) from by
    unfold tAt
    rw [if_neg (by omega), if_neg (by omega), if_neg (by omega), if_neg (by omega), if_neg (by omega), if_neg (by omega)]
    rw [show M 92 (M 4 211).toNat = 62 by omega]
    rfl)
  refine ⟨ρ, fun _ _ => rfl, fun f h => ?_, ?_⟩
  · have h : f ∈ ([[(-1, 1), (1, 3)], [(1, 1), (-1, 3)], [(-1, 0), (-1, 1), (1, 4)], [(1, 0), (1, 1), (-1, 4)], [(-17, 0), (1, 6)], [(17, 0), (-1, 6)], [(1, 7), (-1, 8)], [(-1, 7), (1, 8)]] : List qF) := h
    simp only [List.mem_cons, List.not_mem_nil, or_false] at h
    rcases h with rfl | rfl | rfl | rfl | rfl | rfl | rfl | rfl
    · show 0 ≤ -1 * ρ 1 + (1 * ρ 3 + 0)
      (try rw [h0]); omega
    · show 0 ≤ 1 * ρ 1 + (-1 * ρ 3 + 0)
      (try rw [h0]); omega
    · show 0 ≤ -1 * ρ 0 + (-1 * ρ 1 + (1 * ρ 4 + 0))
      (try rw [h0]); omega
    · show 0 ≤ 1 * ρ 0 + (1 * ρ 1 + (-1 * ρ 4 + 0))
      (try rw [h0]); omega
    · show 0 ≤ -17 * ρ 0 + (1 * ρ 6 + 0)
      (try rw [h0]); omega
    · show 0 ≤ 17 * ρ 0 + (-1 * ρ 6 + 0)
      (try rw [h0]); omega
    · show 0 ≤ 1 * ρ 7 + (-1 * ρ 8 + 0)
      (try rw [h0]); omega
    · show 0 ≤ -1 * ρ 7 + (1 * ρ 8 + 0)
      (try rw [h0]); omega
  · show sI M
    exact hI
-- signGend_r
def xr_200 : qRu := (10, [[(-1, 0), (1, 5)], [(1, 1)], [(-1, 0), (-1, 1), (1, 2)], [(1, 0), (1, 1), (-1, 2)], [(-62, 0), (1, 9)], [(62, 0), (-1, 9)]], [(4, 210, [(1, 0)]), (4, 211, [(1, 1)]), (4, 101, [(1, 2)]), (3, 46, [(1, 3)]), (3, 47, [(1, 4)]), (4, 100, [(1, 5)]), (3, 50, [(1, 6)]), (3, 51, [(1, 7)]), (4, 108, [(1, 8)]), (4, 212, [(1, 0)]), (4, 213, [(1, 9)])], [], [], [[(-1, 1), (1, 3)], [(1, 1), (-1, 3)], [(-1, 0), (-1, 1), (1, 4)], [(1, 0), (1, 1), (-1, 4)], [(-3, 0), (1, 6)], [(3, 0), (-1, 6)], [(-62, 0), (1, 7)], [(62, 0), (-1, 7)]])
theorem xo_200 : qRok xr_200 := by
  intro ρ M h0 hf hm hI
  have f0 := hf [(-1, 0), (1, 5)] (by decide)
  have f1 := hf [(1, 1)] (by decide)
  have f2 := hf [(-1, 0), (-1, 1), (1, 2)] (by decide)
  have f3 := hf [(1, 0), (1, 1), (-1, 2)] (by decide)
  have f4 := hf [(-62, 0), (1, 9)] (by decide)
  have f5 := hf [(62, 0), (-1, 9)] (by decide)
  simp only [qD, h0] at f0 f1 f2 f3 f4 f5
  have m0 : M 4 210 = 1 * ρ 0 + 0 := hm (4, 210, [(1, 0)]) (by decide)
  have m1 : M 4 211 = 1 * ρ 1 + 0 := hm (4, 211, [(1, 1)]) (by decide)
  have m2 : M 4 101 = 1 * ρ 2 + 0 := hm (4, 101, [(1, 2)]) (by decide)
  have m3 : M 3 46 = 1 * ρ 3 + 0 := hm (3, 46, [(1, 3)]) (by decide)
  have m4 : M 3 47 = 1 * ρ 4 + 0 := hm (3, 47, [(1, 4)]) (by decide)
  have m5 : M 4 100 = 1 * ρ 5 + 0 := hm (4, 100, [(1, 5)]) (by decide)
  have m6 : M 3 50 = 1 * ρ 6 + 0 := hm (3, 50, [(1, 6)]) (by decide)
  have m7 : M 3 51 = 1 * ρ 7 + 0 := hm (3, 51, [(1, 7)]) (by decide)
  have m8 : M 4 108 = 1 * ρ 8 + 0 := hm (4, 108, [(1, 8)]) (by decide)
  have m9 : M 4 212 = 1 * ρ 0 + 0 := hm (4, 212, [(1, 0)]) (by decide)
  have m10 : M 4 213 = 1 * ρ 9 + 0 := hm (4, 213, [(1, 9)]) (by decide)
  simp only [h0] at m0 m9
  obtain ⟨u1, u2, _⟩ := gx_xS8 hI (by omega)

  have hx : M 4 213 = M 92 (M 4 211).toNat := gx_xS9 hI (by omega)

  obtain ⟨t1, t2, t3, t4, t5, t6⟩ := tk_of hI (by omega) (by omega) (by omega) (show tAt (M 92) (M 4 101).toNat (M 4 211).toNat (M 4 107) (M 4 108) = (17, M 4 107, ((M 4 211).toNat : Int), ((M 4 211).toNat : Int) + 1, 3, 62) from by
    unfold tAt
    rw [if_neg (by omega), if_neg (by omega), if_neg (by omega), if_neg (by omega), if_neg (by omega), if_neg (by omega)]
    rw [show M 92 (M 4 211).toNat = 62 by omega]
    rfl)
  refine ⟨ρ, fun _ _ => rfl, fun f h => ?_, ?_⟩
  · have h : f ∈ ([[(-1, 1), (1, 3)], [(1, 1), (-1, 3)], [(-1, 0), (-1, 1), (1, 4)], [(1, 0), (1, 1), (-1, 4)], [(-3, 0), (1, 6)], [(3, 0), (-1, 6)], [(-62, 0), (1, 7)], [(62, 0), (-1, 7)]] : List qF) := h
    simp only [List.mem_cons, List.not_mem_nil, or_false] at h
    rcases h with rfl | rfl | rfl | rfl | rfl | rfl | rfl | rfl
    · show 0 ≤ -1 * ρ 1 + (1 * ρ 3 + 0)
      (try rw [h0]); omega
    · show 0 ≤ 1 * ρ 1 + (-1 * ρ 3 + 0)
      (try rw [h0]); omega
    · show 0 ≤ -1 * ρ 0 + (-1 * ρ 1 + (1 * ρ 4 + 0))
      (try rw [h0]); omega
    · show 0 ≤ 1 * ρ 0 + (1 * ρ 1 + (-1 * ρ 4 + 0))
      (try rw [h0]); omega
    · show 0 ≤ -3 * ρ 0 + (1 * ρ 6 + 0)
      (try rw [h0]); omega
    · show 0 ≤ 3 * ρ 0 + (-1 * ρ 6 + 0)
      (try rw [h0]); omega
    · show 0 ≤ -62 * ρ 0 + (1 * ρ 7 + 0)
      (try rw [h0]); omega
    · show 0 ≤ 62 * ρ 0 + (-1 * ρ 7 + 0)
      (try rw [h0]); omega
  · show sI M
    exact hI
-- wBegin
def xr_201 : qRu := (5, [[(-1, 0), (1, 4)], [(-97, 0), (1, 2)], [(122, 0), (-1, 2)], [(1, 1)], [(-1, 0), (-1, 1), (1, 3)]], [(4, 100, [(1, 4)]), (4, 210, [(1, 0)]), (4, 212, [(1, 0)]), (4, 214, []), (4, 235, []), (4, 226, []), (4, 211, [(1, 1)]), (4, 213, [(1, 2)]), (4, 101, [(1, 3)])], [], [(4, 214, [(1, 0)]), (4, 215, [(1, 1)]), (4, 216, [(1, 1)]), (4, 217, [(1, 5)]), (4, 218, []), (4, 219, [(1, 6)]), (4, 235, [(1, 0)])], [[(-1, 0), (-1, 1), (1, 5)], [(1, 3), (-1, 5)]])
theorem xo_201 : qRok xr_201 := by
  intro ρ M h0 hf hm hI
  have f0 := hf [(-1, 0), (1, 4)] (by decide)
  have f1 := hf [(-97, 0), (1, 2)] (by decide)
  have f2 := hf [(122, 0), (-1, 2)] (by decide)
  have f3 := hf [(1, 1)] (by decide)
  have f4 := hf [(-1, 0), (-1, 1), (1, 3)] (by decide)
  simp only [qD, h0] at f0 f1 f2 f3 f4
  have m0 : M 4 100 = 1 * ρ 4 + 0 := hm (4, 100, [(1, 4)]) (by decide)
  have m1 : M 4 210 = 1 * ρ 0 + 0 := hm (4, 210, [(1, 0)]) (by decide)
  have m2 : M 4 212 = 1 * ρ 0 + 0 := hm (4, 212, [(1, 0)]) (by decide)
  have m3 : M 4 214 = 0 := hm (4, 214, []) (by decide)
  have m4 : M 4 235 = 0 := hm (4, 235, []) (by decide)
  have m5 : M 4 226 = 0 := hm (4, 226, []) (by decide)
  have m6 : M 4 211 = 1 * ρ 1 + 0 := hm (4, 211, [(1, 1)]) (by decide)
  have m7 : M 4 213 = 1 * ρ 2 + 0 := hm (4, 213, [(1, 2)]) (by decide)
  have m8 : M 4 101 = 1 * ρ 3 + 0 := hm (4, 101, [(1, 3)]) (by decide)
  simp only [h0] at m1 m2
  have qxSA := hI.2.2.2.2.2.2.2.2.2.2.2.2.2.2.2.2.2.2.2.2.2.2.2.2.2.2.2.2.2.2.1
  have qxSG := hI.2.2.2.2.2.2.2.2.2.2.2.2.2.2.2.2.2.2.2.2.2.2.2.2.2.2.2.2.2.2.2.1
  have hx : M 4 213 = M 92 (M 4 211).toNat := gx_xS9 hI (by omega)
  have e2 := ten_on (g := M 92) (lo := 97) (hi := 122) (n := (M 4 101).toNat) (p := (M 4 211).toNat) (by omega) (by omega)
  have e3 := ten_b (M 92) 97 122 (n := (M 4 101).toNat) (p := (M 4 211).toNat + 1) (by omega)
  refine ⟨fun a => cond (Nat.blt a 5) (ρ a) (([((tEn (M 92) 97 122 (M 4 101).toNat (M 4 211).toNat : Nat) : Int), tPk (M 92) (M 4 211).toNat (tEn (M 92) 97 122 (M 4 101).toNat (M 4 211).toNat - (M 4 211).toNat)] : List Int).getD (a - 5) 0), fun a ha => ?_, fun f h => ?_, ?_⟩
  · show cond (Nat.blt a 5) (ρ a) _ = ρ a
    rw [show Nat.blt a 5 = true from Nat.ble_eq_true_of_le ha]; rfl
  · have h : f ∈ ([[(-1, 0), (-1, 1), (1, 5)], [(1, 3), (-1, 5)]] : List qF) := h
    simp only [List.mem_cons, List.not_mem_nil, or_false] at h
    rcases h with rfl | rfl
    · show 0 ≤ -1 * ρ 0 + (-1 * ρ 1 + (1 * (((tEn (M 92) 97 122 (M 4 101).toNat (M 4 211).toNat : Nat) : Int)) + 0))
      (try rw [h0]); omega
    · show 0 ≤ 1 * ρ 3 + (-1 * (((tEn (M 92) 97 122 (M 4 101).toNat (M 4 211).toNat : Nat) : Int)) + 0)
      (try rw [h0]); omega
  · show sI (sU (sU (sU (sU (sU (sU (sU M 4 214 (1 * ρ 0 + 0)) 4 215 (1 * ρ 1 + 0)) 4 216 (1 * ρ 1 + 0)) 4 217 (1 * (((tEn (M 92) 97 122 (M 4 101).toNat (M 4 211).toNat : Nat) : Int)) + 0)) 4 218 (0)) 4 219 (1 * (tPk (M 92) (M 4 211).toNat (tEn (M 92) 97 122 (M 4 101).toNat (M 4 211).toNat - (M 4 211).toNat)) + 0)) 4 235 (1 * ρ 0 + 0))
    obtain ⟨W, hW⟩ : ∃ W, W = (sU (sU (sU (sU (sU (sU (sU M 4 214 (1 * ρ 0 + 0)) 4 215 (1 * ρ 1 + 0)) 4 216 (1 * ρ 1 + 0)) 4 217 (1 * (((tEn (M 92) 97 122 (M 4 101).toNat (M 4 211).toNat : Nat) : Int)) + 0)) 4 218 (0)) 4 219 (1 * (tPk (M 92) (M 4 211).toNat (tEn (M 92) 97 122 (M 4 101).toNat (M 4 211).toNat - (M 4 211).toNat)) + 0)) 4 235 (1 * ρ 0 + 0)) := ⟨_, rfl⟩
    rw [← hW]
    have base : sI0 W := by
      rw [hW]
      exact (si_u0 (si_u0 (si_u0 (si_u0 (si_u0 (si_u0 (si_u0 hI.1 (fun r hr => by cases hr)) (fun r hr => by cases hr)) (fun r hr => by cases hr)) (fun r hr => by cases hr)) (fun r hr => by cases hr)) (fun r hr => by cases hr)) (fun r hr => by cases hr))
    have k2 : XI2 W := by
      rw [hW]
      exact (xi2_u rfl (xi2_u rfl (xi2_u rfl (xi2_u rfl (xi2_u rfl (xi2_u rfl (xi2_u rfl hI.2.1)))))))
    have k3 : XI3 W := by
      rw [hW]
      exact (xi3_u rfl (xi3_u rfl (xi3_u rfl (xi3_u rfl (xi3_u rfl (xi3_u rfl (xi3_u rfl hI.2.2.1)))))))
    have kXA : XA W := by
      rw [hW]
      exact (uXA rfl (uXA rfl (uXA rfl (uXA rfl (uXA rfl (uXA rfl (uXA rfl hI.2.2.2.1)))))))
    have k_xN1 : xN1 W := by
      rw [hW]
      exact (uxN1 rfl (uxN1 rfl (uxN1 rfl (uxN1 rfl (uxN1 rfl (uxN1 rfl (uxN1 rfl hI.2.2.2.2.1)))))))
    have k_xN2 : xN2 W := by
      rw [hW]
      exact (uxN2 rfl (uxN2 rfl (uxN2 rfl (uxN2 rfl (uxN2 rfl (uxN2 rfl (uxN2 rfl hI.2.2.2.2.2.1)))))))
    have k_xN3 : xN3 W := by
      rw [hW]
      exact (uxN3 rfl (uxN3 rfl (uxN3 rfl (uxN3 rfl (uxN3 rfl (uxN3 rfl (uxN3 rfl hI.2.2.2.2.2.2.1)))))))
    have k_xN4 : xN4 W := by
      rw [hW]
      exact (uxN4 rfl (uxN4 rfl (uxN4 rfl (uxN4 rfl (uxN4 rfl (uxN4 rfl (uxN4 rfl hI.2.2.2.2.2.2.2.1)))))))
    have k_xN5 : xN5 W := by
      rw [hW]
      exact (uxN5 rfl (uxN5 rfl (uxN5 rfl (uxN5 rfl (uxN5 rfl (uxN5 rfl (uxN5 rfl hI.2.2.2.2.2.2.2.2.1)))))))
    have k_xN6 : xN6 W := by
      rw [hW]
      exact (uxN6 rfl (uxN6 rfl (uxN6 rfl (uxN6 rfl (uxN6 rfl (uxN6 rfl (uxN6 rfl hI.2.2.2.2.2.2.2.2.2.1)))))))
    have k_xH1 : xH1 W := by
      rw [hW]
      exact (uxH1 rfl (uxH1 rfl (uxH1 rfl (uxH1 rfl (uxH1 rfl (uxH1 rfl (uxH1 rfl hI.2.2.2.2.2.2.2.2.2.2.1)))))))
    have k_xK1 : xK1 W := by
      rw [hW]
      exact (uxK1 rfl (uxK1 rfl (uxK1 rfl (uxK1 rfl (uxK1 rfl (uxK1 rfl (uxK1 rfl hI.2.2.2.2.2.2.2.2.2.2.2.1)))))))
    have k_xC1 : xC1 W := by
      rw [hW]
      exact (uxC1 rfl (uxC1 rfl (uxC1 rfl (uxC1 rfl (uxC1 rfl (uxC1 rfl (uxC1 rfl hI.2.2.2.2.2.2.2.2.2.2.2.2.1)))))))
    have k_xRW : xRW W := by
      rw [hW]
      exact (uxRW rfl (uxRW rfl (uxRW rfl (uxRW rfl (uxRW rfl (uxRW rfl (uxRW rfl hI.2.2.2.2.2.2.2.2.2.2.2.2.2.1)))))))
    have k_xWT : xWT W := by
      rw [hW]
      exact (uxWT rfl (uxWT rfl (uxWT rfl (uxWT rfl (uxWT rfl (uxWT rfl (uxWT rfl hI.2.2.2.2.2.2.2.2.2.2.2.2.2.2.1)))))))
    have k_xCU : xCU W := by
      rw [hW]
      exact (uxCU rfl (uxCU rfl (uxCU rfl (uxCU rfl (uxCU rfl (uxCU rfl (uxCU rfl hI.2.2.2.2.2.2.2.2.2.2.2.2.2.2.2.1)))))))
    have k_xG2 : xG2 W := by
      rw [hW]
      exact (uxG2 rfl (uxG2 rfl (uxG2 rfl (uxG2 rfl (uxG2 rfl (uxG2 rfl (uxG2 rfl hI.2.2.2.2.2.2.2.2.2.2.2.2.2.2.2.2.1)))))))
    have k_xG3 : xG3 W := by
      rw [hW]
      exact (uxG3 rfl (uxG3 rfl (uxG3 rfl (uxG3 rfl (uxG3 rfl (uxG3 rfl (uxG3 rfl hI.2.2.2.2.2.2.2.2.2.2.2.2.2.2.2.2.2.1)))))))
    have k_xG4 : xG4 W := by
      rw [hW]
      exact (uxG4 rfl (uxG4 rfl (uxG4 rfl (uxG4 rfl (uxG4 rfl (uxG4 rfl (uxG4 rfl hI.2.2.2.2.2.2.2.2.2.2.2.2.2.2.2.2.2.2.1)))))))
    have k_xG5 : xG5 W := by
      rw [hW]
      exact (uxG5 rfl (uxG5 rfl (uxG5 rfl (uxG5 rfl (uxG5 rfl (uxG5 rfl (uxG5 rfl hI.2.2.2.2.2.2.2.2.2.2.2.2.2.2.2.2.2.2.2.1)))))))
    have k_xG6 : xG6 W := by
      rw [hW]
      exact (uxG6 rfl (uxG6 rfl (uxG6 rfl (uxG6 rfl (uxG6 rfl (uxG6 rfl (uxG6 rfl hI.2.2.2.2.2.2.2.2.2.2.2.2.2.2.2.2.2.2.2.2.1)))))))
    have k_xS1 : xS1 W := by
      rw [hW]
      exact (uxS1 rfl (uxS1 rfl (uxS1 rfl (uxS1 rfl (uxS1 rfl (uxS1 rfl (uxS1 rfl hI.2.2.2.2.2.2.2.2.2.2.2.2.2.2.2.2.2.2.2.2.2.1)))))))
    have k_xS2 : xS2 W := by
      rw [hW]
      exact (uxS2 rfl (uxS2 rfl (uxS2 rfl (uxS2 rfl (uxS2 rfl (uxS2 rfl (uxS2 rfl hI.2.2.2.2.2.2.2.2.2.2.2.2.2.2.2.2.2.2.2.2.2.2.1)))))))
    have k_xS3 : xS3 W := by
      rw [hW]
      exact (uxS3 rfl (uxS3 rfl (uxS3 rfl (uxS3 rfl (uxS3 rfl (uxS3 rfl (uxS3 rfl hI.2.2.2.2.2.2.2.2.2.2.2.2.2.2.2.2.2.2.2.2.2.2.2.1)))))))
    have k_xS4 : xS4 W := by
      rw [hW]
      exact (uxS4 rfl (uxS4 rfl (uxS4 rfl (uxS4 rfl (uxS4 rfl (uxS4 rfl (uxS4 rfl hI.2.2.2.2.2.2.2.2.2.2.2.2.2.2.2.2.2.2.2.2.2.2.2.2.1)))))))
    have k_xS5 : xS5 W := by
      rw [hW]
      exact (uxS5 rfl (uxS5 rfl (uxS5 rfl (uxS5 rfl (uxS5 rfl (uxS5 rfl (uxS5 rfl hI.2.2.2.2.2.2.2.2.2.2.2.2.2.2.2.2.2.2.2.2.2.2.2.2.2.1)))))))
    have k_xS6 : xS6 W := by
      rw [hW]
      exact (uxS6 rfl (uxS6 rfl (uxS6 rfl (uxS6 rfl (uxS6 rfl (uxS6 rfl (uxS6 rfl hI.2.2.2.2.2.2.2.2.2.2.2.2.2.2.2.2.2.2.2.2.2.2.2.2.2.2.1)))))))
    have k_xS7 : xS7 W := by
      rw [hW]
      exact (uxS7 rfl (uxS7 rfl (uxS7 rfl (uxS7 rfl (uxS7 rfl (uxS7 rfl (uxS7 rfl hI.2.2.2.2.2.2.2.2.2.2.2.2.2.2.2.2.2.2.2.2.2.2.2.2.2.2.2.1)))))))
    have k_xS8 : xS8 W := by
      rw [hW]
      exact (uxS8 rfl (uxS8 rfl (uxS8 rfl (uxS8 rfl (uxS8 rfl (uxS8 rfl (uxS8 rfl hI.2.2.2.2.2.2.2.2.2.2.2.2.2.2.2.2.2.2.2.2.2.2.2.2.2.2.2.2.1)))))))
    have k_xS9 : xS9 W := by
      rw [hW]
      exact (uxS9 rfl (uxS9 rfl (uxS9 rfl (uxS9 rfl (uxS9 rfl (uxS9 rfl (uxS9 rfl hI.2.2.2.2.2.2.2.2.2.2.2.2.2.2.2.2.2.2.2.2.2.2.2.2.2.2.2.2.2.1)))))))
    have k_xSA : xSA W := by
      have r4_214 : W 4 214 = 1 * ρ 0 + 0 := by rw [hW, sU_ne (fun z => by omega), sU_ne (fun z => by omega), sU_ne (fun z => by omega), sU_ne (fun z => by omega), sU_ne (fun z => by omega), sU_ne (fun z => by omega), sU_at]
      have r4_215 : W 4 215 = 1 * ρ 1 + 0 := by rw [hW, sU_ne (fun z => by omega), sU_ne (fun z => by omega), sU_ne (fun z => by omega), sU_ne (fun z => by omega), sU_ne (fun z => by omega), sU_at]
      have r4_216 : W 4 216 = 1 * ρ 1 + 0 := by rw [hW, sU_ne (fun z => by omega), sU_ne (fun z => by omega), sU_ne (fun z => by omega), sU_ne (fun z => by omega), sU_at]
      have r4_217 : W 4 217 = 1 * (((tEn (M 92) 97 122 (M 4 101).toNat (M 4 211).toNat : Nat) : Int)) + 0 := by rw [hW, sU_ne (fun z => by omega), sU_ne (fun z => by omega), sU_ne (fun z => by omega), sU_at]
      have r4_219 : W 4 219 = 1 * (tPk (M 92) (M 4 211).toNat (tEn (M 92) 97 122 (M 4 101).toNat (M 4 211).toNat - (M 4 211).toNat)) + 0 := by rw [hW, sU_ne (fun z => by omega), sU_at]
      have r4_101 : W 4 101 = M 4 101 := by rw [hW, sU_ne (fun z => by omega), sU_ne (fun z => by omega), sU_ne (fun z => by omega), sU_ne (fun z => by omega), sU_ne (fun z => by omega), sU_ne (fun z => by omega), sU_ne (fun z => by omega)]
      have c92 : ∀ k, W 92 k = M 92 k := fun k => by rw [hW, sU_ne (fun z => by omega), sU_ne (fun z => by omega), sU_ne (fun z => by omega), sU_ne (fun z => by omega), sU_ne (fun z => by omega), sU_ne (fun z => by omega), sU_ne (fun z => by omega)]
      have e92 : W 92 = M 92 := funext c92
      intro h
      rw [r4_215, r4_216, r4_217, r4_219, r4_101, e92, show (1 * ρ 1 + 0).toNat = (M 4 211).toNat by omega]
      refine ⟨by omega, by omega, by omega, by omega, by omega, by omega, ?_⟩
      rw [show (1 * (((tEn (M 92) 97 122 (M 4 101).toNat (M 4 211).toNat : Nat) : Int)) + 0 - (1 * ρ 1 + 0)).toNat = tEn (M 92) 97 122 (M 4 101).toNat (M 4 211).toNat - (M 4 211).toNat by omega]
      omega
    have k_xSG : xSG W := by
      have r4_235 : W 4 235 = 1 * ρ 0 + 0 := by rw [hW, sU_at]
      have r4_218 : W 4 218 = 0 := by rw [hW, sU_ne (fun z => by omega), sU_ne (fun z => by omega), sU_at]
      have r4_215 : W 4 215 = 1 * ρ 1 + 0 := by rw [hW, sU_ne (fun z => by omega), sU_ne (fun z => by omega), sU_ne (fun z => by omega), sU_ne (fun z => by omega), sU_ne (fun z => by omega), sU_at]
      have r4_216 : W 4 216 = 1 * ρ 1 + 0 := by rw [hW, sU_ne (fun z => by omega), sU_ne (fun z => by omega), sU_ne (fun z => by omega), sU_ne (fun z => by omega), sU_at]
      have c92 : ∀ k, W 92 k = M 92 k := fun k => by rw [hW, sU_ne (fun z => by omega), sU_ne (fun z => by omega), sU_ne (fun z => by omega), sU_ne (fun z => by omega), sU_ne (fun z => by omega), sU_ne (fun z => by omega), sU_ne (fun z => by omega)]
      have e92 : W 92 = M 92 := funext c92
      intro h
      rw [r4_218, r4_215, r4_216, e92, show ((1 * ρ 1 + 0) - (1 * ρ 1 + 0) : Int).toNat = 0 by omega]
      rfl
    have k_xSF : xSF W := by
      rw [hW]
      exact (uxSF rfl (uxSF rfl (uxSF rfl (uxSF rfl (uxSF rfl (uxSF rfl (uxSF rfl hI.2.2.2.2.2.2.2.2.2.2.2.2.2.2.2.2.2.2.2.2.2.2.2.2.2.2.2.2.2.2.2.2.1)))))))
    have k_xSB : xSB W := by
      rw [hW]
      exact (uxSB rfl (uxSB rfl (uxSB rfl (uxSB rfl (uxSB rfl (uxSB rfl (uxSB rfl hI.2.2.2.2.2.2.2.2.2.2.2.2.2.2.2.2.2.2.2.2.2.2.2.2.2.2.2.2.2.2.2.2.2.1)))))))
    have k_xSC : xSC W := by
      have r : W 4 226 = 0 := by
        have e := m5
        rw [hW, sU_ne (fun z => by omega), sU_ne (fun z => by omega), sU_ne (fun z => by omega), sU_ne (fun z => by omega), sU_ne (fun z => by omega), sU_ne (fun z => by omega), sU_ne (fun z => by omega)]
        omega
      intro h
      rw [r] at h
      omega
    have k_xSD : xSD W := by
      rw [hW]
      exact (uxSD rfl (uxSD rfl (uxSD rfl (uxSD rfl (uxSD rfl (uxSD rfl (uxSD rfl hI.2.2.2.2.2.2.2.2.2.2.2.2.2.2.2.2.2.2.2.2.2.2.2.2.2.2.2.2.2.2.2.2.2.2.2.1)))))))
    have k_xSE : xSE W := by
      rw [hW]
      exact (uxSE rfl (uxSE rfl (uxSE rfl (uxSE rfl (uxSE rfl (uxSE rfl (uxSE rfl hI.2.2.2.2.2.2.2.2.2.2.2.2.2.2.2.2.2.2.2.2.2.2.2.2.2.2.2.2.2.2.2.2.2.2.2.2.1)))))))
    have k_xSW : xSW W := by
      rw [hW]
      exact (uxSW rfl (uxSW rfl (uxSW rfl (uxSW rfl (uxSW rfl (uxSW rfl (uxSW rfl hI.2.2.2.2.2.2.2.2.2.2.2.2.2.2.2.2.2.2.2.2.2.2.2.2.2.2.2.2.2.2.2.2.2.2.2.2.2.1)))))))
    have k_xST : xST W := by
      rw [hW]
      exact (uxST rfl (uxST rfl (uxST rfl (uxST rfl (uxST rfl (uxST rfl (uxST rfl hI.2.2.2.2.2.2.2.2.2.2.2.2.2.2.2.2.2.2.2.2.2.2.2.2.2.2.2.2.2.2.2.2.2.2.2.2.2.2.1)))))))
    have k_xSP : xSP W := by
      rw [hW]
      exact (uxSP rfl (uxSP rfl (uxSP rfl (uxSP rfl (uxSP rfl (uxSP rfl (uxSP rfl hI.2.2.2.2.2.2.2.2.2.2.2.2.2.2.2.2.2.2.2.2.2.2.2.2.2.2.2.2.2.2.2.2.2.2.2.2.2.2.2.1)))))))
    have k_xSL : xSL W := by
      rw [hW]
      exact (uxSL rfl (uxSL rfl (uxSL rfl (uxSL rfl (uxSL rfl (uxSL rfl (uxSL rfl hI.2.2.2.2.2.2.2.2.2.2.2.2.2.2.2.2.2.2.2.2.2.2.2.2.2.2.2.2.2.2.2.2.2.2.2.2.2.2.2.2.1)))))))
    have k_xSM : xSM W := by
      rw [hW]
      exact (uxSM rfl (uxSM rfl (uxSM rfl (uxSM rfl (uxSM rfl (uxSM rfl (uxSM rfl hI.2.2.2.2.2.2.2.2.2.2.2.2.2.2.2.2.2.2.2.2.2.2.2.2.2.2.2.2.2.2.2.2.2.2.2.2.2.2.2.2.2.1)))))))
    have k_xSI : xSI W := by
      rw [hW]
      exact (uxSI rfl (uxSI rfl (uxSI rfl (uxSI rfl (uxSI rfl (uxSI rfl (uxSI rfl hI.2.2.2.2.2.2.2.2.2.2.2.2.2.2.2.2.2.2.2.2.2.2.2.2.2.2.2.2.2.2.2.2.2.2.2.2.2.2.2.2.2.2)))))))
    have k_XC : XC W := ⟨k_xS1, k_xS2, k_xS3, k_xS4, k_xS5, k_xS6, k_xS7, k_xS8, k_xS9, k_xSA, k_xSG, k_xSF, k_xSB, k_xSC, k_xSD, k_xSE, k_xSW, k_xST, k_xSP, k_xSL, k_xSM, k_xSI⟩
    have kXB : XB W := ⟨k_xN1, k_xN2, k_xN3, k_xN4, k_xN5, k_xN6, k_xH1, k_xK1, k_xC1, k_xRW, k_xWT, k_xCU, k_xG2, k_xG3, k_xG4, k_xG5, k_xG6, k_XC⟩
    exact ⟨base, k2, k3, kXA, kXB⟩
-- wOn0
def xr_202 : qRu := (7, [[(-1, 0), (-1, 2), (1, 5)], [(-97, 0), (1, 6)], [(122, 0), (-1, 6)], [(-1, 1), (1, 2)], [(1, 1), (-1, 2)]], [(4, 100, [(1, 0)]), (4, 214, [(1, 0)]), (4, 215, [(1, 1)]), (4, 216, [(1, 2)]), (4, 217, [(1, 3)]), (4, 101, [(1, 5)]), (4, 235, [(1, 0)]), (4, 218, [(1, 4)]), (1, 1002, [(1, 6)])], [], [(4, 216, [(1, 0), (1, 2)]), (4, 218, [(-3221225472, 0), (1, 4), (33554432, 6)])], [[(-1, 0), (-1, 2), (1, 3)]])
theorem xo_202 : qRok xr_202 := by
  intro ρ M h0 hf hm hI
  have f0 := hf [(-1, 0), (-1, 2), (1, 5)] (by decide)
  have f1 := hf [(-97, 0), (1, 6)] (by decide)
  have f2 := hf [(122, 0), (-1, 6)] (by decide)
  have f3 := hf [(-1, 1), (1, 2)] (by decide)
  have f4 := hf [(1, 1), (-1, 2)] (by decide)
  simp only [qD, h0] at f0 f1 f2 f3 f4
  have m0 : M 4 100 = 1 * ρ 0 + 0 := hm (4, 100, [(1, 0)]) (by decide)
  have m1 : M 4 214 = 1 * ρ 0 + 0 := hm (4, 214, [(1, 0)]) (by decide)
  have m2 : M 4 215 = 1 * ρ 1 + 0 := hm (4, 215, [(1, 1)]) (by decide)
  have m3 : M 4 216 = 1 * ρ 2 + 0 := hm (4, 216, [(1, 2)]) (by decide)
  have m4 : M 4 217 = 1 * ρ 3 + 0 := hm (4, 217, [(1, 3)]) (by decide)
  have m5 : M 4 101 = 1 * ρ 5 + 0 := hm (4, 101, [(1, 5)]) (by decide)
  have m6 : M 4 235 = 1 * ρ 0 + 0 := hm (4, 235, [(1, 0)]) (by decide)
  have m7 : M 4 218 = 1 * ρ 4 + 0 := hm (4, 218, [(1, 4)]) (by decide)
  have m8 : M 1 (zIx ρ (1000 + 2)) = 1 * ρ 6 + 0 := hm (1, 1002, [(1, 6)]) (by decide)
  rw [zix_p] at m8
  simp only [h0] at m0 m1 m6
  have qxSA := hI.2.2.2.2.2.2.2.2.2.2.2.2.2.2.2.2.2.2.2.2.2.2.2.2.2.2.2.2.2.2.1
  have qxSG := hI.2.2.2.2.2.2.2.2.2.2.2.2.2.2.2.2.2.2.2.2.2.2.2.2.2.2.2.2.2.2.2.1
  obtain ⟨u1, u2, u3, u4, u5, u6, u7⟩ := gx_xSA hI (by omega)

  have hx : 97 ≤ M 92 (M 4 216).toNat ∧ M 92 (M 4 216).toNat ≤ 122 := by rw [show (M 4 216).toNat = (ρ 2).toNat by omega]; have hb := xs_by hI (by omega) (k := (ρ 2).toNat) (by omega); omega
  have e2 := ten_on (g := M 92) (lo := 97) (hi := 122) (n := (M 4 101).toNat) (p := (M 4 216).toNat) (by omega) hx
  have e3 := ten_b (M 92) 97 122 (n := (M 4 101).toNat) (p := (M 4 216).toNat + 1) (by omega)
  refine ⟨ρ, fun _ _ => rfl, fun f h => ?_, ?_⟩
  · have h : f ∈ ([[(-1, 0), (-1, 2), (1, 3)]] : List qF) := h
    simp only [List.mem_cons, List.not_mem_nil, or_false] at h
    rcases h with rfl
    · show 0 ≤ -1 * ρ 0 + (-1 * ρ 2 + (1 * ρ 3 + 0))
      (try rw [h0]); omega
  · show sI (sU (sU M 4 216 (1 * ρ 0 + (1 * ρ 2 + 0))) 4 218 (-3221225472 * ρ 0 + (1 * ρ 4 + (33554432 * ρ 6 + 0))))
    obtain ⟨W, hW⟩ : ∃ W, W = (sU (sU M 4 216 (1 * ρ 0 + (1 * ρ 2 + 0))) 4 218 (-3221225472 * ρ 0 + (1 * ρ 4 + (33554432 * ρ 6 + 0)))) := ⟨_, rfl⟩
    rw [← hW]
    have base : sI0 W := by
      rw [hW]
      exact (si_u0 (si_u0 hI.1 (fun r hr => by cases hr)) (fun r hr => by cases hr))
    have k2 : XI2 W := by
      rw [hW]
      exact (xi2_u rfl (xi2_u rfl hI.2.1))
    have k3 : XI3 W := by
      rw [hW]
      exact (xi3_u rfl (xi3_u rfl hI.2.2.1))
    have kXA : XA W := by
      rw [hW]
      exact (uXA rfl (uXA rfl hI.2.2.2.1))
    have k_xN1 : xN1 W := by
      rw [hW]
      exact (uxN1 rfl (uxN1 rfl hI.2.2.2.2.1))
    have k_xN2 : xN2 W := by
      rw [hW]
      exact (uxN2 rfl (uxN2 rfl hI.2.2.2.2.2.1))
    have k_xN3 : xN3 W := by
      rw [hW]
      exact (uxN3 rfl (uxN3 rfl hI.2.2.2.2.2.2.1))
    have k_xN4 : xN4 W := by
      rw [hW]
      exact (uxN4 rfl (uxN4 rfl hI.2.2.2.2.2.2.2.1))
    have k_xN5 : xN5 W := by
      rw [hW]
      exact (uxN5 rfl (uxN5 rfl hI.2.2.2.2.2.2.2.2.1))
    have k_xN6 : xN6 W := by
      rw [hW]
      exact (uxN6 rfl (uxN6 rfl hI.2.2.2.2.2.2.2.2.2.1))
    have k_xH1 : xH1 W := by
      rw [hW]
      exact (uxH1 rfl (uxH1 rfl hI.2.2.2.2.2.2.2.2.2.2.1))
    have k_xK1 : xK1 W := by
      rw [hW]
      exact (uxK1 rfl (uxK1 rfl hI.2.2.2.2.2.2.2.2.2.2.2.1))
    have k_xC1 : xC1 W := by
      rw [hW]
      exact (uxC1 rfl (uxC1 rfl hI.2.2.2.2.2.2.2.2.2.2.2.2.1))
    have k_xRW : xRW W := by
      rw [hW]
      exact (uxRW rfl (uxRW rfl hI.2.2.2.2.2.2.2.2.2.2.2.2.2.1))
    have k_xWT : xWT W := by
      rw [hW]
      exact (uxWT rfl (uxWT rfl hI.2.2.2.2.2.2.2.2.2.2.2.2.2.2.1))
    have k_xCU : xCU W := by
      rw [hW]
      exact (uxCU rfl (uxCU rfl hI.2.2.2.2.2.2.2.2.2.2.2.2.2.2.2.1))
    have k_xG2 : xG2 W := by
      rw [hW]
      exact (uxG2 rfl (uxG2 rfl hI.2.2.2.2.2.2.2.2.2.2.2.2.2.2.2.2.1))
    have k_xG3 : xG3 W := by
      rw [hW]
      exact (uxG3 rfl (uxG3 rfl hI.2.2.2.2.2.2.2.2.2.2.2.2.2.2.2.2.2.1))
    have k_xG4 : xG4 W := by
      rw [hW]
      exact (uxG4 rfl (uxG4 rfl hI.2.2.2.2.2.2.2.2.2.2.2.2.2.2.2.2.2.2.1))
    have k_xG5 : xG5 W := by
      rw [hW]
      exact (uxG5 rfl (uxG5 rfl hI.2.2.2.2.2.2.2.2.2.2.2.2.2.2.2.2.2.2.2.1))
    have k_xG6 : xG6 W := by
      rw [hW]
      exact (uxG6 rfl (uxG6 rfl hI.2.2.2.2.2.2.2.2.2.2.2.2.2.2.2.2.2.2.2.2.1))
    have k_xS1 : xS1 W := by
      rw [hW]
      exact (uxS1 rfl (uxS1 rfl hI.2.2.2.2.2.2.2.2.2.2.2.2.2.2.2.2.2.2.2.2.2.1))
    have k_xS2 : xS2 W := by
      rw [hW]
      exact (uxS2 rfl (uxS2 rfl hI.2.2.2.2.2.2.2.2.2.2.2.2.2.2.2.2.2.2.2.2.2.2.1))
    have k_xS3 : xS3 W := by
      rw [hW]
      exact (uxS3 rfl (uxS3 rfl hI.2.2.2.2.2.2.2.2.2.2.2.2.2.2.2.2.2.2.2.2.2.2.2.1))
    have k_xS4 : xS4 W := by
      rw [hW]
      exact (uxS4 rfl (uxS4 rfl hI.2.2.2.2.2.2.2.2.2.2.2.2.2.2.2.2.2.2.2.2.2.2.2.2.1))
    have k_xS5 : xS5 W := by
      rw [hW]
      exact (uxS5 rfl (uxS5 rfl hI.2.2.2.2.2.2.2.2.2.2.2.2.2.2.2.2.2.2.2.2.2.2.2.2.2.1))
    have k_xS6 : xS6 W := by
      rw [hW]
      exact (uxS6 rfl (uxS6 rfl hI.2.2.2.2.2.2.2.2.2.2.2.2.2.2.2.2.2.2.2.2.2.2.2.2.2.2.1))
    have k_xS7 : xS7 W := by
      rw [hW]
      exact (uxS7 rfl (uxS7 rfl hI.2.2.2.2.2.2.2.2.2.2.2.2.2.2.2.2.2.2.2.2.2.2.2.2.2.2.2.1))
    have k_xS8 : xS8 W := by
      rw [hW]
      exact (uxS8 rfl (uxS8 rfl hI.2.2.2.2.2.2.2.2.2.2.2.2.2.2.2.2.2.2.2.2.2.2.2.2.2.2.2.2.1))
    have k_xS9 : xS9 W := by
      rw [hW]
      exact (uxS9 rfl (uxS9 rfl hI.2.2.2.2.2.2.2.2.2.2.2.2.2.2.2.2.2.2.2.2.2.2.2.2.2.2.2.2.2.1))
    have k_xSA : xSA W := by
      have r4_214 : W 4 214 = M 4 214 := by rw [hW, sU_ne (fun z => by omega), sU_ne (fun z => by omega)]
      have r4_215 : W 4 215 = M 4 215 := by rw [hW, sU_ne (fun z => by omega), sU_ne (fun z => by omega)]
      have r4_216 : W 4 216 = 1 * ρ 0 + (1 * ρ 2 + 0) := by rw [hW, sU_ne (fun z => by omega), sU_at]
      have r4_217 : W 4 217 = M 4 217 := by rw [hW, sU_ne (fun z => by omega), sU_ne (fun z => by omega)]
      have r4_219 : W 4 219 = M 4 219 := by rw [hW, sU_ne (fun z => by omega), sU_ne (fun z => by omega)]
      have r4_101 : W 4 101 = M 4 101 := by rw [hW, sU_ne (fun z => by omega), sU_ne (fun z => by omega)]
      have c92 : ∀ k, W 92 k = M 92 k := fun k => by rw [hW, sU_ne (fun z => by omega), sU_ne (fun z => by omega)]
      have e92 : W 92 = M 92 := funext c92
      intro h
      rw [r4_215, r4_216, r4_217, r4_219, r4_101, e92]
      have s1 : (1 * ρ 0 + (1 * ρ 2 + 0)).toNat = (M 4 216).toNat + 1 := by rw [h0]; omega
      rw [s1]
      refine ⟨by omega, by rw [h0]; omega, by rw [h0]; omega, by omega, by omega, by omega, by omega⟩
    have k_xSG : xSG W := by
      have r4_235 : W 4 235 = M 4 235 := by rw [hW, sU_ne (fun z => by omega), sU_ne (fun z => by omega)]
      have r4_218 : W 4 218 = -3221225472 * ρ 0 + (1 * ρ 4 + (33554432 * ρ 6 + 0)) := by rw [hW, sU_at]
      have r4_215 : W 4 215 = M 4 215 := by rw [hW, sU_ne (fun z => by omega), sU_ne (fun z => by omega)]
      have r4_216 : W 4 216 = 1 * ρ 0 + (1 * ρ 2 + 0) := by rw [hW, sU_ne (fun z => by omega), sU_at]
      have c92 : ∀ k, W 92 k = M 92 k := fun k => by rw [hW, sU_ne (fun z => by omega), sU_ne (fun z => by omega)]
      have e92 : W 92 = M 92 := funext c92
      intro h
      rw [r4_218, r4_215, r4_216, e92]
      have g1 := gx_xSG hI (by omega)
      have s1 : (1 * ρ 0 + (1 * ρ 2 + 0) - M 4 215).toNat = (M 4 216 - M 4 215).toNat + 1 := by rw [h0]; omega
      rw [s1]
      show _ = tPk (M 92) (M 4 215).toNat (M 4 216 - M 4 215).toNat + (M 92 ((M 4 215).toNat + (M 4 216 - M 4 215).toNat) - 96) * tPw (M 4 216 - M 4 215).toNat
      rw [← g1, show (M 4 215).toNat + (M 4 216 - M 4 215).toNat = (M 4 216).toNat by omega]
      rw [show (M 4 216 - M 4 215).toNat = 0 by omega, show tPw 0 = 33554432 from rfl, show M 92 (M 4 216).toNat = ρ 6 by rw [show (M 4 216).toNat = (ρ 2).toNat by omega]; have hb := xs_by hI (by omega) (k := (ρ 2).toNat) (by omega); omega]
      (try rw [h0])
      omega
    have k_xSF : xSF W := by
      rw [hW]
      exact (uxSF rfl (uxSF rfl hI.2.2.2.2.2.2.2.2.2.2.2.2.2.2.2.2.2.2.2.2.2.2.2.2.2.2.2.2.2.2.2.2.1))
    have k_xSB : xSB W := by
      rw [hW]
      exact (uxSB rfl (uxSB rfl hI.2.2.2.2.2.2.2.2.2.2.2.2.2.2.2.2.2.2.2.2.2.2.2.2.2.2.2.2.2.2.2.2.2.1))
    have k_xSC : xSC W := by
      rw [hW]
      exact (uxSC rfl (uxSC rfl hI.2.2.2.2.2.2.2.2.2.2.2.2.2.2.2.2.2.2.2.2.2.2.2.2.2.2.2.2.2.2.2.2.2.2.1))
    have k_xSD : xSD W := by
      rw [hW]
      exact (uxSD rfl (uxSD rfl hI.2.2.2.2.2.2.2.2.2.2.2.2.2.2.2.2.2.2.2.2.2.2.2.2.2.2.2.2.2.2.2.2.2.2.2.1))
    have k_xSE : xSE W := by
      rw [hW]
      exact (uxSE rfl (uxSE rfl hI.2.2.2.2.2.2.2.2.2.2.2.2.2.2.2.2.2.2.2.2.2.2.2.2.2.2.2.2.2.2.2.2.2.2.2.2.1))
    have k_xSW : xSW W := by
      rw [hW]
      exact (uxSW rfl (uxSW rfl hI.2.2.2.2.2.2.2.2.2.2.2.2.2.2.2.2.2.2.2.2.2.2.2.2.2.2.2.2.2.2.2.2.2.2.2.2.2.1))
    have k_xST : xST W := by
      rw [hW]
      exact (uxST rfl (uxST rfl hI.2.2.2.2.2.2.2.2.2.2.2.2.2.2.2.2.2.2.2.2.2.2.2.2.2.2.2.2.2.2.2.2.2.2.2.2.2.2.1))
    have k_xSP : xSP W := by
      rw [hW]
      exact (uxSP rfl (uxSP rfl hI.2.2.2.2.2.2.2.2.2.2.2.2.2.2.2.2.2.2.2.2.2.2.2.2.2.2.2.2.2.2.2.2.2.2.2.2.2.2.2.1))
    have k_xSL : xSL W := by
      rw [hW]
      exact (uxSL rfl (uxSL rfl hI.2.2.2.2.2.2.2.2.2.2.2.2.2.2.2.2.2.2.2.2.2.2.2.2.2.2.2.2.2.2.2.2.2.2.2.2.2.2.2.2.1))
    have k_xSM : xSM W := by
      rw [hW]
      exact (uxSM rfl (uxSM rfl hI.2.2.2.2.2.2.2.2.2.2.2.2.2.2.2.2.2.2.2.2.2.2.2.2.2.2.2.2.2.2.2.2.2.2.2.2.2.2.2.2.2.1))
    have k_xSI : xSI W := by
      rw [hW]
      exact (uxSI rfl (uxSI rfl hI.2.2.2.2.2.2.2.2.2.2.2.2.2.2.2.2.2.2.2.2.2.2.2.2.2.2.2.2.2.2.2.2.2.2.2.2.2.2.2.2.2.2))
    have k_XC : XC W := ⟨k_xS1, k_xS2, k_xS3, k_xS4, k_xS5, k_xS6, k_xS7, k_xS8, k_xS9, k_xSA, k_xSG, k_xSF, k_xSB, k_xSC, k_xSD, k_xSE, k_xSW, k_xST, k_xSP, k_xSL, k_xSM, k_xSI⟩
    have kXB : XB W := ⟨k_xN1, k_xN2, k_xN3, k_xN4, k_xN5, k_xN6, k_xH1, k_xK1, k_xC1, k_xRW, k_xWT, k_xCU, k_xG2, k_xG3, k_xG4, k_xG5, k_xG6, k_XC⟩
    exact ⟨base, k2, k3, kXA, kXB⟩
-- wOn1
def xr_203 : qRu := (7, [[(-1, 0), (-1, 2), (1, 5)], [(-97, 0), (1, 6)], [(122, 0), (-1, 6)], [(-1, 0), (-1, 1), (1, 2)], [(1, 0), (1, 1), (-1, 2)]], [(4, 100, [(1, 0)]), (4, 214, [(1, 0)]), (4, 215, [(1, 1)]), (4, 216, [(1, 2)]), (4, 217, [(1, 3)]), (4, 101, [(1, 5)]), (4, 235, [(1, 0)]), (4, 218, [(1, 4)]), (1, 1002, [(1, 6)])], [], [(4, 216, [(1, 0), (1, 2)]), (4, 218, [(-100663296, 0), (1, 4), (1048576, 6)])], [[(-1, 0), (-1, 2), (1, 3)]])
theorem xo_203 : qRok xr_203 := by
  intro ρ M h0 hf hm hI
  have f0 := hf [(-1, 0), (-1, 2), (1, 5)] (by decide)
  have f1 := hf [(-97, 0), (1, 6)] (by decide)
  have f2 := hf [(122, 0), (-1, 6)] (by decide)
  have f3 := hf [(-1, 0), (-1, 1), (1, 2)] (by decide)
  have f4 := hf [(1, 0), (1, 1), (-1, 2)] (by decide)
  simp only [qD, h0] at f0 f1 f2 f3 f4
  have m0 : M 4 100 = 1 * ρ 0 + 0 := hm (4, 100, [(1, 0)]) (by decide)
  have m1 : M 4 214 = 1 * ρ 0 + 0 := hm (4, 214, [(1, 0)]) (by decide)
  have m2 : M 4 215 = 1 * ρ 1 + 0 := hm (4, 215, [(1, 1)]) (by decide)
  have m3 : M 4 216 = 1 * ρ 2 + 0 := hm (4, 216, [(1, 2)]) (by decide)
  have m4 : M 4 217 = 1 * ρ 3 + 0 := hm (4, 217, [(1, 3)]) (by decide)
  have m5 : M 4 101 = 1 * ρ 5 + 0 := hm (4, 101, [(1, 5)]) (by decide)
  have m6 : M 4 235 = 1 * ρ 0 + 0 := hm (4, 235, [(1, 0)]) (by decide)
  have m7 : M 4 218 = 1 * ρ 4 + 0 := hm (4, 218, [(1, 4)]) (by decide)
  have m8 : M 1 (zIx ρ (1000 + 2)) = 1 * ρ 6 + 0 := hm (1, 1002, [(1, 6)]) (by decide)
  rw [zix_p] at m8
  simp only [h0] at m0 m1 m6
  have qxSA := hI.2.2.2.2.2.2.2.2.2.2.2.2.2.2.2.2.2.2.2.2.2.2.2.2.2.2.2.2.2.2.1
  have qxSG := hI.2.2.2.2.2.2.2.2.2.2.2.2.2.2.2.2.2.2.2.2.2.2.2.2.2.2.2.2.2.2.2.1
  obtain ⟨u1, u2, u3, u4, u5, u6, u7⟩ := gx_xSA hI (by omega)

  have hx : 97 ≤ M 92 (M 4 216).toNat ∧ M 92 (M 4 216).toNat ≤ 122 := by rw [show (M 4 216).toNat = (ρ 2).toNat by omega]; have hb := xs_by hI (by omega) (k := (ρ 2).toNat) (by omega); omega
  have e2 := ten_on (g := M 92) (lo := 97) (hi := 122) (n := (M 4 101).toNat) (p := (M 4 216).toNat) (by omega) hx
  have e3 := ten_b (M 92) 97 122 (n := (M 4 101).toNat) (p := (M 4 216).toNat + 1) (by omega)
  refine ⟨ρ, fun _ _ => rfl, fun f h => ?_, ?_⟩
  · have h : f ∈ ([[(-1, 0), (-1, 2), (1, 3)]] : List qF) := h
    simp only [List.mem_cons, List.not_mem_nil, or_false] at h
    rcases h with rfl
    · show 0 ≤ -1 * ρ 0 + (-1 * ρ 2 + (1 * ρ 3 + 0))
      (try rw [h0]); omega
  · show sI (sU (sU M 4 216 (1 * ρ 0 + (1 * ρ 2 + 0))) 4 218 (-100663296 * ρ 0 + (1 * ρ 4 + (1048576 * ρ 6 + 0))))
    obtain ⟨W, hW⟩ : ∃ W, W = (sU (sU M 4 216 (1 * ρ 0 + (1 * ρ 2 + 0))) 4 218 (-100663296 * ρ 0 + (1 * ρ 4 + (1048576 * ρ 6 + 0)))) := ⟨_, rfl⟩
    rw [← hW]
    have base : sI0 W := by
      rw [hW]
      exact (si_u0 (si_u0 hI.1 (fun r hr => by cases hr)) (fun r hr => by cases hr))
    have k2 : XI2 W := by
      rw [hW]
      exact (xi2_u rfl (xi2_u rfl hI.2.1))
    have k3 : XI3 W := by
      rw [hW]
      exact (xi3_u rfl (xi3_u rfl hI.2.2.1))
    have kXA : XA W := by
      rw [hW]
      exact (uXA rfl (uXA rfl hI.2.2.2.1))
    have k_xN1 : xN1 W := by
      rw [hW]
      exact (uxN1 rfl (uxN1 rfl hI.2.2.2.2.1))
    have k_xN2 : xN2 W := by
      rw [hW]
      exact (uxN2 rfl (uxN2 rfl hI.2.2.2.2.2.1))
    have k_xN3 : xN3 W := by
      rw [hW]
      exact (uxN3 rfl (uxN3 rfl hI.2.2.2.2.2.2.1))
    have k_xN4 : xN4 W := by
      rw [hW]
      exact (uxN4 rfl (uxN4 rfl hI.2.2.2.2.2.2.2.1))
    have k_xN5 : xN5 W := by
      rw [hW]
      exact (uxN5 rfl (uxN5 rfl hI.2.2.2.2.2.2.2.2.1))
    have k_xN6 : xN6 W := by
      rw [hW]
      exact (uxN6 rfl (uxN6 rfl hI.2.2.2.2.2.2.2.2.2.1))
    have k_xH1 : xH1 W := by
      rw [hW]
      exact (uxH1 rfl (uxH1 rfl hI.2.2.2.2.2.2.2.2.2.2.1))
    have k_xK1 : xK1 W := by
      rw [hW]
      exact (uxK1 rfl (uxK1 rfl hI.2.2.2.2.2.2.2.2.2.2.2.1))
    have k_xC1 : xC1 W := by
      rw [hW]
      exact (uxC1 rfl (uxC1 rfl hI.2.2.2.2.2.2.2.2.2.2.2.2.1))
    have k_xRW : xRW W := by
      rw [hW]
      exact (uxRW rfl (uxRW rfl hI.2.2.2.2.2.2.2.2.2.2.2.2.2.1))
    have k_xWT : xWT W := by
      rw [hW]
      exact (uxWT rfl (uxWT rfl hI.2.2.2.2.2.2.2.2.2.2.2.2.2.2.1))
    have k_xCU : xCU W := by
      rw [hW]
      exact (uxCU rfl (uxCU rfl hI.2.2.2.2.2.2.2.2.2.2.2.2.2.2.2.1))
    have k_xG2 : xG2 W := by
      rw [hW]
      exact (uxG2 rfl (uxG2 rfl hI.2.2.2.2.2.2.2.2.2.2.2.2.2.2.2.2.1))
    have k_xG3 : xG3 W := by
      rw [hW]
      exact (uxG3 rfl (uxG3 rfl hI.2.2.2.2.2.2.2.2.2.2.2.2.2.2.2.2.2.1))
    have k_xG4 : xG4 W := by
      rw [hW]
      exact (uxG4 rfl (uxG4 rfl hI.2.2.2.2.2.2.2.2.2.2.2.2.2.2.2.2.2.2.1))
    have k_xG5 : xG5 W := by
      rw [hW]
      exact (uxG5 rfl (uxG5 rfl hI.2.2.2.2.2.2.2.2.2.2.2.2.2.2.2.2.2.2.2.1))
    have k_xG6 : xG6 W := by
      rw [hW]
      exact (uxG6 rfl (uxG6 rfl hI.2.2.2.2.2.2.2.2.2.2.2.2.2.2.2.2.2.2.2.2.1))
    have k_xS1 : xS1 W := by
      rw [hW]
      exact (uxS1 rfl (uxS1 rfl hI.2.2.2.2.2.2.2.2.2.2.2.2.2.2.2.2.2.2.2.2.2.1))
    have k_xS2 : xS2 W := by
      rw [hW]
      exact (uxS2 rfl (uxS2 rfl hI.2.2.2.2.2.2.2.2.2.2.2.2.2.2.2.2.2.2.2.2.2.2.1))
    have k_xS3 : xS3 W := by
      rw [hW]
      exact (uxS3 rfl (uxS3 rfl hI.2.2.2.2.2.2.2.2.2.2.2.2.2.2.2.2.2.2.2.2.2.2.2.1))
    have k_xS4 : xS4 W := by
      rw [hW]
      exact (uxS4 rfl (uxS4 rfl hI.2.2.2.2.2.2.2.2.2.2.2.2.2.2.2.2.2.2.2.2.2.2.2.2.1))
    have k_xS5 : xS5 W := by
      rw [hW]
      exact (uxS5 rfl (uxS5 rfl hI.2.2.2.2.2.2.2.2.2.2.2.2.2.2.2.2.2.2.2.2.2.2.2.2.2.1))
    have k_xS6 : xS6 W := by
      rw [hW]
      exact (uxS6 rfl (uxS6 rfl hI.2.2.2.2.2.2.2.2.2.2.2.2.2.2.2.2.2.2.2.2.2.2.2.2.2.2.1))
    have k_xS7 : xS7 W := by
      rw [hW]
      exact (uxS7 rfl (uxS7 rfl hI.2.2.2.2.2.2.2.2.2.2.2.2.2.2.2.2.2.2.2.2.2.2.2.2.2.2.2.1))
    have k_xS8 : xS8 W := by
      rw [hW]
      exact (uxS8 rfl (uxS8 rfl hI.2.2.2.2.2.2.2.2.2.2.2.2.2.2.2.2.2.2.2.2.2.2.2.2.2.2.2.2.1))
    have k_xS9 : xS9 W := by
      rw [hW]
      exact (uxS9 rfl (uxS9 rfl hI.2.2.2.2.2.2.2.2.2.2.2.2.2.2.2.2.2.2.2.2.2.2.2.2.2.2.2.2.2.1))
    have k_xSA : xSA W := by
      have r4_214 : W 4 214 = M 4 214 := by rw [hW, sU_ne (fun z => by omega), sU_ne (fun z => by omega)]
      have r4_215 : W 4 215 = M 4 215 := by rw [hW, sU_ne (fun z => by omega), sU_ne (fun z => by omega)]
      have r4_216 : W 4 216 = 1 * ρ 0 + (1 * ρ 2 + 0) := by rw [hW, sU_ne (fun z => by omega), sU_at]
      have r4_217 : W 4 217 = M 4 217 := by rw [hW, sU_ne (fun z => by omega), sU_ne (fun z => by omega)]
      have r4_219 : W 4 219 = M 4 219 := by rw [hW, sU_ne (fun z => by omega), sU_ne (fun z => by omega)]
      have r4_101 : W 4 101 = M 4 101 := by rw [hW, sU_ne (fun z => by omega), sU_ne (fun z => by omega)]
      have c92 : ∀ k, W 92 k = M 92 k := fun k => by rw [hW, sU_ne (fun z => by omega), sU_ne (fun z => by omega)]
      have e92 : W 92 = M 92 := funext c92
      intro h
      rw [r4_215, r4_216, r4_217, r4_219, r4_101, e92]
      have s1 : (1 * ρ 0 + (1 * ρ 2 + 0)).toNat = (M 4 216).toNat + 1 := by rw [h0]; omega
      rw [s1]
      refine ⟨by omega, by rw [h0]; omega, by rw [h0]; omega, by omega, by omega, by omega, by omega⟩
    have k_xSG : xSG W := by
      have r4_235 : W 4 235 = M 4 235 := by rw [hW, sU_ne (fun z => by omega), sU_ne (fun z => by omega)]
      have r4_218 : W 4 218 = -100663296 * ρ 0 + (1 * ρ 4 + (1048576 * ρ 6 + 0)) := by rw [hW, sU_at]
      have r4_215 : W 4 215 = M 4 215 := by rw [hW, sU_ne (fun z => by omega), sU_ne (fun z => by omega)]
      have r4_216 : W 4 216 = 1 * ρ 0 + (1 * ρ 2 + 0) := by rw [hW, sU_ne (fun z => by omega), sU_at]
      have c92 : ∀ k, W 92 k = M 92 k := fun k => by rw [hW, sU_ne (fun z => by omega), sU_ne (fun z => by omega)]
      have e92 : W 92 = M 92 := funext c92
      intro h
      rw [r4_218, r4_215, r4_216, e92]
      have g1 := gx_xSG hI (by omega)
      have s1 : (1 * ρ 0 + (1 * ρ 2 + 0) - M 4 215).toNat = (M 4 216 - M 4 215).toNat + 1 := by rw [h0]; omega
      rw [s1]
      show _ = tPk (M 92) (M 4 215).toNat (M 4 216 - M 4 215).toNat + (M 92 ((M 4 215).toNat + (M 4 216 - M 4 215).toNat) - 96) * tPw (M 4 216 - M 4 215).toNat
      rw [← g1, show (M 4 215).toNat + (M 4 216 - M 4 215).toNat = (M 4 216).toNat by omega]
      rw [show (M 4 216 - M 4 215).toNat = 1 by omega, show tPw 1 = 1048576 from rfl, show M 92 (M 4 216).toNat = ρ 6 by rw [show (M 4 216).toNat = (ρ 2).toNat by omega]; have hb := xs_by hI (by omega) (k := (ρ 2).toNat) (by omega); omega]
      (try rw [h0])
      omega
    have k_xSF : xSF W := by
      rw [hW]
      exact (uxSF rfl (uxSF rfl hI.2.2.2.2.2.2.2.2.2.2.2.2.2.2.2.2.2.2.2.2.2.2.2.2.2.2.2.2.2.2.2.2.1))
    have k_xSB : xSB W := by
      rw [hW]
      exact (uxSB rfl (uxSB rfl hI.2.2.2.2.2.2.2.2.2.2.2.2.2.2.2.2.2.2.2.2.2.2.2.2.2.2.2.2.2.2.2.2.2.1))
    have k_xSC : xSC W := by
      rw [hW]
      exact (uxSC rfl (uxSC rfl hI.2.2.2.2.2.2.2.2.2.2.2.2.2.2.2.2.2.2.2.2.2.2.2.2.2.2.2.2.2.2.2.2.2.2.1))
    have k_xSD : xSD W := by
      rw [hW]
      exact (uxSD rfl (uxSD rfl hI.2.2.2.2.2.2.2.2.2.2.2.2.2.2.2.2.2.2.2.2.2.2.2.2.2.2.2.2.2.2.2.2.2.2.2.1))
    have k_xSE : xSE W := by
      rw [hW]
      exact (uxSE rfl (uxSE rfl hI.2.2.2.2.2.2.2.2.2.2.2.2.2.2.2.2.2.2.2.2.2.2.2.2.2.2.2.2.2.2.2.2.2.2.2.2.1))
    have k_xSW : xSW W := by
      rw [hW]
      exact (uxSW rfl (uxSW rfl hI.2.2.2.2.2.2.2.2.2.2.2.2.2.2.2.2.2.2.2.2.2.2.2.2.2.2.2.2.2.2.2.2.2.2.2.2.2.1))
    have k_xST : xST W := by
      rw [hW]
      exact (uxST rfl (uxST rfl hI.2.2.2.2.2.2.2.2.2.2.2.2.2.2.2.2.2.2.2.2.2.2.2.2.2.2.2.2.2.2.2.2.2.2.2.2.2.2.1))
    have k_xSP : xSP W := by
      rw [hW]
      exact (uxSP rfl (uxSP rfl hI.2.2.2.2.2.2.2.2.2.2.2.2.2.2.2.2.2.2.2.2.2.2.2.2.2.2.2.2.2.2.2.2.2.2.2.2.2.2.2.1))
    have k_xSL : xSL W := by
      rw [hW]
      exact (uxSL rfl (uxSL rfl hI.2.2.2.2.2.2.2.2.2.2.2.2.2.2.2.2.2.2.2.2.2.2.2.2.2.2.2.2.2.2.2.2.2.2.2.2.2.2.2.2.1))
    have k_xSM : xSM W := by
      rw [hW]
      exact (uxSM rfl (uxSM rfl hI.2.2.2.2.2.2.2.2.2.2.2.2.2.2.2.2.2.2.2.2.2.2.2.2.2.2.2.2.2.2.2.2.2.2.2.2.2.2.2.2.2.1))
    have k_xSI : xSI W := by
      rw [hW]
      exact (uxSI rfl (uxSI rfl hI.2.2.2.2.2.2.2.2.2.2.2.2.2.2.2.2.2.2.2.2.2.2.2.2.2.2.2.2.2.2.2.2.2.2.2.2.2.2.2.2.2.2))
    have k_XC : XC W := ⟨k_xS1, k_xS2, k_xS3, k_xS4, k_xS5, k_xS6, k_xS7, k_xS8, k_xS9, k_xSA, k_xSG, k_xSF, k_xSB, k_xSC, k_xSD, k_xSE, k_xSW, k_xST, k_xSP, k_xSL, k_xSM, k_xSI⟩
    have kXB : XB W := ⟨k_xN1, k_xN2, k_xN3, k_xN4, k_xN5, k_xN6, k_xH1, k_xK1, k_xC1, k_xRW, k_xWT, k_xCU, k_xG2, k_xG3, k_xG4, k_xG5, k_xG6, k_XC⟩
    exact ⟨base, k2, k3, kXA, kXB⟩
-- wOn2
def xr_204 : qRu := (7, [[(-1, 0), (-1, 2), (1, 5)], [(-97, 0), (1, 6)], [(122, 0), (-1, 6)], [(-2, 0), (-1, 1), (1, 2)], [(2, 0), (1, 1), (-1, 2)]], [(4, 100, [(1, 0)]), (4, 214, [(1, 0)]), (4, 215, [(1, 1)]), (4, 216, [(1, 2)]), (4, 217, [(1, 3)]), (4, 101, [(1, 5)]), (4, 235, [(1, 0)]), (4, 218, [(1, 4)]), (1, 1002, [(1, 6)])], [], [(4, 216, [(1, 0), (1, 2)]), (4, 218, [(-3145728, 0), (1, 4), (32768, 6)])], [[(-1, 0), (-1, 2), (1, 3)]])
theorem xo_204 : qRok xr_204 := by
  intro ρ M h0 hf hm hI
  have f0 := hf [(-1, 0), (-1, 2), (1, 5)] (by decide)
  have f1 := hf [(-97, 0), (1, 6)] (by decide)
  have f2 := hf [(122, 0), (-1, 6)] (by decide)
  have f3 := hf [(-2, 0), (-1, 1), (1, 2)] (by decide)
  have f4 := hf [(2, 0), (1, 1), (-1, 2)] (by decide)
  simp only [qD, h0] at f0 f1 f2 f3 f4
  have m0 : M 4 100 = 1 * ρ 0 + 0 := hm (4, 100, [(1, 0)]) (by decide)
  have m1 : M 4 214 = 1 * ρ 0 + 0 := hm (4, 214, [(1, 0)]) (by decide)
  have m2 : M 4 215 = 1 * ρ 1 + 0 := hm (4, 215, [(1, 1)]) (by decide)
  have m3 : M 4 216 = 1 * ρ 2 + 0 := hm (4, 216, [(1, 2)]) (by decide)
  have m4 : M 4 217 = 1 * ρ 3 + 0 := hm (4, 217, [(1, 3)]) (by decide)
  have m5 : M 4 101 = 1 * ρ 5 + 0 := hm (4, 101, [(1, 5)]) (by decide)
  have m6 : M 4 235 = 1 * ρ 0 + 0 := hm (4, 235, [(1, 0)]) (by decide)
  have m7 : M 4 218 = 1 * ρ 4 + 0 := hm (4, 218, [(1, 4)]) (by decide)
  have m8 : M 1 (zIx ρ (1000 + 2)) = 1 * ρ 6 + 0 := hm (1, 1002, [(1, 6)]) (by decide)
  rw [zix_p] at m8
  simp only [h0] at m0 m1 m6
  have qxSA := hI.2.2.2.2.2.2.2.2.2.2.2.2.2.2.2.2.2.2.2.2.2.2.2.2.2.2.2.2.2.2.1
  have qxSG := hI.2.2.2.2.2.2.2.2.2.2.2.2.2.2.2.2.2.2.2.2.2.2.2.2.2.2.2.2.2.2.2.1
  obtain ⟨u1, u2, u3, u4, u5, u6, u7⟩ := gx_xSA hI (by omega)

  have hx : 97 ≤ M 92 (M 4 216).toNat ∧ M 92 (M 4 216).toNat ≤ 122 := by rw [show (M 4 216).toNat = (ρ 2).toNat by omega]; have hb := xs_by hI (by omega) (k := (ρ 2).toNat) (by omega); omega
  have e2 := ten_on (g := M 92) (lo := 97) (hi := 122) (n := (M 4 101).toNat) (p := (M 4 216).toNat) (by omega) hx
  have e3 := ten_b (M 92) 97 122 (n := (M 4 101).toNat) (p := (M 4 216).toNat + 1) (by omega)
  refine ⟨ρ, fun _ _ => rfl, fun f h => ?_, ?_⟩
  · have h : f ∈ ([[(-1, 0), (-1, 2), (1, 3)]] : List qF) := h
    simp only [List.mem_cons, List.not_mem_nil, or_false] at h
    rcases h with rfl
    · show 0 ≤ -1 * ρ 0 + (-1 * ρ 2 + (1 * ρ 3 + 0))
      (try rw [h0]); omega
  · show sI (sU (sU M 4 216 (1 * ρ 0 + (1 * ρ 2 + 0))) 4 218 (-3145728 * ρ 0 + (1 * ρ 4 + (32768 * ρ 6 + 0))))
    obtain ⟨W, hW⟩ : ∃ W, W = (sU (sU M 4 216 (1 * ρ 0 + (1 * ρ 2 + 0))) 4 218 (-3145728 * ρ 0 + (1 * ρ 4 + (32768 * ρ 6 + 0)))) := ⟨_, rfl⟩
    rw [← hW]
    have base : sI0 W := by
      rw [hW]
      exact (si_u0 (si_u0 hI.1 (fun r hr => by cases hr)) (fun r hr => by cases hr))
    have k2 : XI2 W := by
      rw [hW]
      exact (xi2_u rfl (xi2_u rfl hI.2.1))
    have k3 : XI3 W := by
      rw [hW]
      exact (xi3_u rfl (xi3_u rfl hI.2.2.1))
    have kXA : XA W := by
      rw [hW]
      exact (uXA rfl (uXA rfl hI.2.2.2.1))
    have k_xN1 : xN1 W := by
      rw [hW]
      exact (uxN1 rfl (uxN1 rfl hI.2.2.2.2.1))
    have k_xN2 : xN2 W := by
      rw [hW]
      exact (uxN2 rfl (uxN2 rfl hI.2.2.2.2.2.1))
    have k_xN3 : xN3 W := by
      rw [hW]
      exact (uxN3 rfl (uxN3 rfl hI.2.2.2.2.2.2.1))
    have k_xN4 : xN4 W := by
      rw [hW]
      exact (uxN4 rfl (uxN4 rfl hI.2.2.2.2.2.2.2.1))
    have k_xN5 : xN5 W := by
      rw [hW]
      exact (uxN5 rfl (uxN5 rfl hI.2.2.2.2.2.2.2.2.1))
    have k_xN6 : xN6 W := by
      rw [hW]
      exact (uxN6 rfl (uxN6 rfl hI.2.2.2.2.2.2.2.2.2.1))
    have k_xH1 : xH1 W := by
      rw [hW]
      exact (uxH1 rfl (uxH1 rfl hI.2.2.2.2.2.2.2.2.2.2.1))
    have k_xK1 : xK1 W := by
      rw [hW]
      exact (uxK1 rfl (uxK1 rfl hI.2.2.2.2.2.2.2.2.2.2.2.1))
    have k_xC1 : xC1 W := by
      rw [hW]
      exact (uxC1 rfl (uxC1 rfl hI.2.2.2.2.2.2.2.2.2.2.2.2.1))
    have k_xRW : xRW W := by
      rw [hW]
      exact (uxRW rfl (uxRW rfl hI.2.2.2.2.2.2.2.2.2.2.2.2.2.1))
    have k_xWT : xWT W := by
      rw [hW]
      exact (uxWT rfl (uxWT rfl hI.2.2.2.2.2.2.2.2.2.2.2.2.2.2.1))
    have k_xCU : xCU W := by
      rw [hW]
      exact (uxCU rfl (uxCU rfl hI.2.2.2.2.2.2.2.2.2.2.2.2.2.2.2.1))
    have k_xG2 : xG2 W := by
      rw [hW]
      exact (uxG2 rfl (uxG2 rfl hI.2.2.2.2.2.2.2.2.2.2.2.2.2.2.2.2.1))
    have k_xG3 : xG3 W := by
      rw [hW]
      exact (uxG3 rfl (uxG3 rfl hI.2.2.2.2.2.2.2.2.2.2.2.2.2.2.2.2.2.1))
    have k_xG4 : xG4 W := by
      rw [hW]
      exact (uxG4 rfl (uxG4 rfl hI.2.2.2.2.2.2.2.2.2.2.2.2.2.2.2.2.2.2.1))
    have k_xG5 : xG5 W := by
      rw [hW]
      exact (uxG5 rfl (uxG5 rfl hI.2.2.2.2.2.2.2.2.2.2.2.2.2.2.2.2.2.2.2.1))
    have k_xG6 : xG6 W := by
      rw [hW]
      exact (uxG6 rfl (uxG6 rfl hI.2.2.2.2.2.2.2.2.2.2.2.2.2.2.2.2.2.2.2.2.1))
    have k_xS1 : xS1 W := by
      rw [hW]
      exact (uxS1 rfl (uxS1 rfl hI.2.2.2.2.2.2.2.2.2.2.2.2.2.2.2.2.2.2.2.2.2.1))
    have k_xS2 : xS2 W := by
      rw [hW]
      exact (uxS2 rfl (uxS2 rfl hI.2.2.2.2.2.2.2.2.2.2.2.2.2.2.2.2.2.2.2.2.2.2.1))
    have k_xS3 : xS3 W := by
      rw [hW]
      exact (uxS3 rfl (uxS3 rfl hI.2.2.2.2.2.2.2.2.2.2.2.2.2.2.2.2.2.2.2.2.2.2.2.1))
    have k_xS4 : xS4 W := by
      rw [hW]
      exact (uxS4 rfl (uxS4 rfl hI.2.2.2.2.2.2.2.2.2.2.2.2.2.2.2.2.2.2.2.2.2.2.2.2.1))
    have k_xS5 : xS5 W := by
      rw [hW]
      exact (uxS5 rfl (uxS5 rfl hI.2.2.2.2.2.2.2.2.2.2.2.2.2.2.2.2.2.2.2.2.2.2.2.2.2.1))
    have k_xS6 : xS6 W := by
      rw [hW]
      exact (uxS6 rfl (uxS6 rfl hI.2.2.2.2.2.2.2.2.2.2.2.2.2.2.2.2.2.2.2.2.2.2.2.2.2.2.1))
    have k_xS7 : xS7 W := by
      rw [hW]
      exact (uxS7 rfl (uxS7 rfl hI.2.2.2.2.2.2.2.2.2.2.2.2.2.2.2.2.2.2.2.2.2.2.2.2.2.2.2.1))
    have k_xS8 : xS8 W := by
      rw [hW]
      exact (uxS8 rfl (uxS8 rfl hI.2.2.2.2.2.2.2.2.2.2.2.2.2.2.2.2.2.2.2.2.2.2.2.2.2.2.2.2.1))
    have k_xS9 : xS9 W := by
      rw [hW]
      exact (uxS9 rfl (uxS9 rfl hI.2.2.2.2.2.2.2.2.2.2.2.2.2.2.2.2.2.2.2.2.2.2.2.2.2.2.2.2.2.1))
    have k_xSA : xSA W := by
      have r4_214 : W 4 214 = M 4 214 := by rw [hW, sU_ne (fun z => by omega), sU_ne (fun z => by omega)]
      have r4_215 : W 4 215 = M 4 215 := by rw [hW, sU_ne (fun z => by omega), sU_ne (fun z => by omega)]
      have r4_216 : W 4 216 = 1 * ρ 0 + (1 * ρ 2 + 0) := by rw [hW, sU_ne (fun z => by omega), sU_at]
      have r4_217 : W 4 217 = M 4 217 := by rw [hW, sU_ne (fun z => by omega), sU_ne (fun z => by omega)]
      have r4_219 : W 4 219 = M 4 219 := by rw [hW, sU_ne (fun z => by omega), sU_ne (fun z => by omega)]
      have r4_101 : W 4 101 = M 4 101 := by rw [hW, sU_ne (fun z => by omega), sU_ne (fun z => by omega)]
      have c92 : ∀ k, W 92 k = M 92 k := fun k => by rw [hW, sU_ne (fun z => by omega), sU_ne (fun z => by omega)]
      have e92 : W 92 = M 92 := funext c92
      intro h
      rw [r4_215, r4_216, r4_217, r4_219, r4_101, e92]
      have s1 : (1 * ρ 0 + (1 * ρ 2 + 0)).toNat = (M 4 216).toNat + 1 := by rw [h0]; omega
      rw [s1]
      refine ⟨by omega, by rw [h0]; omega, by rw [h0]; omega, by omega, by omega, by omega, by omega⟩
    have k_xSG : xSG W := by
      have r4_235 : W 4 235 = M 4 235 := by rw [hW, sU_ne (fun z => by omega), sU_ne (fun z => by omega)]
      have r4_218 : W 4 218 = -3145728 * ρ 0 + (1 * ρ 4 + (32768 * ρ 6 + 0)) := by rw [hW, sU_at]
      have r4_215 : W 4 215 = M 4 215 := by rw [hW, sU_ne (fun z => by omega), sU_ne (fun z => by omega)]
      have r4_216 : W 4 216 = 1 * ρ 0 + (1 * ρ 2 + 0) := by rw [hW, sU_ne (fun z => by omega), sU_at]
      have c92 : ∀ k, W 92 k = M 92 k := fun k => by rw [hW, sU_ne (fun z => by omega), sU_ne (fun z => by omega)]
      have e92 : W 92 = M 92 := funext c92
      intro h
      rw [r4_218, r4_215, r4_216, e92]
      have g1 := gx_xSG hI (by omega)
      have s1 : (1 * ρ 0 + (1 * ρ 2 + 0) - M 4 215).toNat = (M 4 216 - M 4 215).toNat + 1 := by rw [h0]; omega
      rw [s1]
      show _ = tPk (M 92) (M 4 215).toNat (M 4 216 - M 4 215).toNat + (M 92 ((M 4 215).toNat + (M 4 216 - M 4 215).toNat) - 96) * tPw (M 4 216 - M 4 215).toNat
      rw [← g1, show (M 4 215).toNat + (M 4 216 - M 4 215).toNat = (M 4 216).toNat by omega]
      rw [show (M 4 216 - M 4 215).toNat = 2 by omega, show tPw 2 = 32768 from rfl, show M 92 (M 4 216).toNat = ρ 6 by rw [show (M 4 216).toNat = (ρ 2).toNat by omega]; have hb := xs_by hI (by omega) (k := (ρ 2).toNat) (by omega); omega]
      (try rw [h0])
      omega
    have k_xSF : xSF W := by
      rw [hW]
      exact (uxSF rfl (uxSF rfl hI.2.2.2.2.2.2.2.2.2.2.2.2.2.2.2.2.2.2.2.2.2.2.2.2.2.2.2.2.2.2.2.2.1))
    have k_xSB : xSB W := by
      rw [hW]
      exact (uxSB rfl (uxSB rfl hI.2.2.2.2.2.2.2.2.2.2.2.2.2.2.2.2.2.2.2.2.2.2.2.2.2.2.2.2.2.2.2.2.2.1))
    have k_xSC : xSC W := by
      rw [hW]
      exact (uxSC rfl (uxSC rfl hI.2.2.2.2.2.2.2.2.2.2.2.2.2.2.2.2.2.2.2.2.2.2.2.2.2.2.2.2.2.2.2.2.2.2.1))
    have k_xSD : xSD W := by
      rw [hW]
      exact (uxSD rfl (uxSD rfl hI.2.2.2.2.2.2.2.2.2.2.2.2.2.2.2.2.2.2.2.2.2.2.2.2.2.2.2.2.2.2.2.2.2.2.2.1))
    have k_xSE : xSE W := by
      rw [hW]
      exact (uxSE rfl (uxSE rfl hI.2.2.2.2.2.2.2.2.2.2.2.2.2.2.2.2.2.2.2.2.2.2.2.2.2.2.2.2.2.2.2.2.2.2.2.2.1))
    have k_xSW : xSW W := by
      rw [hW]
      exact (uxSW rfl (uxSW rfl hI.2.2.2.2.2.2.2.2.2.2.2.2.2.2.2.2.2.2.2.2.2.2.2.2.2.2.2.2.2.2.2.2.2.2.2.2.2.1))
    have k_xST : xST W := by
      rw [hW]
      exact (uxST rfl (uxST rfl hI.2.2.2.2.2.2.2.2.2.2.2.2.2.2.2.2.2.2.2.2.2.2.2.2.2.2.2.2.2.2.2.2.2.2.2.2.2.2.1))
    have k_xSP : xSP W := by
      rw [hW]
      exact (uxSP rfl (uxSP rfl hI.2.2.2.2.2.2.2.2.2.2.2.2.2.2.2.2.2.2.2.2.2.2.2.2.2.2.2.2.2.2.2.2.2.2.2.2.2.2.2.1))
    have k_xSL : xSL W := by
      rw [hW]
      exact (uxSL rfl (uxSL rfl hI.2.2.2.2.2.2.2.2.2.2.2.2.2.2.2.2.2.2.2.2.2.2.2.2.2.2.2.2.2.2.2.2.2.2.2.2.2.2.2.2.1))
    have k_xSM : xSM W := by
      rw [hW]
      exact (uxSM rfl (uxSM rfl hI.2.2.2.2.2.2.2.2.2.2.2.2.2.2.2.2.2.2.2.2.2.2.2.2.2.2.2.2.2.2.2.2.2.2.2.2.2.2.2.2.2.1))
    have k_xSI : xSI W := by
      rw [hW]
      exact (uxSI rfl (uxSI rfl hI.2.2.2.2.2.2.2.2.2.2.2.2.2.2.2.2.2.2.2.2.2.2.2.2.2.2.2.2.2.2.2.2.2.2.2.2.2.2.2.2.2.2))
    have k_XC : XC W := ⟨k_xS1, k_xS2, k_xS3, k_xS4, k_xS5, k_xS6, k_xS7, k_xS8, k_xS9, k_xSA, k_xSG, k_xSF, k_xSB, k_xSC, k_xSD, k_xSE, k_xSW, k_xST, k_xSP, k_xSL, k_xSM, k_xSI⟩
    have kXB : XB W := ⟨k_xN1, k_xN2, k_xN3, k_xN4, k_xN5, k_xN6, k_xH1, k_xK1, k_xC1, k_xRW, k_xWT, k_xCU, k_xG2, k_xG3, k_xG4, k_xG5, k_xG6, k_XC⟩
    exact ⟨base, k2, k3, kXA, kXB⟩
-- wOn3
def xr_205 : qRu := (7, [[(-1, 0), (-1, 2), (1, 5)], [(-97, 0), (1, 6)], [(122, 0), (-1, 6)], [(-3, 0), (-1, 1), (1, 2)], [(3, 0), (1, 1), (-1, 2)]], [(4, 100, [(1, 0)]), (4, 214, [(1, 0)]), (4, 215, [(1, 1)]), (4, 216, [(1, 2)]), (4, 217, [(1, 3)]), (4, 101, [(1, 5)]), (4, 235, [(1, 0)]), (4, 218, [(1, 4)]), (1, 1002, [(1, 6)])], [], [(4, 216, [(1, 0), (1, 2)]), (4, 218, [(-98304, 0), (1, 4), (1024, 6)])], [[(-1, 0), (-1, 2), (1, 3)]])
theorem xo_205 : qRok xr_205 := by
  intro ρ M h0 hf hm hI
  have f0 := hf [(-1, 0), (-1, 2), (1, 5)] (by decide)
  have f1 := hf [(-97, 0), (1, 6)] (by decide)
  have f2 := hf [(122, 0), (-1, 6)] (by decide)
  have f3 := hf [(-3, 0), (-1, 1), (1, 2)] (by decide)
  have f4 := hf [(3, 0), (1, 1), (-1, 2)] (by decide)
  simp only [qD, h0] at f0 f1 f2 f3 f4
  have m0 : M 4 100 = 1 * ρ 0 + 0 := hm (4, 100, [(1, 0)]) (by decide)
  have m1 : M 4 214 = 1 * ρ 0 + 0 := hm (4, 214, [(1, 0)]) (by decide)
  have m2 : M 4 215 = 1 * ρ 1 + 0 := hm (4, 215, [(1, 1)]) (by decide)
  have m3 : M 4 216 = 1 * ρ 2 + 0 := hm (4, 216, [(1, 2)]) (by decide)
  have m4 : M 4 217 = 1 * ρ 3 + 0 := hm (4, 217, [(1, 3)]) (by decide)
  have m5 : M 4 101 = 1 * ρ 5 + 0 := hm (4, 101, [(1, 5)]) (by decide)
  have m6 : M 4 235 = 1 * ρ 0 + 0 := hm (4, 235, [(1, 0)]) (by decide)
  have m7 : M 4 218 = 1 * ρ 4 + 0 := hm (4, 218, [(1, 4)]) (by decide)
  have m8 : M 1 (zIx ρ (1000 + 2)) = 1 * ρ 6 + 0 := hm (1, 1002, [(1, 6)]) (by decide)
  rw [zix_p] at m8
  simp only [h0] at m0 m1 m6
  have qxSA := hI.2.2.2.2.2.2.2.2.2.2.2.2.2.2.2.2.2.2.2.2.2.2.2.2.2.2.2.2.2.2.1
  have qxSG := hI.2.2.2.2.2.2.2.2.2.2.2.2.2.2.2.2.2.2.2.2.2.2.2.2.2.2.2.2.2.2.2.1
  obtain ⟨u1, u2, u3, u4, u5, u6, u7⟩ := gx_xSA hI (by omega)

  have hx : 97 ≤ M 92 (M 4 216).toNat ∧ M 92 (M 4 216).toNat ≤ 122 := by rw [show (M 4 216).toNat = (ρ 2).toNat by omega]; have hb := xs_by hI (by omega) (k := (ρ 2).toNat) (by omega); omega
  have e2 := ten_on (g := M 92) (lo := 97) (hi := 122) (n := (M 4 101).toNat) (p := (M 4 216).toNat) (by omega) hx
  have e3 := ten_b (M 92) 97 122 (n := (M 4 101).toNat) (p := (M 4 216).toNat + 1) (by omega)
  refine ⟨ρ, fun _ _ => rfl, fun f h => ?_, ?_⟩
  · have h : f ∈ ([[(-1, 0), (-1, 2), (1, 3)]] : List qF) := h
    simp only [List.mem_cons, List.not_mem_nil, or_false] at h
    rcases h with rfl
    · show 0 ≤ -1 * ρ 0 + (-1 * ρ 2 + (1 * ρ 3 + 0))
      (try rw [h0]); omega
  · show sI (sU (sU M 4 216 (1 * ρ 0 + (1 * ρ 2 + 0))) 4 218 (-98304 * ρ 0 + (1 * ρ 4 + (1024 * ρ 6 + 0))))
    obtain ⟨W, hW⟩ : ∃ W, W = (sU (sU M 4 216 (1 * ρ 0 + (1 * ρ 2 + 0))) 4 218 (-98304 * ρ 0 + (1 * ρ 4 + (1024 * ρ 6 + 0)))) := ⟨_, rfl⟩
    rw [← hW]
    have base : sI0 W := by
      rw [hW]
      exact (si_u0 (si_u0 hI.1 (fun r hr => by cases hr)) (fun r hr => by cases hr))
    have k2 : XI2 W := by
      rw [hW]
      exact (xi2_u rfl (xi2_u rfl hI.2.1))
    have k3 : XI3 W := by
      rw [hW]
      exact (xi3_u rfl (xi3_u rfl hI.2.2.1))
    have kXA : XA W := by
      rw [hW]
      exact (uXA rfl (uXA rfl hI.2.2.2.1))
    have k_xN1 : xN1 W := by
      rw [hW]
      exact (uxN1 rfl (uxN1 rfl hI.2.2.2.2.1))
    have k_xN2 : xN2 W := by
      rw [hW]
      exact (uxN2 rfl (uxN2 rfl hI.2.2.2.2.2.1))
    have k_xN3 : xN3 W := by
      rw [hW]
      exact (uxN3 rfl (uxN3 rfl hI.2.2.2.2.2.2.1))
    have k_xN4 : xN4 W := by
      rw [hW]
      exact (uxN4 rfl (uxN4 rfl hI.2.2.2.2.2.2.2.1))
    have k_xN5 : xN5 W := by
      rw [hW]
      exact (uxN5 rfl (uxN5 rfl hI.2.2.2.2.2.2.2.2.1))
    have k_xN6 : xN6 W := by
      rw [hW]
      exact (uxN6 rfl (uxN6 rfl hI.2.2.2.2.2.2.2.2.2.1))
    have k_xH1 : xH1 W := by
      rw [hW]
      exact (uxH1 rfl (uxH1 rfl hI.2.2.2.2.2.2.2.2.2.2.1))
    have k_xK1 : xK1 W := by
      rw [hW]
      exact (uxK1 rfl (uxK1 rfl hI.2.2.2.2.2.2.2.2.2.2.2.1))
    have k_xC1 : xC1 W := by
      rw [hW]
      exact (uxC1 rfl (uxC1 rfl hI.2.2.2.2.2.2.2.2.2.2.2.2.1))
    have k_xRW : xRW W := by
      rw [hW]
      exact (uxRW rfl (uxRW rfl hI.2.2.2.2.2.2.2.2.2.2.2.2.2.1))
    have k_xWT : xWT W := by
      rw [hW]
      exact (uxWT rfl (uxWT rfl hI.2.2.2.2.2.2.2.2.2.2.2.2.2.2.1))
    have k_xCU : xCU W := by
      rw [hW]
      exact (uxCU rfl (uxCU rfl hI.2.2.2.2.2.2.2.2.2.2.2.2.2.2.2.1))
    have k_xG2 : xG2 W := by
      rw [hW]
      exact (uxG2 rfl (uxG2 rfl hI.2.2.2.2.2.2.2.2.2.2.2.2.2.2.2.2.1))
    have k_xG3 : xG3 W := by
      rw [hW]
      exact (uxG3 rfl (uxG3 rfl hI.2.2.2.2.2.2.2.2.2.2.2.2.2.2.2.2.2.1))
    have k_xG4 : xG4 W := by
      rw [hW]
      exact (uxG4 rfl (uxG4 rfl hI.2.2.2.2.2.2.2.2.2.2.2.2.2.2.2.2.2.2.1))
    have k_xG5 : xG5 W := by
      rw [hW]
      exact (uxG5 rfl (uxG5 rfl hI.2.2.2.2.2.2.2.2.2.2.2.2.2.2.2.2.2.2.2.1))
    have k_xG6 : xG6 W := by
      rw [hW]
      exact (uxG6 rfl (uxG6 rfl hI.2.2.2.2.2.2.2.2.2.2.2.2.2.2.2.2.2.2.2.2.1))
    have k_xS1 : xS1 W := by
      rw [hW]
      exact (uxS1 rfl (uxS1 rfl hI.2.2.2.2.2.2.2.2.2.2.2.2.2.2.2.2.2.2.2.2.2.1))
    have k_xS2 : xS2 W := by
      rw [hW]
      exact (uxS2 rfl (uxS2 rfl hI.2.2.2.2.2.2.2.2.2.2.2.2.2.2.2.2.2.2.2.2.2.2.1))
    have k_xS3 : xS3 W := by
      rw [hW]
      exact (uxS3 rfl (uxS3 rfl hI.2.2.2.2.2.2.2.2.2.2.2.2.2.2.2.2.2.2.2.2.2.2.2.1))
    have k_xS4 : xS4 W := by
      rw [hW]
      exact (uxS4 rfl (uxS4 rfl hI.2.2.2.2.2.2.2.2.2.2.2.2.2.2.2.2.2.2.2.2.2.2.2.2.1))
    have k_xS5 : xS5 W := by
      rw [hW]
      exact (uxS5 rfl (uxS5 rfl hI.2.2.2.2.2.2.2.2.2.2.2.2.2.2.2.2.2.2.2.2.2.2.2.2.2.1))
    have k_xS6 : xS6 W := by
      rw [hW]
      exact (uxS6 rfl (uxS6 rfl hI.2.2.2.2.2.2.2.2.2.2.2.2.2.2.2.2.2.2.2.2.2.2.2.2.2.2.1))
    have k_xS7 : xS7 W := by
      rw [hW]
      exact (uxS7 rfl (uxS7 rfl hI.2.2.2.2.2.2.2.2.2.2.2.2.2.2.2.2.2.2.2.2.2.2.2.2.2.2.2.1))
    have k_xS8 : xS8 W := by
      rw [hW]
      exact (uxS8 rfl (uxS8 rfl hI.2.2.2.2.2.2.2.2.2.2.2.2.2.2.2.2.2.2.2.2.2.2.2.2.2.2.2.2.1))
    have k_xS9 : xS9 W := by
      rw [hW]
      exact (uxS9 rfl (uxS9 rfl hI.2.2.2.2.2.2.2.2.2.2.2.2.2.2.2.2.2.2.2.2.2.2.2.2.2.2.2.2.2.1))
    have k_xSA : xSA W := by
      have r4_214 : W 4 214 = M 4 214 := by rw [hW, sU_ne (fun z => by omega), sU_ne (fun z => by omega)]
      have r4_215 : W 4 215 = M 4 215 := by rw [hW, sU_ne (fun z => by omega), sU_ne (fun z => by omega)]
      have r4_216 : W 4 216 = 1 * ρ 0 + (1 * ρ 2 + 0) := by rw [hW, sU_ne (fun z => by omega), sU_at]
      have r4_217 : W 4 217 = M 4 217 := by rw [hW, sU_ne (fun z => by omega), sU_ne (fun z => by omega)]
      have r4_219 : W 4 219 = M 4 219 := by rw [hW, sU_ne (fun z => by omega), sU_ne (fun z => by omega)]
      have r4_101 : W 4 101 = M 4 101 := by rw [hW, sU_ne (fun z => by omega), sU_ne (fun z => by omega)]
      have c92 : ∀ k, W 92 k = M 92 k := fun k => by rw [hW, sU_ne (fun z => by omega), sU_ne (fun z => by omega)]
      have e92 : W 92 = M 92 := funext c92
      intro h
      rw [r4_215, r4_216, r4_217, r4_219, r4_101, e92]
      have s1 : (1 * ρ 0 + (1 * ρ 2 + 0)).toNat = (M 4 216).toNat + 1 := by rw [h0]; omega
      rw [s1]
      refine ⟨by omega, by rw [h0]; omega, by rw [h0]; omega, by omega, by omega, by omega, by omega⟩
    have k_xSG : xSG W := by
      have r4_235 : W 4 235 = M 4 235 := by rw [hW, sU_ne (fun z => by omega), sU_ne (fun z => by omega)]
      have r4_218 : W 4 218 = -98304 * ρ 0 + (1 * ρ 4 + (1024 * ρ 6 + 0)) := by rw [hW, sU_at]
      have r4_215 : W 4 215 = M 4 215 := by rw [hW, sU_ne (fun z => by omega), sU_ne (fun z => by omega)]
      have r4_216 : W 4 216 = 1 * ρ 0 + (1 * ρ 2 + 0) := by rw [hW, sU_ne (fun z => by omega), sU_at]
      have c92 : ∀ k, W 92 k = M 92 k := fun k => by rw [hW, sU_ne (fun z => by omega), sU_ne (fun z => by omega)]
      have e92 : W 92 = M 92 := funext c92
      intro h
      rw [r4_218, r4_215, r4_216, e92]
      have g1 := gx_xSG hI (by omega)
      have s1 : (1 * ρ 0 + (1 * ρ 2 + 0) - M 4 215).toNat = (M 4 216 - M 4 215).toNat + 1 := by rw [h0]; omega
      rw [s1]
      show _ = tPk (M 92) (M 4 215).toNat (M 4 216 - M 4 215).toNat + (M 92 ((M 4 215).toNat + (M 4 216 - M 4 215).toNat) - 96) * tPw (M 4 216 - M 4 215).toNat
      rw [← g1, show (M 4 215).toNat + (M 4 216 - M 4 215).toNat = (M 4 216).toNat by omega]
      rw [show (M 4 216 - M 4 215).toNat = 3 by omega, show tPw 3 = 1024 from rfl, show M 92 (M 4 216).toNat = ρ 6 by rw [show (M 4 216).toNat = (ρ 2).toNat by omega]; have hb := xs_by hI (by omega) (k := (ρ 2).toNat) (by omega); omega]
      (try rw [h0])
      omega
    have k_xSF : xSF W := by
      rw [hW]
      exact (uxSF rfl (uxSF rfl hI.2.2.2.2.2.2.2.2.2.2.2.2.2.2.2.2.2.2.2.2.2.2.2.2.2.2.2.2.2.2.2.2.1))
    have k_xSB : xSB W := by
      rw [hW]
      exact (uxSB rfl (uxSB rfl hI.2.2.2.2.2.2.2.2.2.2.2.2.2.2.2.2.2.2.2.2.2.2.2.2.2.2.2.2.2.2.2.2.2.1))
    have k_xSC : xSC W := by
      rw [hW]
      exact (uxSC rfl (uxSC rfl hI.2.2.2.2.2.2.2.2.2.2.2.2.2.2.2.2.2.2.2.2.2.2.2.2.2.2.2.2.2.2.2.2.2.2.1))
    have k_xSD : xSD W := by
      rw [hW]
      exact (uxSD rfl (uxSD rfl hI.2.2.2.2.2.2.2.2.2.2.2.2.2.2.2.2.2.2.2.2.2.2.2.2.2.2.2.2.2.2.2.2.2.2.2.1))
    have k_xSE : xSE W := by
      rw [hW]
      exact (uxSE rfl (uxSE rfl hI.2.2.2.2.2.2.2.2.2.2.2.2.2.2.2.2.2.2.2.2.2.2.2.2.2.2.2.2.2.2.2.2.2.2.2.2.1))
    have k_xSW : xSW W := by
      rw [hW]
      exact (uxSW rfl (uxSW rfl hI.2.2.2.2.2.2.2.2.2.2.2.2.2.2.2.2.2.2.2.2.2.2.2.2.2.2.2.2.2.2.2.2.2.2.2.2.2.1))
    have k_xST : xST W := by
      rw [hW]
      exact (uxST rfl (uxST rfl hI.2.2.2.2.2.2.2.2.2.2.2.2.2.2.2.2.2.2.2.2.2.2.2.2.2.2.2.2.2.2.2.2.2.2.2.2.2.2.1))
    have k_xSP : xSP W := by
      rw [hW]
      exact (uxSP rfl (uxSP rfl hI.2.2.2.2.2.2.2.2.2.2.2.2.2.2.2.2.2.2.2.2.2.2.2.2.2.2.2.2.2.2.2.2.2.2.2.2.2.2.2.1))
    have k_xSL : xSL W := by
      rw [hW]
      exact (uxSL rfl (uxSL rfl hI.2.2.2.2.2.2.2.2.2.2.2.2.2.2.2.2.2.2.2.2.2.2.2.2.2.2.2.2.2.2.2.2.2.2.2.2.2.2.2.2.1))
    have k_xSM : xSM W := by
      rw [hW]
      exact (uxSM rfl (uxSM rfl hI.2.2.2.2.2.2.2.2.2.2.2.2.2.2.2.2.2.2.2.2.2.2.2.2.2.2.2.2.2.2.2.2.2.2.2.2.2.2.2.2.2.1))
    have k_xSI : xSI W := by
      rw [hW]
      exact (uxSI rfl (uxSI rfl hI.2.2.2.2.2.2.2.2.2.2.2.2.2.2.2.2.2.2.2.2.2.2.2.2.2.2.2.2.2.2.2.2.2.2.2.2.2.2.2.2.2.2))
    have k_XC : XC W := ⟨k_xS1, k_xS2, k_xS3, k_xS4, k_xS5, k_xS6, k_xS7, k_xS8, k_xS9, k_xSA, k_xSG, k_xSF, k_xSB, k_xSC, k_xSD, k_xSE, k_xSW, k_xST, k_xSP, k_xSL, k_xSM, k_xSI⟩
    have kXB : XB W := ⟨k_xN1, k_xN2, k_xN3, k_xN4, k_xN5, k_xN6, k_xH1, k_xK1, k_xC1, k_xRW, k_xWT, k_xCU, k_xG2, k_xG3, k_xG4, k_xG5, k_xG6, k_XC⟩
    exact ⟨base, k2, k3, kXA, kXB⟩
-- wOn4
def xr_206 : qRu := (7, [[(-1, 0), (-1, 2), (1, 5)], [(-97, 0), (1, 6)], [(122, 0), (-1, 6)], [(-4, 0), (-1, 1), (1, 2)], [(4, 0), (1, 1), (-1, 2)]], [(4, 100, [(1, 0)]), (4, 214, [(1, 0)]), (4, 215, [(1, 1)]), (4, 216, [(1, 2)]), (4, 217, [(1, 3)]), (4, 101, [(1, 5)]), (4, 235, [(1, 0)]), (4, 218, [(1, 4)]), (1, 1002, [(1, 6)])], [], [(4, 216, [(1, 0), (1, 2)]), (4, 218, [(-3072, 0), (1, 4), (32, 6)])], [[(-1, 0), (-1, 2), (1, 3)]])
theorem xo_206 : qRok xr_206 := by
  intro ρ M h0 hf hm hI
  have f0 := hf [(-1, 0), (-1, 2), (1, 5)] (by decide)
  have f1 := hf [(-97, 0), (1, 6)] (by decide)
  have f2 := hf [(122, 0), (-1, 6)] (by decide)
  have f3 := hf [(-4, 0), (-1, 1), (1, 2)] (by decide)
  have f4 := hf [(4, 0), (1, 1), (-1, 2)] (by decide)
  simp only [qD, h0] at f0 f1 f2 f3 f4
  have m0 : M 4 100 = 1 * ρ 0 + 0 := hm (4, 100, [(1, 0)]) (by decide)
  have m1 : M 4 214 = 1 * ρ 0 + 0 := hm (4, 214, [(1, 0)]) (by decide)
  have m2 : M 4 215 = 1 * ρ 1 + 0 := hm (4, 215, [(1, 1)]) (by decide)
  have m3 : M 4 216 = 1 * ρ 2 + 0 := hm (4, 216, [(1, 2)]) (by decide)
  have m4 : M 4 217 = 1 * ρ 3 + 0 := hm (4, 217, [(1, 3)]) (by decide)
  have m5 : M 4 101 = 1 * ρ 5 + 0 := hm (4, 101, [(1, 5)]) (by decide)
  have m6 : M 4 235 = 1 * ρ 0 + 0 := hm (4, 235, [(1, 0)]) (by decide)
  have m7 : M 4 218 = 1 * ρ 4 + 0 := hm (4, 218, [(1, 4)]) (by decide)
  have m8 : M 1 (zIx ρ (1000 + 2)) = 1 * ρ 6 + 0 := hm (1, 1002, [(1, 6)]) (by decide)
  rw [zix_p] at m8
  simp only [h0] at m0 m1 m6
  have qxSA := hI.2.2.2.2.2.2.2.2.2.2.2.2.2.2.2.2.2.2.2.2.2.2.2.2.2.2.2.2.2.2.1
  have qxSG := hI.2.2.2.2.2.2.2.2.2.2.2.2.2.2.2.2.2.2.2.2.2.2.2.2.2.2.2.2.2.2.2.1
  obtain ⟨u1, u2, u3, u4, u5, u6, u7⟩ := gx_xSA hI (by omega)

  have hx : 97 ≤ M 92 (M 4 216).toNat ∧ M 92 (M 4 216).toNat ≤ 122 := by rw [show (M 4 216).toNat = (ρ 2).toNat by omega]; have hb := xs_by hI (by omega) (k := (ρ 2).toNat) (by omega); omega
  have e2 := ten_on (g := M 92) (lo := 97) (hi := 122) (n := (M 4 101).toNat) (p := (M 4 216).toNat) (by omega) hx
  have e3 := ten_b (M 92) 97 122 (n := (M 4 101).toNat) (p := (M 4 216).toNat + 1) (by omega)
  refine ⟨ρ, fun _ _ => rfl, fun f h => ?_, ?_⟩
  · have h : f ∈ ([[(-1, 0), (-1, 2), (1, 3)]] : List qF) := h
    simp only [List.mem_cons, List.not_mem_nil, or_false] at h
    rcases h with rfl
    · show 0 ≤ -1 * ρ 0 + (-1 * ρ 2 + (1 * ρ 3 + 0))
      (try rw [h0]); omega
  · show sI (sU (sU M 4 216 (1 * ρ 0 + (1 * ρ 2 + 0))) 4 218 (-3072 * ρ 0 + (1 * ρ 4 + (32 * ρ 6 + 0))))
    obtain ⟨W, hW⟩ : ∃ W, W = (sU (sU M 4 216 (1 * ρ 0 + (1 * ρ 2 + 0))) 4 218 (-3072 * ρ 0 + (1 * ρ 4 + (32 * ρ 6 + 0)))) := ⟨_, rfl⟩
    rw [← hW]
    have base : sI0 W := by
      rw [hW]
      exact (si_u0 (si_u0 hI.1 (fun r hr => by cases hr)) (fun r hr => by cases hr))
    have k2 : XI2 W := by
      rw [hW]
      exact (xi2_u rfl (xi2_u rfl hI.2.1))
    have k3 : XI3 W := by
      rw [hW]
      exact (xi3_u rfl (xi3_u rfl hI.2.2.1))
    have kXA : XA W := by
      rw [hW]
      exact (uXA rfl (uXA rfl hI.2.2.2.1))
    have k_xN1 : xN1 W := by
      rw [hW]
      exact (uxN1 rfl (uxN1 rfl hI.2.2.2.2.1))
    have k_xN2 : xN2 W := by
      rw [hW]
      exact (uxN2 rfl (uxN2 rfl hI.2.2.2.2.2.1))
    have k_xN3 : xN3 W := by
      rw [hW]
      exact (uxN3 rfl (uxN3 rfl hI.2.2.2.2.2.2.1))
    have k_xN4 : xN4 W := by
      rw [hW]
      exact (uxN4 rfl (uxN4 rfl hI.2.2.2.2.2.2.2.1))
    have k_xN5 : xN5 W := by
      rw [hW]
      exact (uxN5 rfl (uxN5 rfl hI.2.2.2.2.2.2.2.2.1))
    have k_xN6 : xN6 W := by
      rw [hW]
      exact (uxN6 rfl (uxN6 rfl hI.2.2.2.2.2.2.2.2.2.1))
    have k_xH1 : xH1 W := by
      rw [hW]
      exact (uxH1 rfl (uxH1 rfl hI.2.2.2.2.2.2.2.2.2.2.1))
    have k_xK1 : xK1 W := by
      rw [hW]
      exact (uxK1 rfl (uxK1 rfl hI.2.2.2.2.2.2.2.2.2.2.2.1))
    have k_xC1 : xC1 W := by
      rw [hW]
      exact (uxC1 rfl (uxC1 rfl hI.2.2.2.2.2.2.2.2.2.2.2.2.1))
    have k_xRW : xRW W := by
      rw [hW]
      exact (uxRW rfl (uxRW rfl hI.2.2.2.2.2.2.2.2.2.2.2.2.2.1))
    have k_xWT : xWT W := by
      rw [hW]
      exact (uxWT rfl (uxWT rfl hI.2.2.2.2.2.2.2.2.2.2.2.2.2.2.1))
    have k_xCU : xCU W := by
      rw [hW]
      exact (uxCU rfl (uxCU rfl hI.2.2.2.2.2.2.2.2.2.2.2.2.2.2.2.1))
    have k_xG2 : xG2 W := by
      rw [hW]
      exact (uxG2 rfl (uxG2 rfl hI.2.2.2.2.2.2.2.2.2.2.2.2.2.2.2.2.1))
    have k_xG3 : xG3 W := by
      rw [hW]
      exact (uxG3 rfl (uxG3 rfl hI.2.2.2.2.2.2.2.2.2.2.2.2.2.2.2.2.2.1))
    have k_xG4 : xG4 W := by
      rw [hW]
      exact (uxG4 rfl (uxG4 rfl hI.2.2.2.2.2.2.2.2.2.2.2.2.2.2.2.2.2.2.1))
    have k_xG5 : xG5 W := by
      rw [hW]
      exact (uxG5 rfl (uxG5 rfl hI.2.2.2.2.2.2.2.2.2.2.2.2.2.2.2.2.2.2.2.1))
    have k_xG6 : xG6 W := by
      rw [hW]
      exact (uxG6 rfl (uxG6 rfl hI.2.2.2.2.2.2.2.2.2.2.2.2.2.2.2.2.2.2.2.2.1))
    have k_xS1 : xS1 W := by
      rw [hW]
      exact (uxS1 rfl (uxS1 rfl hI.2.2.2.2.2.2.2.2.2.2.2.2.2.2.2.2.2.2.2.2.2.1))
    have k_xS2 : xS2 W := by
      rw [hW]
      exact (uxS2 rfl (uxS2 rfl hI.2.2.2.2.2.2.2.2.2.2.2.2.2.2.2.2.2.2.2.2.2.2.1))
    have k_xS3 : xS3 W := by
      rw [hW]
      exact (uxS3 rfl (uxS3 rfl hI.2.2.2.2.2.2.2.2.2.2.2.2.2.2.2.2.2.2.2.2.2.2.2.1))
    have k_xS4 : xS4 W := by
      rw [hW]
      exact (uxS4 rfl (uxS4 rfl hI.2.2.2.2.2.2.2.2.2.2.2.2.2.2.2.2.2.2.2.2.2.2.2.2.1))
    have k_xS5 : xS5 W := by
      rw [hW]
      exact (uxS5 rfl (uxS5 rfl hI.2.2.2.2.2.2.2.2.2.2.2.2.2.2.2.2.2.2.2.2.2.2.2.2.2.1))
    have k_xS6 : xS6 W := by
      rw [hW]
      exact (uxS6 rfl (uxS6 rfl hI.2.2.2.2.2.2.2.2.2.2.2.2.2.2.2.2.2.2.2.2.2.2.2.2.2.2.1))
    have k_xS7 : xS7 W := by
      rw [hW]
      exact (uxS7 rfl (uxS7 rfl hI.2.2.2.2.2.2.2.2.2.2.2.2.2.2.2.2.2.2.2.2.2.2.2.2.2.2.2.1))
    have k_xS8 : xS8 W := by
      rw [hW]
      exact (uxS8 rfl (uxS8 rfl hI.2.2.2.2.2.2.2.2.2.2.2.2.2.2.2.2.2.2.2.2.2.2.2.2.2.2.2.2.1))
    have k_xS9 : xS9 W := by
      rw [hW]
      exact (uxS9 rfl (uxS9 rfl hI.2.2.2.2.2.2.2.2.2.2.2.2.2.2.2.2.2.2.2.2.2.2.2.2.2.2.2.2.2.1))
    have k_xSA : xSA W := by
      have r4_214 : W 4 214 = M 4 214 := by rw [hW, sU_ne (fun z => by omega), sU_ne (fun z => by omega)]
      have r4_215 : W 4 215 = M 4 215 := by rw [hW, sU_ne (fun z => by omega), sU_ne (fun z => by omega)]
      have r4_216 : W 4 216 = 1 * ρ 0 + (1 * ρ 2 + 0) := by rw [hW, sU_ne (fun z => by omega), sU_at]
      have r4_217 : W 4 217 = M 4 217 := by rw [hW, sU_ne (fun z => by omega), sU_ne (fun z => by omega)]
      have r4_219 : W 4 219 = M 4 219 := by rw [hW, sU_ne (fun z => by omega), sU_ne (fun z => by omega)]
      have r4_101 : W 4 101 = M 4 101 := by rw [hW, sU_ne (fun z => by omega), sU_ne (fun z => by omega)]
      have c92 : ∀ k, W 92 k = M 92 k := fun k => by rw [hW, sU_ne (fun z => by omega), sU_ne (fun z => by omega)]
      have e92 : W 92 = M 92 := funext c92
      intro h
      rw [r4_215, r4_216, r4_217, r4_219, r4_101, e92]
      have s1 : (1 * ρ 0 + (1 * ρ 2 + 0)).toNat = (M 4 216).toNat + 1 := by rw [h0]; omega
      rw [s1]
      refine ⟨by omega, by rw [h0]; omega, by rw [h0]; omega, by omega, by omega, by omega, by omega⟩
    have k_xSG : xSG W := by
      have r4_235 : W 4 235 = M 4 235 := by rw [hW, sU_ne (fun z => by omega), sU_ne (fun z => by omega)]
      have r4_218 : W 4 218 = -3072 * ρ 0 + (1 * ρ 4 + (32 * ρ 6 + 0)) := by rw [hW, sU_at]
      have r4_215 : W 4 215 = M 4 215 := by rw [hW, sU_ne (fun z => by omega), sU_ne (fun z => by omega)]
      have r4_216 : W 4 216 = 1 * ρ 0 + (1 * ρ 2 + 0) := by rw [hW, sU_ne (fun z => by omega), sU_at]
      have c92 : ∀ k, W 92 k = M 92 k := fun k => by rw [hW, sU_ne (fun z => by omega), sU_ne (fun z => by omega)]
      have e92 : W 92 = M 92 := funext c92
      intro h
      rw [r4_218, r4_215, r4_216, e92]
      have g1 := gx_xSG hI (by omega)
      have s1 : (1 * ρ 0 + (1 * ρ 2 + 0) - M 4 215).toNat = (M 4 216 - M 4 215).toNat + 1 := by rw [h0]; omega
      rw [s1]
      show _ = tPk (M 92) (M 4 215).toNat (M 4 216 - M 4 215).toNat + (M 92 ((M 4 215).toNat + (M 4 216 - M 4 215).toNat) - 96) * tPw (M 4 216 - M 4 215).toNat
      rw [← g1, show (M 4 215).toNat + (M 4 216 - M 4 215).toNat = (M 4 216).toNat by omega]
      rw [show (M 4 216 - M 4 215).toNat = 4 by omega, show tPw 4 = 32 from rfl, show M 92 (M 4 216).toNat = ρ 6 by rw [show (M 4 216).toNat = (ρ 2).toNat by omega]; have hb := xs_by hI (by omega) (k := (ρ 2).toNat) (by omega); omega]
      (try rw [h0])
      omega
    have k_xSF : xSF W := by
      rw [hW]
      exact (uxSF rfl (uxSF rfl hI.2.2.2.2.2.2.2.2.2.2.2.2.2.2.2.2.2.2.2.2.2.2.2.2.2.2.2.2.2.2.2.2.1))
    have k_xSB : xSB W := by
      rw [hW]
      exact (uxSB rfl (uxSB rfl hI.2.2.2.2.2.2.2.2.2.2.2.2.2.2.2.2.2.2.2.2.2.2.2.2.2.2.2.2.2.2.2.2.2.1))
    have k_xSC : xSC W := by
      rw [hW]
      exact (uxSC rfl (uxSC rfl hI.2.2.2.2.2.2.2.2.2.2.2.2.2.2.2.2.2.2.2.2.2.2.2.2.2.2.2.2.2.2.2.2.2.2.1))
    have k_xSD : xSD W := by
      rw [hW]
      exact (uxSD rfl (uxSD rfl hI.2.2.2.2.2.2.2.2.2.2.2.2.2.2.2.2.2.2.2.2.2.2.2.2.2.2.2.2.2.2.2.2.2.2.2.1))
    have k_xSE : xSE W := by
      rw [hW]
      exact (uxSE rfl (uxSE rfl hI.2.2.2.2.2.2.2.2.2.2.2.2.2.2.2.2.2.2.2.2.2.2.2.2.2.2.2.2.2.2.2.2.2.2.2.2.1))
    have k_xSW : xSW W := by
      rw [hW]
      exact (uxSW rfl (uxSW rfl hI.2.2.2.2.2.2.2.2.2.2.2.2.2.2.2.2.2.2.2.2.2.2.2.2.2.2.2.2.2.2.2.2.2.2.2.2.2.1))
    have k_xST : xST W := by
      rw [hW]
      exact (uxST rfl (uxST rfl hI.2.2.2.2.2.2.2.2.2.2.2.2.2.2.2.2.2.2.2.2.2.2.2.2.2.2.2.2.2.2.2.2.2.2.2.2.2.2.1))
    have k_xSP : xSP W := by
      rw [hW]
      exact (uxSP rfl (uxSP rfl hI.2.2.2.2.2.2.2.2.2.2.2.2.2.2.2.2.2.2.2.2.2.2.2.2.2.2.2.2.2.2.2.2.2.2.2.2.2.2.2.1))
    have k_xSL : xSL W := by
      rw [hW]
      exact (uxSL rfl (uxSL rfl hI.2.2.2.2.2.2.2.2.2.2.2.2.2.2.2.2.2.2.2.2.2.2.2.2.2.2.2.2.2.2.2.2.2.2.2.2.2.2.2.2.1))
    have k_xSM : xSM W := by
      rw [hW]
      exact (uxSM rfl (uxSM rfl hI.2.2.2.2.2.2.2.2.2.2.2.2.2.2.2.2.2.2.2.2.2.2.2.2.2.2.2.2.2.2.2.2.2.2.2.2.2.2.2.2.2.1))
    have k_xSI : xSI W := by
      rw [hW]
      exact (uxSI rfl (uxSI rfl hI.2.2.2.2.2.2.2.2.2.2.2.2.2.2.2.2.2.2.2.2.2.2.2.2.2.2.2.2.2.2.2.2.2.2.2.2.2.2.2.2.2.2))
    have k_XC : XC W := ⟨k_xS1, k_xS2, k_xS3, k_xS4, k_xS5, k_xS6, k_xS7, k_xS8, k_xS9, k_xSA, k_xSG, k_xSF, k_xSB, k_xSC, k_xSD, k_xSE, k_xSW, k_xST, k_xSP, k_xSL, k_xSM, k_xSI⟩
    have kXB : XB W := ⟨k_xN1, k_xN2, k_xN3, k_xN4, k_xN5, k_xN6, k_xH1, k_xK1, k_xC1, k_xRW, k_xWT, k_xCU, k_xG2, k_xG3, k_xG4, k_xG5, k_xG6, k_XC⟩
    exact ⟨base, k2, k3, kXA, kXB⟩
-- wOn5
def xr_207 : qRu := (7, [[(-1, 0), (-1, 2), (1, 5)], [(-97, 0), (1, 6)], [(122, 0), (-1, 6)], [(-5, 0), (-1, 1), (1, 2)], [(5, 0), (1, 1), (-1, 2)]], [(4, 100, [(1, 0)]), (4, 214, [(1, 0)]), (4, 215, [(1, 1)]), (4, 216, [(1, 2)]), (4, 217, [(1, 3)]), (4, 101, [(1, 5)]), (4, 235, [(1, 0)]), (4, 218, [(1, 4)]), (1, 1002, [(1, 6)])], [], [(4, 216, [(1, 0), (1, 2)]), (4, 218, [(-96, 0), (1, 4), (1, 6)])], [[(-1, 0), (-1, 2), (1, 3)]])
theorem xo_207 : qRok xr_207 := by
  intro ρ M h0 hf hm hI
  have f0 := hf [(-1, 0), (-1, 2), (1, 5)] (by decide)
  have f1 := hf [(-97, 0), (1, 6)] (by decide)
  have f2 := hf [(122, 0), (-1, 6)] (by decide)
  have f3 := hf [(-5, 0), (-1, 1), (1, 2)] (by decide)
  have f4 := hf [(5, 0), (1, 1), (-1, 2)] (by decide)
  simp only [qD, h0] at f0 f1 f2 f3 f4
  have m0 : M 4 100 = 1 * ρ 0 + 0 := hm (4, 100, [(1, 0)]) (by decide)
  have m1 : M 4 214 = 1 * ρ 0 + 0 := hm (4, 214, [(1, 0)]) (by decide)
  have m2 : M 4 215 = 1 * ρ 1 + 0 := hm (4, 215, [(1, 1)]) (by decide)
  have m3 : M 4 216 = 1 * ρ 2 + 0 := hm (4, 216, [(1, 2)]) (by decide)
  have m4 : M 4 217 = 1 * ρ 3 + 0 := hm (4, 217, [(1, 3)]) (by decide)
  have m5 : M 4 101 = 1 * ρ 5 + 0 := hm (4, 101, [(1, 5)]) (by decide)
  have m6 : M 4 235 = 1 * ρ 0 + 0 := hm (4, 235, [(1, 0)]) (by decide)
  have m7 : M 4 218 = 1 * ρ 4 + 0 := hm (4, 218, [(1, 4)]) (by decide)
  have m8 : M 1 (zIx ρ (1000 + 2)) = 1 * ρ 6 + 0 := hm (1, 1002, [(1, 6)]) (by decide)
  rw [zix_p] at m8
  simp only [h0] at m0 m1 m6
  have qxSA := hI.2.2.2.2.2.2.2.2.2.2.2.2.2.2.2.2.2.2.2.2.2.2.2.2.2.2.2.2.2.2.1
  have qxSG := hI.2.2.2.2.2.2.2.2.2.2.2.2.2.2.2.2.2.2.2.2.2.2.2.2.2.2.2.2.2.2.2.1
  obtain ⟨u1, u2, u3, u4, u5, u6, u7⟩ := gx_xSA hI (by omega)

  have hx : 97 ≤ M 92 (M 4 216).toNat ∧ M 92 (M 4 216).toNat ≤ 122 := by rw [show (M 4 216).toNat = (ρ 2).toNat by omega]; have hb := xs_by hI (by omega) (k := (ρ 2).toNat) (by omega); omega
  have e2 := ten_on (g := M 92) (lo := 97) (hi := 122) (n := (M 4 101).toNat) (p := (M 4 216).toNat) (by omega) hx
  have e3 := ten_b (M 92) 97 122 (n := (M 4 101).toNat) (p := (M 4 216).toNat + 1) (by omega)
  refine ⟨ρ, fun _ _ => rfl, fun f h => ?_, ?_⟩
  · have h : f ∈ ([[(-1, 0), (-1, 2), (1, 3)]] : List qF) := h
    simp only [List.mem_cons, List.not_mem_nil, or_false] at h
    rcases h with rfl
    · show 0 ≤ -1 * ρ 0 + (-1 * ρ 2 + (1 * ρ 3 + 0))
      (try rw [h0]); omega
  · show sI (sU (sU M 4 216 (1 * ρ 0 + (1 * ρ 2 + 0))) 4 218 (-96 * ρ 0 + (1 * ρ 4 + (1 * ρ 6 + 0))))
    obtain ⟨W, hW⟩ : ∃ W, W = (sU (sU M 4 216 (1 * ρ 0 + (1 * ρ 2 + 0))) 4 218 (-96 * ρ 0 + (1 * ρ 4 + (1 * ρ 6 + 0)))) := ⟨_, rfl⟩
    rw [← hW]
    have base : sI0 W := by
      rw [hW]
      exact (si_u0 (si_u0 hI.1 (fun r hr => by cases hr)) (fun r hr => by cases hr))
    have k2 : XI2 W := by
      rw [hW]
      exact (xi2_u rfl (xi2_u rfl hI.2.1))
    have k3 : XI3 W := by
      rw [hW]
      exact (xi3_u rfl (xi3_u rfl hI.2.2.1))
    have kXA : XA W := by
      rw [hW]
      exact (uXA rfl (uXA rfl hI.2.2.2.1))
    have k_xN1 : xN1 W := by
      rw [hW]
      exact (uxN1 rfl (uxN1 rfl hI.2.2.2.2.1))
    have k_xN2 : xN2 W := by
      rw [hW]
      exact (uxN2 rfl (uxN2 rfl hI.2.2.2.2.2.1))
    have k_xN3 : xN3 W := by
      rw [hW]
      exact (uxN3 rfl (uxN3 rfl hI.2.2.2.2.2.2.1))
    have k_xN4 : xN4 W := by
      rw [hW]
      exact (uxN4 rfl (uxN4 rfl hI.2.2.2.2.2.2.2.1))
    have k_xN5 : xN5 W := by
      rw [hW]
      exact (uxN5 rfl (uxN5 rfl hI.2.2.2.2.2.2.2.2.1))
    have k_xN6 : xN6 W := by
      rw [hW]
      exact (uxN6 rfl (uxN6 rfl hI.2.2.2.2.2.2.2.2.2.1))
    have k_xH1 : xH1 W := by
      rw [hW]
      exact (uxH1 rfl (uxH1 rfl hI.2.2.2.2.2.2.2.2.2.2.1))
    have k_xK1 : xK1 W := by
      rw [hW]
      exact (uxK1 rfl (uxK1 rfl hI.2.2.2.2.2.2.2.2.2.2.2.1))
    have k_xC1 : xC1 W := by
      rw [hW]
      exact (uxC1 rfl (uxC1 rfl hI.2.2.2.2.2.2.2.2.2.2.2.2.1))
    have k_xRW : xRW W := by
      rw [hW]
      exact (uxRW rfl (uxRW rfl hI.2.2.2.2.2.2.2.2.2.2.2.2.2.1))
    have k_xWT : xWT W := by
      rw [hW]
      exact (uxWT rfl (uxWT rfl hI.2.2.2.2.2.2.2.2.2.2.2.2.2.2.1))
    have k_xCU : xCU W := by
      rw [hW]
      exact (uxCU rfl (uxCU rfl hI.2.2.2.2.2.2.2.2.2.2.2.2.2.2.2.1))
    have k_xG2 : xG2 W := by
      rw [hW]
      exact (uxG2 rfl (uxG2 rfl hI.2.2.2.2.2.2.2.2.2.2.2.2.2.2.2.2.1))
    have k_xG3 : xG3 W := by
      rw [hW]
      exact (uxG3 rfl (uxG3 rfl hI.2.2.2.2.2.2.2.2.2.2.2.2.2.2.2.2.2.1))
    have k_xG4 : xG4 W := by
      rw [hW]
      exact (uxG4 rfl (uxG4 rfl hI.2.2.2.2.2.2.2.2.2.2.2.2.2.2.2.2.2.2.1))
    have k_xG5 : xG5 W := by
      rw [hW]
      exact (uxG5 rfl (uxG5 rfl hI.2.2.2.2.2.2.2.2.2.2.2.2.2.2.2.2.2.2.2.1))
    have k_xG6 : xG6 W := by
      rw [hW]
      exact (uxG6 rfl (uxG6 rfl hI.2.2.2.2.2.2.2.2.2.2.2.2.2.2.2.2.2.2.2.2.1))
    have k_xS1 : xS1 W := by
      rw [hW]
      exact (uxS1 rfl (uxS1 rfl hI.2.2.2.2.2.2.2.2.2.2.2.2.2.2.2.2.2.2.2.2.2.1))
    have k_xS2 : xS2 W := by
      rw [hW]
      exact (uxS2 rfl (uxS2 rfl hI.2.2.2.2.2.2.2.2.2.2.2.2.2.2.2.2.2.2.2.2.2.2.1))
    have k_xS3 : xS3 W := by
      rw [hW]
      exact (uxS3 rfl (uxS3 rfl hI.2.2.2.2.2.2.2.2.2.2.2.2.2.2.2.2.2.2.2.2.2.2.2.1))
    have k_xS4 : xS4 W := by
      rw [hW]
      exact (uxS4 rfl (uxS4 rfl hI.2.2.2.2.2.2.2.2.2.2.2.2.2.2.2.2.2.2.2.2.2.2.2.2.1))
    have k_xS5 : xS5 W := by
      rw [hW]
      exact (uxS5 rfl (uxS5 rfl hI.2.2.2.2.2.2.2.2.2.2.2.2.2.2.2.2.2.2.2.2.2.2.2.2.2.1))
    have k_xS6 : xS6 W := by
      rw [hW]
      exact (uxS6 rfl (uxS6 rfl hI.2.2.2.2.2.2.2.2.2.2.2.2.2.2.2.2.2.2.2.2.2.2.2.2.2.2.1))
    have k_xS7 : xS7 W := by
      rw [hW]
      exact (uxS7 rfl (uxS7 rfl hI.2.2.2.2.2.2.2.2.2.2.2.2.2.2.2.2.2.2.2.2.2.2.2.2.2.2.2.1))
    have k_xS8 : xS8 W := by
      rw [hW]
      exact (uxS8 rfl (uxS8 rfl hI.2.2.2.2.2.2.2.2.2.2.2.2.2.2.2.2.2.2.2.2.2.2.2.2.2.2.2.2.1))
    have k_xS9 : xS9 W := by
      rw [hW]
      exact (uxS9 rfl (uxS9 rfl hI.2.2.2.2.2.2.2.2.2.2.2.2.2.2.2.2.2.2.2.2.2.2.2.2.2.2.2.2.2.1))
    have k_xSA : xSA W := by
      have r4_214 : W 4 214 = M 4 214 := by rw [hW, sU_ne (fun z => by omega), sU_ne (fun z => by omega)]
      have r4_215 : W 4 215 = M 4 215 := by rw [hW, sU_ne (fun z => by omega), sU_ne (fun z => by omega)]
      have r4_216 : W 4 216 = 1 * ρ 0 + (1 * ρ 2 + 0) := by rw [hW, sU_ne (fun z => by omega), sU_at]
      have r4_217 : W 4 217 = M 4 217 := by rw [hW, sU_ne (fun z => by omega), sU_ne (fun z => by omega)]
      have r4_219 : W 4 219 = M 4 219 := by rw [hW, sU_ne (fun z => by omega), sU_ne (fun z => by omega)]
      have r4_101 : W 4 101 = M 4 101 := by rw [hW, sU_ne (fun z => by omega), sU_ne (fun z => by omega)]
      have c92 : ∀ k, W 92 k = M 92 k := fun k => by rw [hW, sU_ne (fun z => by omega), sU_ne (fun z => by omega)]
      have e92 : W 92 = M 92 := funext c92
      intro h
      rw [r4_215, r4_216, r4_217, r4_219, r4_101, e92]
      have s1 : (1 * ρ 0 + (1 * ρ 2 + 0)).toNat = (M 4 216).toNat + 1 := by rw [h0]; omega
      rw [s1]
      refine ⟨by omega, by rw [h0]; omega, by rw [h0]; omega, by omega, by omega, by omega, by omega⟩
    have k_xSG : xSG W := by
      have r4_235 : W 4 235 = M 4 235 := by rw [hW, sU_ne (fun z => by omega), sU_ne (fun z => by omega)]
      have r4_218 : W 4 218 = -96 * ρ 0 + (1 * ρ 4 + (1 * ρ 6 + 0)) := by rw [hW, sU_at]
      have r4_215 : W 4 215 = M 4 215 := by rw [hW, sU_ne (fun z => by omega), sU_ne (fun z => by omega)]
      have r4_216 : W 4 216 = 1 * ρ 0 + (1 * ρ 2 + 0) := by rw [hW, sU_ne (fun z => by omega), sU_at]
      have c92 : ∀ k, W 92 k = M 92 k := fun k => by rw [hW, sU_ne (fun z => by omega), sU_ne (fun z => by omega)]
      have e92 : W 92 = M 92 := funext c92
      intro h
      rw [r4_218, r4_215, r4_216, e92]
      have g1 := gx_xSG hI (by omega)
      have s1 : (1 * ρ 0 + (1 * ρ 2 + 0) - M 4 215).toNat = (M 4 216 - M 4 215).toNat + 1 := by rw [h0]; omega
      rw [s1]
      show _ = tPk (M 92) (M 4 215).toNat (M 4 216 - M 4 215).toNat + (M 92 ((M 4 215).toNat + (M 4 216 - M 4 215).toNat) - 96) * tPw (M 4 216 - M 4 215).toNat
      rw [← g1, show (M 4 215).toNat + (M 4 216 - M 4 215).toNat = (M 4 216).toNat by omega]
      rw [show (M 4 216 - M 4 215).toNat = 5 by omega, show tPw 5 = 1 from rfl, show M 92 (M 4 216).toNat = ρ 6 by rw [show (M 4 216).toNat = (ρ 2).toNat by omega]; have hb := xs_by hI (by omega) (k := (ρ 2).toNat) (by omega); omega]
      (try rw [h0])
      omega
    have k_xSF : xSF W := by
      rw [hW]
      exact (uxSF rfl (uxSF rfl hI.2.2.2.2.2.2.2.2.2.2.2.2.2.2.2.2.2.2.2.2.2.2.2.2.2.2.2.2.2.2.2.2.1))
    have k_xSB : xSB W := by
      rw [hW]
      exact (uxSB rfl (uxSB rfl hI.2.2.2.2.2.2.2.2.2.2.2.2.2.2.2.2.2.2.2.2.2.2.2.2.2.2.2.2.2.2.2.2.2.1))
    have k_xSC : xSC W := by
      rw [hW]
      exact (uxSC rfl (uxSC rfl hI.2.2.2.2.2.2.2.2.2.2.2.2.2.2.2.2.2.2.2.2.2.2.2.2.2.2.2.2.2.2.2.2.2.2.1))
    have k_xSD : xSD W := by
      rw [hW]
      exact (uxSD rfl (uxSD rfl hI.2.2.2.2.2.2.2.2.2.2.2.2.2.2.2.2.2.2.2.2.2.2.2.2.2.2.2.2.2.2.2.2.2.2.2.1))
    have k_xSE : xSE W := by
      rw [hW]
      exact (uxSE rfl (uxSE rfl hI.2.2.2.2.2.2.2.2.2.2.2.2.2.2.2.2.2.2.2.2.2.2.2.2.2.2.2.2.2.2.2.2.2.2.2.2.1))
    have k_xSW : xSW W := by
      rw [hW]
      exact (uxSW rfl (uxSW rfl hI.2.2.2.2.2.2.2.2.2.2.2.2.2.2.2.2.2.2.2.2.2.2.2.2.2.2.2.2.2.2.2.2.2.2.2.2.2.1))
    have k_xST : xST W := by
      rw [hW]
      exact (uxST rfl (uxST rfl hI.2.2.2.2.2.2.2.2.2.2.2.2.2.2.2.2.2.2.2.2.2.2.2.2.2.2.2.2.2.2.2.2.2.2.2.2.2.2.1))
    have k_xSP : xSP W := by
      rw [hW]
      exact (uxSP rfl (uxSP rfl hI.2.2.2.2.2.2.2.2.2.2.2.2.2.2.2.2.2.2.2.2.2.2.2.2.2.2.2.2.2.2.2.2.2.2.2.2.2.2.2.1))
    have k_xSL : xSL W := by
      rw [hW]
      exact (uxSL rfl (uxSL rfl hI.2.2.2.2.2.2.2.2.2.2.2.2.2.2.2.2.2.2.2.2.2.2.2.2.2.2.2.2.2.2.2.2.2.2.2.2.2.2.2.2.1))
    have k_xSM : xSM W := by
      rw [hW]
      exact (uxSM rfl (uxSM rfl hI.2.2.2.2.2.2.2.2.2.2.2.2.2.2.2.2.2.2.2.2.2.2.2.2.2.2.2.2.2.2.2.2.2.2.2.2.2.2.2.2.2.1))
    have k_xSI : xSI W := by
      rw [hW]
      exact (uxSI rfl (uxSI rfl hI.2.2.2.2.2.2.2.2.2.2.2.2.2.2.2.2.2.2.2.2.2.2.2.2.2.2.2.2.2.2.2.2.2.2.2.2.2.2.2.2.2.2))
    have k_XC : XC W := ⟨k_xS1, k_xS2, k_xS3, k_xS4, k_xS5, k_xS6, k_xS7, k_xS8, k_xS9, k_xSA, k_xSG, k_xSF, k_xSB, k_xSC, k_xSD, k_xSE, k_xSW, k_xST, k_xSP, k_xSL, k_xSM, k_xSI⟩
    have kXB : XB W := ⟨k_xN1, k_xN2, k_xN3, k_xN4, k_xN5, k_xN6, k_xH1, k_xK1, k_xC1, k_xRW, k_xWT, k_xCU, k_xG2, k_xG3, k_xG4, k_xG5, k_xG6, k_XC⟩
    exact ⟨base, k2, k3, kXA, kXB⟩
-- wOn6
def xr_208 : qRu := (7, [[(-1, 0), (-1, 2), (1, 5)], [(-97, 0), (1, 6)], [(122, 0), (-1, 6)], [(-6, 0), (-1, 1), (1, 2)]], [(4, 100, [(1, 0)]), (4, 214, [(1, 0)]), (4, 215, [(1, 1)]), (4, 216, [(1, 2)]), (4, 217, [(1, 3)]), (4, 101, [(1, 5)]), (4, 235, [(1, 0)]), (4, 218, [(1, 4)]), (1, 1002, [(1, 6)])], [], [(4, 216, [(1, 0), (1, 2)])], [[(-1, 0), (-1, 2), (1, 3)]])
theorem xo_208 : qRok xr_208 := by
  intro ρ M h0 hf hm hI
  have f0 := hf [(-1, 0), (-1, 2), (1, 5)] (by decide)
  have f1 := hf [(-97, 0), (1, 6)] (by decide)
  have f2 := hf [(122, 0), (-1, 6)] (by decide)
  have f3 := hf [(-6, 0), (-1, 1), (1, 2)] (by decide)
  simp only [qD, h0] at f0 f1 f2 f3
  have m0 : M 4 100 = 1 * ρ 0 + 0 := hm (4, 100, [(1, 0)]) (by decide)
  have m1 : M 4 214 = 1 * ρ 0 + 0 := hm (4, 214, [(1, 0)]) (by decide)
  have m2 : M 4 215 = 1 * ρ 1 + 0 := hm (4, 215, [(1, 1)]) (by decide)
  have m3 : M 4 216 = 1 * ρ 2 + 0 := hm (4, 216, [(1, 2)]) (by decide)
  have m4 : M 4 217 = 1 * ρ 3 + 0 := hm (4, 217, [(1, 3)]) (by decide)
  have m5 : M 4 101 = 1 * ρ 5 + 0 := hm (4, 101, [(1, 5)]) (by decide)
  have m6 : M 4 235 = 1 * ρ 0 + 0 := hm (4, 235, [(1, 0)]) (by decide)
  have m7 : M 4 218 = 1 * ρ 4 + 0 := hm (4, 218, [(1, 4)]) (by decide)
  have m8 : M 1 (zIx ρ (1000 + 2)) = 1 * ρ 6 + 0 := hm (1, 1002, [(1, 6)]) (by decide)
  rw [zix_p] at m8
  simp only [h0] at m0 m1 m6
  have qxSA := hI.2.2.2.2.2.2.2.2.2.2.2.2.2.2.2.2.2.2.2.2.2.2.2.2.2.2.2.2.2.2.1
  have qxSG := hI.2.2.2.2.2.2.2.2.2.2.2.2.2.2.2.2.2.2.2.2.2.2.2.2.2.2.2.2.2.2.2.1
  obtain ⟨u1, u2, u3, u4, u5, u6, u7⟩ := gx_xSA hI (by omega)

  have hx : 97 ≤ M 92 (M 4 216).toNat ∧ M 92 (M 4 216).toNat ≤ 122 := by rw [show (M 4 216).toNat = (ρ 2).toNat by omega]; have hb := xs_by hI (by omega) (k := (ρ 2).toNat) (by omega); omega
  have e2 := ten_on (g := M 92) (lo := 97) (hi := 122) (n := (M 4 101).toNat) (p := (M 4 216).toNat) (by omega) hx
  have e3 := ten_b (M 92) 97 122 (n := (M 4 101).toNat) (p := (M 4 216).toNat + 1) (by omega)
  refine ⟨ρ, fun _ _ => rfl, fun f h => ?_, ?_⟩
  · have h : f ∈ ([[(-1, 0), (-1, 2), (1, 3)]] : List qF) := h
    simp only [List.mem_cons, List.not_mem_nil, or_false] at h
    rcases h with rfl
    · show 0 ≤ -1 * ρ 0 + (-1 * ρ 2 + (1 * ρ 3 + 0))
      (try rw [h0]); omega
  · show sI (sU M 4 216 (1 * ρ 0 + (1 * ρ 2 + 0)))
    obtain ⟨W, hW⟩ : ∃ W, W = (sU M 4 216 (1 * ρ 0 + (1 * ρ 2 + 0))) := ⟨_, rfl⟩
    rw [← hW]
    have base : sI0 W := by
      rw [hW]
      exact (si_u0 hI.1 (fun r hr => by cases hr))
    have k2 : XI2 W := by
      rw [hW]
      exact (xi2_u rfl hI.2.1)
    have k3 : XI3 W := by
      rw [hW]
      exact (xi3_u rfl hI.2.2.1)
    have kXA : XA W := by
      rw [hW]
      exact (uXA rfl hI.2.2.2.1)
    have k_xN1 : xN1 W := by
      rw [hW]
      exact (uxN1 rfl hI.2.2.2.2.1)
    have k_xN2 : xN2 W := by
      rw [hW]
      exact (uxN2 rfl hI.2.2.2.2.2.1)
    have k_xN3 : xN3 W := by
      rw [hW]
      exact (uxN3 rfl hI.2.2.2.2.2.2.1)
    have k_xN4 : xN4 W := by
      rw [hW]
      exact (uxN4 rfl hI.2.2.2.2.2.2.2.1)
    have k_xN5 : xN5 W := by
      rw [hW]
      exact (uxN5 rfl hI.2.2.2.2.2.2.2.2.1)
    have k_xN6 : xN6 W := by
      rw [hW]
      exact (uxN6 rfl hI.2.2.2.2.2.2.2.2.2.1)
    have k_xH1 : xH1 W := by
      rw [hW]
      exact (uxH1 rfl hI.2.2.2.2.2.2.2.2.2.2.1)
    have k_xK1 : xK1 W := by
      rw [hW]
      exact (uxK1 rfl hI.2.2.2.2.2.2.2.2.2.2.2.1)
    have k_xC1 : xC1 W := by
      rw [hW]
      exact (uxC1 rfl hI.2.2.2.2.2.2.2.2.2.2.2.2.1)
    have k_xRW : xRW W := by
      rw [hW]
      exact (uxRW rfl hI.2.2.2.2.2.2.2.2.2.2.2.2.2.1)
    have k_xWT : xWT W := by
      rw [hW]
      exact (uxWT rfl hI.2.2.2.2.2.2.2.2.2.2.2.2.2.2.1)
    have k_xCU : xCU W := by
      rw [hW]
      exact (uxCU rfl hI.2.2.2.2.2.2.2.2.2.2.2.2.2.2.2.1)
    have k_xG2 : xG2 W := by
      rw [hW]
      exact (uxG2 rfl hI.2.2.2.2.2.2.2.2.2.2.2.2.2.2.2.2.1)
    have k_xG3 : xG3 W := by
      rw [hW]
      exact (uxG3 rfl hI.2.2.2.2.2.2.2.2.2.2.2.2.2.2.2.2.2.1)
    have k_xG4 : xG4 W := by
      rw [hW]
      exact (uxG4 rfl hI.2.2.2.2.2.2.2.2.2.2.2.2.2.2.2.2.2.2.1)
    have k_xG5 : xG5 W := by
      rw [hW]
      exact (uxG5 rfl hI.2.2.2.2.2.2.2.2.2.2.2.2.2.2.2.2.2.2.2.1)
    have k_xG6 : xG6 W := by
      rw [hW]
      exact (uxG6 rfl hI.2.2.2.2.2.2.2.2.2.2.2.2.2.2.2.2.2.2.2.2.1)
    have k_xS1 : xS1 W := by
      rw [hW]
      exact (uxS1 rfl hI.2.2.2.2.2.2.2.2.2.2.2.2.2.2.2.2.2.2.2.2.2.1)
    have k_xS2 : xS2 W := by
      rw [hW]
      exact (uxS2 rfl hI.2.2.2.2.2.2.2.2.2.2.2.2.2.2.2.2.2.2.2.2.2.2.1)
    have k_xS3 : xS3 W := by
      rw [hW]
      exact (uxS3 rfl hI.2.2.2.2.2.2.2.2.2.2.2.2.2.2.2.2.2.2.2.2.2.2.2.1)
    have k_xS4 : xS4 W := by
      rw [hW]
      exact (uxS4 rfl hI.2.2.2.2.2.2.2.2.2.2.2.2.2.2.2.2.2.2.2.2.2.2.2.2.1)
    have k_xS5 : xS5 W := by
      rw [hW]
      exact (uxS5 rfl hI.2.2.2.2.2.2.2.2.2.2.2.2.2.2.2.2.2.2.2.2.2.2.2.2.2.1)
    have k_xS6 : xS6 W := by
      rw [hW]
      exact (uxS6 rfl hI.2.2.2.2.2.2.2.2.2.2.2.2.2.2.2.2.2.2.2.2.2.2.2.2.2.2.1)
    have k_xS7 : xS7 W := by
      rw [hW]
      exact (uxS7 rfl hI.2.2.2.2.2.2.2.2.2.2.2.2.2.2.2.2.2.2.2.2.2.2.2.2.2.2.2.1)
    have k_xS8 : xS8 W := by
      rw [hW]
      exact (uxS8 rfl hI.2.2.2.2.2.2.2.2.2.2.2.2.2.2.2.2.2.2.2.2.2.2.2.2.2.2.2.2.1)
    have k_xS9 : xS9 W := by
      rw [hW]
      exact (uxS9 rfl hI.2.2.2.2.2.2.2.2.2.2.2.2.2.2.2.2.2.2.2.2.2.2.2.2.2.2.2.2.2.1)
    have k_xSA : xSA W := by
      have r4_214 : W 4 214 = M 4 214 := by rw [hW, sU_ne (fun z => by omega)]
      have r4_215 : W 4 215 = M 4 215 := by rw [hW, sU_ne (fun z => by omega)]
      have r4_216 : W 4 216 = 1 * ρ 0 + (1 * ρ 2 + 0) := by rw [hW, sU_at]
      have r4_217 : W 4 217 = M 4 217 := by rw [hW, sU_ne (fun z => by omega)]
      have r4_219 : W 4 219 = M 4 219 := by rw [hW, sU_ne (fun z => by omega)]
      have r4_101 : W 4 101 = M 4 101 := by rw [hW, sU_ne (fun z => by omega)]
      have c92 : ∀ k, W 92 k = M 92 k := fun k => by rw [hW, sU_ne (fun z => by omega)]
      have e92 : W 92 = M 92 := funext c92
      intro h
      rw [r4_215, r4_216, r4_217, r4_219, r4_101, e92]
      have s1 : (1 * ρ 0 + (1 * ρ 2 + 0)).toNat = (M 4 216).toNat + 1 := by rw [h0]; omega
      rw [s1]
      refine ⟨by omega, by rw [h0]; omega, by rw [h0]; omega, by omega, by omega, by omega, by omega⟩
    have k_xSG : xSG W := by
      have r4_235 : W 4 235 = M 4 235 := by rw [hW, sU_ne (fun z => by omega)]
      have r4_218 : W 4 218 = M 4 218 := by rw [hW, sU_ne (fun z => by omega)]
      have r4_215 : W 4 215 = M 4 215 := by rw [hW, sU_ne (fun z => by omega)]
      have r4_216 : W 4 216 = 1 * ρ 0 + (1 * ρ 2 + 0) := by rw [hW, sU_at]
      have c92 : ∀ k, W 92 k = M 92 k := fun k => by rw [hW, sU_ne (fun z => by omega)]
      have e92 : W 92 = M 92 := funext c92
      intro h
      rw [r4_218, r4_215, r4_216, e92]
      have g1 := gx_xSG hI (by omega)
      have s1 : (1 * ρ 0 + (1 * ρ 2 + 0) - M 4 215).toNat = (M 4 216 - M 4 215).toNat + 1 := by rw [h0]; omega
      rw [s1]
      show _ = tPk (M 92) (M 4 215).toNat (M 4 216 - M 4 215).toNat + (M 92 ((M 4 215).toNat + (M 4 216 - M 4 215).toNat) - 96) * tPw (M 4 216 - M 4 215).toNat
      rw [← g1, show (M 4 215).toNat + (M 4 216 - M 4 215).toNat = (M 4 216).toNat by omega]
      rw [tpw_0 (by omega)]
      omega
    have k_xSF : xSF W := by
      rw [hW]
      exact (uxSF rfl hI.2.2.2.2.2.2.2.2.2.2.2.2.2.2.2.2.2.2.2.2.2.2.2.2.2.2.2.2.2.2.2.2.1)
    have k_xSB : xSB W := by
      rw [hW]
      exact (uxSB rfl hI.2.2.2.2.2.2.2.2.2.2.2.2.2.2.2.2.2.2.2.2.2.2.2.2.2.2.2.2.2.2.2.2.2.1)
    have k_xSC : xSC W := by
      rw [hW]
      exact (uxSC rfl hI.2.2.2.2.2.2.2.2.2.2.2.2.2.2.2.2.2.2.2.2.2.2.2.2.2.2.2.2.2.2.2.2.2.2.1)
    have k_xSD : xSD W := by
      rw [hW]
      exact (uxSD rfl hI.2.2.2.2.2.2.2.2.2.2.2.2.2.2.2.2.2.2.2.2.2.2.2.2.2.2.2.2.2.2.2.2.2.2.2.1)
    have k_xSE : xSE W := by
      rw [hW]
      exact (uxSE rfl hI.2.2.2.2.2.2.2.2.2.2.2.2.2.2.2.2.2.2.2.2.2.2.2.2.2.2.2.2.2.2.2.2.2.2.2.2.1)
    have k_xSW : xSW W := by
      rw [hW]
      exact (uxSW rfl hI.2.2.2.2.2.2.2.2.2.2.2.2.2.2.2.2.2.2.2.2.2.2.2.2.2.2.2.2.2.2.2.2.2.2.2.2.2.1)
    have k_xST : xST W := by
      rw [hW]
      exact (uxST rfl hI.2.2.2.2.2.2.2.2.2.2.2.2.2.2.2.2.2.2.2.2.2.2.2.2.2.2.2.2.2.2.2.2.2.2.2.2.2.2.1)
    have k_xSP : xSP W := by
      rw [hW]
      exact (uxSP rfl hI.2.2.2.2.2.2.2.2.2.2.2.2.2.2.2.2.2.2.2.2.2.2.2.2.2.2.2.2.2.2.2.2.2.2.2.2.2.2.2.1)
    have k_xSL : xSL W := by
      rw [hW]
      exact (uxSL rfl hI.2.2.2.2.2.2.2.2.2.2.2.2.2.2.2.2.2.2.2.2.2.2.2.2.2.2.2.2.2.2.2.2.2.2.2.2.2.2.2.2.1)
    have k_xSM : xSM W := by
      rw [hW]
      exact (uxSM rfl hI.2.2.2.2.2.2.2.2.2.2.2.2.2.2.2.2.2.2.2.2.2.2.2.2.2.2.2.2.2.2.2.2.2.2.2.2.2.2.2.2.2.1)
    have k_xSI : xSI W := by
      rw [hW]
      exact (uxSI rfl hI.2.2.2.2.2.2.2.2.2.2.2.2.2.2.2.2.2.2.2.2.2.2.2.2.2.2.2.2.2.2.2.2.2.2.2.2.2.2.2.2.2.2)
    have k_XC : XC W := ⟨k_xS1, k_xS2, k_xS3, k_xS4, k_xS5, k_xS6, k_xS7, k_xS8, k_xS9, k_xSA, k_xSG, k_xSF, k_xSB, k_xSC, k_xSD, k_xSE, k_xSW, k_xST, k_xSP, k_xSL, k_xSM, k_xSI⟩
    have kXB : XB W := ⟨k_xN1, k_xN2, k_xN3, k_xN4, k_xN5, k_xN6, k_xH1, k_xK1, k_xC1, k_xRW, k_xWT, k_xCU, k_xG2, k_xG3, k_xG4, k_xG5, k_xG6, k_XC⟩
    exact ⟨base, k2, k3, kXA, kXB⟩
-- wOnR
def xr_209 : qRu := (9, [[(-1, 0), (-1, 2), (1, 5)], [(-97, 0), (1, 6)], [(122, 0), (-1, 6)], [(-1, 2), (1, 7)], [(1, 2), (-1, 7)], [(-1, 5), (1, 8)], [(1, 5), (-1, 8)]], [(4, 214, [(1, 0)]), (4, 215, [(1, 1)]), (4, 216, [(1, 2)]), (4, 217, [(1, 3)]), (4, 101, [(1, 5)]), (4, 235, []), (91, 990, [(1, 6)]), (91, 27, [(1, 7)]), (91, 26, [(1, 8)])], [], [(4, 216, [(1, 0), (1, 2)])], [[(-1, 0), (-1, 2), (1, 3)]])
theorem xo_209 : qRok xr_209 := by
  intro ρ M h0 hf hm hI
  have f0 := hf [(-1, 0), (-1, 2), (1, 5)] (by decide)
  have f1 := hf [(-97, 0), (1, 6)] (by decide)
  have f2 := hf [(122, 0), (-1, 6)] (by decide)
  have f3 := hf [(-1, 2), (1, 7)] (by decide)
  have f4 := hf [(1, 2), (-1, 7)] (by decide)
  have f5 := hf [(-1, 5), (1, 8)] (by decide)
  have f6 := hf [(1, 5), (-1, 8)] (by decide)
  simp only [qD, h0] at f0 f1 f2 f3 f4 f5 f6
  have m0 : M 4 214 = 1 * ρ 0 + 0 := hm (4, 214, [(1, 0)]) (by decide)
  have m1 : M 4 215 = 1 * ρ 1 + 0 := hm (4, 215, [(1, 1)]) (by decide)
  have m2 : M 4 216 = 1 * ρ 2 + 0 := hm (4, 216, [(1, 2)]) (by decide)
  have m3 : M 4 217 = 1 * ρ 3 + 0 := hm (4, 217, [(1, 3)]) (by decide)
  have m4 : M 4 101 = 1 * ρ 5 + 0 := hm (4, 101, [(1, 5)]) (by decide)
  have m5 : M 4 235 = 0 := hm (4, 235, []) (by decide)
  have m6 : M 91 990 = 1 * ρ 6 + 0 := hm (91, 990, [(1, 6)]) (by decide)
  have m7 : M 91 27 = 1 * ρ 7 + 0 := hm (91, 27, [(1, 7)]) (by decide)
  have m8 : M 91 26 = 1 * ρ 8 + 0 := hm (91, 26, [(1, 8)]) (by decide)
  simp only [h0] at m0
  have qxSA := hI.2.2.2.2.2.2.2.2.2.2.2.2.2.2.2.2.2.2.2.2.2.2.2.2.2.2.2.2.2.2.1
  obtain ⟨u1, u2, u3, u4, u5, u6, u7⟩ := gx_xSA hI (by omega)

  have hx : 97 ≤ M 92 (M 4 216).toNat ∧ M 92 (M 4 216).toNat ≤ 122 := by rw [show (M 4 216).toNat = (M 91 27).toNat by omega, ← xs_hr hI (by omega)]; omega
  have e2 := ten_on (g := M 92) (lo := 97) (hi := 122) (n := (M 4 101).toNat) (p := (M 4 216).toNat) (by omega) hx
  have e3 := ten_b (M 92) 97 122 (n := (M 4 101).toNat) (p := (M 4 216).toNat + 1) (by omega)
  refine ⟨ρ, fun _ _ => rfl, fun f h => ?_, ?_⟩
  · have h : f ∈ ([[(-1, 0), (-1, 2), (1, 3)]] : List qF) := h
    simp only [List.mem_cons, List.not_mem_nil, or_false] at h
    rcases h with rfl
    · show 0 ≤ -1 * ρ 0 + (-1 * ρ 2 + (1 * ρ 3 + 0))
      (try rw [h0]); omega
  · show sI (sU M 4 216 (1 * ρ 0 + (1 * ρ 2 + 0)))
    obtain ⟨W, hW⟩ : ∃ W, W = (sU M 4 216 (1 * ρ 0 + (1 * ρ 2 + 0))) := ⟨_, rfl⟩
    rw [← hW]
    have base : sI0 W := by
      rw [hW]
      exact (si_u0 hI.1 (fun r hr => by cases hr))
    have k2 : XI2 W := by
      rw [hW]
      exact (xi2_u rfl hI.2.1)
    have k3 : XI3 W := by
      rw [hW]
      exact (xi3_u rfl hI.2.2.1)
    have kXA : XA W := by
      rw [hW]
      exact (uXA rfl hI.2.2.2.1)
    have k_xN1 : xN1 W := by
      rw [hW]
      exact (uxN1 rfl hI.2.2.2.2.1)
    have k_xN2 : xN2 W := by
      rw [hW]
      exact (uxN2 rfl hI.2.2.2.2.2.1)
    have k_xN3 : xN3 W := by
      rw [hW]
      exact (uxN3 rfl hI.2.2.2.2.2.2.1)
    have k_xN4 : xN4 W := by
      rw [hW]
      exact (uxN4 rfl hI.2.2.2.2.2.2.2.1)
    have k_xN5 : xN5 W := by
      rw [hW]
      exact (uxN5 rfl hI.2.2.2.2.2.2.2.2.1)
    have k_xN6 : xN6 W := by
      rw [hW]
      exact (uxN6 rfl hI.2.2.2.2.2.2.2.2.2.1)
    have k_xH1 : xH1 W := by
      rw [hW]
      exact (uxH1 rfl hI.2.2.2.2.2.2.2.2.2.2.1)
    have k_xK1 : xK1 W := by
      rw [hW]
      exact (uxK1 rfl hI.2.2.2.2.2.2.2.2.2.2.2.1)
    have k_xC1 : xC1 W := by
      rw [hW]
      exact (uxC1 rfl hI.2.2.2.2.2.2.2.2.2.2.2.2.1)
    have k_xRW : xRW W := by
      rw [hW]
      exact (uxRW rfl hI.2.2.2.2.2.2.2.2.2.2.2.2.2.1)
    have k_xWT : xWT W := by
      rw [hW]
      exact (uxWT rfl hI.2.2.2.2.2.2.2.2.2.2.2.2.2.2.1)
    have k_xCU : xCU W := by
      rw [hW]
      exact (uxCU rfl hI.2.2.2.2.2.2.2.2.2.2.2.2.2.2.2.1)
    have k_xG2 : xG2 W := by
      rw [hW]
      exact (uxG2 rfl hI.2.2.2.2.2.2.2.2.2.2.2.2.2.2.2.2.1)
    have k_xG3 : xG3 W := by
      rw [hW]
      exact (uxG3 rfl hI.2.2.2.2.2.2.2.2.2.2.2.2.2.2.2.2.2.1)
    have k_xG4 : xG4 W := by
      rw [hW]
      exact (uxG4 rfl hI.2.2.2.2.2.2.2.2.2.2.2.2.2.2.2.2.2.2.1)
    have k_xG5 : xG5 W := by
      rw [hW]
      exact (uxG5 rfl hI.2.2.2.2.2.2.2.2.2.2.2.2.2.2.2.2.2.2.2.1)
    have k_xG6 : xG6 W := by
      rw [hW]
      exact (uxG6 rfl hI.2.2.2.2.2.2.2.2.2.2.2.2.2.2.2.2.2.2.2.2.1)
    have k_xS1 : xS1 W := by
      rw [hW]
      exact (uxS1 rfl hI.2.2.2.2.2.2.2.2.2.2.2.2.2.2.2.2.2.2.2.2.2.1)
    have k_xS2 : xS2 W := by
      rw [hW]
      exact (uxS2 rfl hI.2.2.2.2.2.2.2.2.2.2.2.2.2.2.2.2.2.2.2.2.2.2.1)
    have k_xS3 : xS3 W := by
      rw [hW]
      exact (uxS3 rfl hI.2.2.2.2.2.2.2.2.2.2.2.2.2.2.2.2.2.2.2.2.2.2.2.1)
    have k_xS4 : xS4 W := by
      rw [hW]
      exact (uxS4 rfl hI.2.2.2.2.2.2.2.2.2.2.2.2.2.2.2.2.2.2.2.2.2.2.2.2.1)
    have k_xS5 : xS5 W := by
      rw [hW]
      exact (uxS5 rfl hI.2.2.2.2.2.2.2.2.2.2.2.2.2.2.2.2.2.2.2.2.2.2.2.2.2.1)
    have k_xS6 : xS6 W := by
      rw [hW]
      exact (uxS6 rfl hI.2.2.2.2.2.2.2.2.2.2.2.2.2.2.2.2.2.2.2.2.2.2.2.2.2.2.1)
    have k_xS7 : xS7 W := by
      rw [hW]
      exact (uxS7 rfl hI.2.2.2.2.2.2.2.2.2.2.2.2.2.2.2.2.2.2.2.2.2.2.2.2.2.2.2.1)
    have k_xS8 : xS8 W := by
      rw [hW]
      exact (uxS8 rfl hI.2.2.2.2.2.2.2.2.2.2.2.2.2.2.2.2.2.2.2.2.2.2.2.2.2.2.2.2.1)
    have k_xS9 : xS9 W := by
      rw [hW]
      exact (uxS9 rfl hI.2.2.2.2.2.2.2.2.2.2.2.2.2.2.2.2.2.2.2.2.2.2.2.2.2.2.2.2.2.1)
    have k_xSA : xSA W := by
      have r4_214 : W 4 214 = M 4 214 := by rw [hW, sU_ne (fun z => by omega)]
      have r4_215 : W 4 215 = M 4 215 := by rw [hW, sU_ne (fun z => by omega)]
      have r4_216 : W 4 216 = 1 * ρ 0 + (1 * ρ 2 + 0) := by rw [hW, sU_at]
      have r4_217 : W 4 217 = M 4 217 := by rw [hW, sU_ne (fun z => by omega)]
      have r4_219 : W 4 219 = M 4 219 := by rw [hW, sU_ne (fun z => by omega)]
      have r4_101 : W 4 101 = M 4 101 := by rw [hW, sU_ne (fun z => by omega)]
      have c92 : ∀ k, W 92 k = M 92 k := fun k => by rw [hW, sU_ne (fun z => by omega)]
      have e92 : W 92 = M 92 := funext c92
      intro h
      rw [r4_215, r4_216, r4_217, r4_219, r4_101, e92]
      have s1 : (1 * ρ 0 + (1 * ρ 2 + 0)).toNat = (M 4 216).toNat + 1 := by rw [h0]; omega
      rw [s1]
      refine ⟨by omega, by rw [h0]; omega, by rw [h0]; omega, by omega, by omega, by omega, by omega⟩
    have k_xSG : xSG W := by
      have r : W 4 235 = 0 := by
        have e := m5
        rw [hW, sU_ne (fun z => by omega)]
        omega
      intro h
      rw [r] at h
      omega
    have k_xSF : xSF W := by
      rw [hW]
      exact (uxSF rfl hI.2.2.2.2.2.2.2.2.2.2.2.2.2.2.2.2.2.2.2.2.2.2.2.2.2.2.2.2.2.2.2.2.1)
    have k_xSB : xSB W := by
      rw [hW]
      exact (uxSB rfl hI.2.2.2.2.2.2.2.2.2.2.2.2.2.2.2.2.2.2.2.2.2.2.2.2.2.2.2.2.2.2.2.2.2.1)
    have k_xSC : xSC W := by
      rw [hW]
      exact (uxSC rfl hI.2.2.2.2.2.2.2.2.2.2.2.2.2.2.2.2.2.2.2.2.2.2.2.2.2.2.2.2.2.2.2.2.2.2.1)
    have k_xSD : xSD W := by
      rw [hW]
      exact (uxSD rfl hI.2.2.2.2.2.2.2.2.2.2.2.2.2.2.2.2.2.2.2.2.2.2.2.2.2.2.2.2.2.2.2.2.2.2.2.1)
    have k_xSE : xSE W := by
      rw [hW]
      exact (uxSE rfl hI.2.2.2.2.2.2.2.2.2.2.2.2.2.2.2.2.2.2.2.2.2.2.2.2.2.2.2.2.2.2.2.2.2.2.2.2.1)
    have k_xSW : xSW W := by
      rw [hW]
      exact (uxSW rfl hI.2.2.2.2.2.2.2.2.2.2.2.2.2.2.2.2.2.2.2.2.2.2.2.2.2.2.2.2.2.2.2.2.2.2.2.2.2.1)
    have k_xST : xST W := by
      rw [hW]
      exact (uxST rfl hI.2.2.2.2.2.2.2.2.2.2.2.2.2.2.2.2.2.2.2.2.2.2.2.2.2.2.2.2.2.2.2.2.2.2.2.2.2.2.1)
    have k_xSP : xSP W := by
      rw [hW]
      exact (uxSP rfl hI.2.2.2.2.2.2.2.2.2.2.2.2.2.2.2.2.2.2.2.2.2.2.2.2.2.2.2.2.2.2.2.2.2.2.2.2.2.2.2.1)
    have k_xSL : xSL W := by
      rw [hW]
      exact (uxSL rfl hI.2.2.2.2.2.2.2.2.2.2.2.2.2.2.2.2.2.2.2.2.2.2.2.2.2.2.2.2.2.2.2.2.2.2.2.2.2.2.2.2.1)
    have k_xSM : xSM W := by
      rw [hW]
      exact (uxSM rfl hI.2.2.2.2.2.2.2.2.2.2.2.2.2.2.2.2.2.2.2.2.2.2.2.2.2.2.2.2.2.2.2.2.2.2.2.2.2.2.2.2.2.1)
    have k_xSI : xSI W := by
      rw [hW]
      exact (uxSI rfl hI.2.2.2.2.2.2.2.2.2.2.2.2.2.2.2.2.2.2.2.2.2.2.2.2.2.2.2.2.2.2.2.2.2.2.2.2.2.2.2.2.2.2)
    have k_XC : XC W := ⟨k_xS1, k_xS2, k_xS3, k_xS4, k_xS5, k_xS6, k_xS7, k_xS8, k_xS9, k_xSA, k_xSG, k_xSF, k_xSB, k_xSC, k_xSD, k_xSE, k_xSW, k_xST, k_xSP, k_xSL, k_xSM, k_xSI⟩
    have kXB : XB W := ⟨k_xN1, k_xN2, k_xN3, k_xN4, k_xN5, k_xN6, k_xH1, k_xK1, k_xC1, k_xRW, k_xWT, k_xCU, k_xG2, k_xG3, k_xG4, k_xG5, k_xG6, k_XC⟩
    exact ⟨base, k2, k3, kXA, kXB⟩
-- wStopE
def xr_210 : qRu := (8, [[(1, 2), (-1, 5)]], [(4, 214, [(1, 0)]), (4, 215, [(1, 1)]), (4, 216, [(1, 2)]), (4, 217, [(1, 3)]), (4, 101, [(1, 5)]), (4, 235, [(1, 0)]), (4, 218, [(1, 4)]), (4, 219, [(1, 7)])], [], [], [[(-1, 2), (1, 3)], [(1, 2), (-1, 3)], [(1, 4), (-1, 7)], [(-1, 4), (1, 7)], [(1, 7)], [(1073741823, 0), (-1, 7)]])
theorem xo_210 : qRok xr_210 := by
  intro ρ M h0 hf hm hI
  have f0 := hf [(1, 2), (-1, 5)] (by decide)
  simp only [qD, h0] at f0
  have m0 : M 4 214 = 1 * ρ 0 + 0 := hm (4, 214, [(1, 0)]) (by decide)
  have m1 : M 4 215 = 1 * ρ 1 + 0 := hm (4, 215, [(1, 1)]) (by decide)
  have m2 : M 4 216 = 1 * ρ 2 + 0 := hm (4, 216, [(1, 2)]) (by decide)
  have m3 : M 4 217 = 1 * ρ 3 + 0 := hm (4, 217, [(1, 3)]) (by decide)
  have m4 : M 4 101 = 1 * ρ 5 + 0 := hm (4, 101, [(1, 5)]) (by decide)
  have m5 : M 4 235 = 1 * ρ 0 + 0 := hm (4, 235, [(1, 0)]) (by decide)
  have m6 : M 4 218 = 1 * ρ 4 + 0 := hm (4, 218, [(1, 4)]) (by decide)
  have m7 : M 4 219 = 1 * ρ 7 + 0 := hm (4, 219, [(1, 7)]) (by decide)
  simp only [h0] at m0 m5
  obtain ⟨u1, u2, u3, u4, u5, u6, u7⟩ := gx_xSA hI (by omega)

  have e2 := ten_at (g := M 92) (lo := 97) (hi := 122) (n := (M 4 101).toNat) (p := (M 4 216).toNat) (by omega)

  have g1 := gx_xSG hI (by omega)
  have ee : M 4 217 = M 4 216 := by omega
  rw [ee] at u7
  have tb := tpk_b (g := M 92) (q := (M 4 215).toNat) (l := (M 4 216 - M 4 215).toNat) (fun i hi => ten_all (n := (M 4 101).toNat) (by omega) (by omega))
  refine ⟨ρ, fun _ _ => rfl, fun f h => ?_, ?_⟩
  · have h : f ∈ ([[(-1, 2), (1, 3)], [(1, 2), (-1, 3)], [(1, 4), (-1, 7)], [(-1, 4), (1, 7)], [(1, 7)], [(1073741823, 0), (-1, 7)]] : List qF) := h
    simp only [List.mem_cons, List.not_mem_nil, or_false] at h
    rcases h with rfl | rfl | rfl | rfl | rfl | rfl
    · show 0 ≤ -1 * ρ 2 + (1 * ρ 3 + 0)
      (try rw [h0]); omega
    · show 0 ≤ 1 * ρ 2 + (-1 * ρ 3 + 0)
      (try rw [h0]); omega
    · show 0 ≤ 1 * ρ 4 + (-1 * ρ 7 + 0)
      (try rw [h0]); omega
    · show 0 ≤ -1 * ρ 4 + (1 * ρ 7 + 0)
      (try rw [h0]); omega
    · show 0 ≤ 1 * ρ 7 + 0
      (try rw [h0]); omega
    · show 0 ≤ 1073741823 * ρ 0 + (-1 * ρ 7 + 0)
      (try rw [h0]); omega
  · show sI M
    exact hI
-- wStopL
def xr_211 : qRu := (8, [[(-1, 0), (-1, 2), (1, 5)], [(96, 0), (-1, 6)]], [(4, 100, [(1, 0)]), (4, 214, [(1, 0)]), (4, 215, [(1, 1)]), (4, 216, [(1, 2)]), (4, 217, [(1, 3)]), (4, 101, [(1, 5)]), (1, 1002, [(1, 6)]), (4, 235, [(1, 0)]), (4, 218, [(1, 4)]), (4, 219, [(1, 7)])], [], [], [[(-1, 2), (1, 3)], [(1, 2), (-1, 3)], [(1, 4), (-1, 7)], [(-1, 4), (1, 7)], [(1, 7)], [(1073741823, 0), (-1, 7)]])
theorem xo_211 : qRok xr_211 := by
  intro ρ M h0 hf hm hI
  have f0 := hf [(-1, 0), (-1, 2), (1, 5)] (by decide)
  have f1 := hf [(96, 0), (-1, 6)] (by decide)
  simp only [qD, h0] at f0 f1
  have m0 : M 4 100 = 1 * ρ 0 + 0 := hm (4, 100, [(1, 0)]) (by decide)
  have m1 : M 4 214 = 1 * ρ 0 + 0 := hm (4, 214, [(1, 0)]) (by decide)
  have m2 : M 4 215 = 1 * ρ 1 + 0 := hm (4, 215, [(1, 1)]) (by decide)
  have m3 : M 4 216 = 1 * ρ 2 + 0 := hm (4, 216, [(1, 2)]) (by decide)
  have m4 : M 4 217 = 1 * ρ 3 + 0 := hm (4, 217, [(1, 3)]) (by decide)
  have m5 : M 4 101 = 1 * ρ 5 + 0 := hm (4, 101, [(1, 5)]) (by decide)
  have m6 : M 1 (zIx ρ (1000 + 2)) = 1 * ρ 6 + 0 := hm (1, 1002, [(1, 6)]) (by decide)
  rw [zix_p] at m6
  have m7 : M 4 235 = 1 * ρ 0 + 0 := hm (4, 235, [(1, 0)]) (by decide)
  have m8 : M 4 218 = 1 * ρ 4 + 0 := hm (4, 218, [(1, 4)]) (by decide)
  have m9 : M 4 219 = 1 * ρ 7 + 0 := hm (4, 219, [(1, 7)]) (by decide)
  simp only [h0] at m0 m1 m7
  obtain ⟨u1, u2, u3, u4, u5, u6, u7⟩ := gx_xSA hI (by omega)

  have hb := xs_by hI (by omega) (k := (ρ 2).toNat) (by omega)

  have e2 := ten_at (g := M 92) (lo := 97) (hi := 122) (n := (M 4 101).toNat) (p := (M 4 216).toNat) (by rw [show (M 4 216).toNat = (ρ 2).toNat by omega]; omega)

  have g1 := gx_xSG hI (by omega)
  have ee : M 4 217 = M 4 216 := by omega
  rw [ee] at u7
  have tb := tpk_b (g := M 92) (q := (M 4 215).toNat) (l := (M 4 216 - M 4 215).toNat) (fun i hi => ten_all (n := (M 4 101).toNat) (by omega) (by omega))
  refine ⟨ρ, fun _ _ => rfl, fun f h => ?_, ?_⟩
  · have h : f ∈ ([[(-1, 2), (1, 3)], [(1, 2), (-1, 3)], [(1, 4), (-1, 7)], [(-1, 4), (1, 7)], [(1, 7)], [(1073741823, 0), (-1, 7)]] : List qF) := h
    simp only [List.mem_cons, List.not_mem_nil, or_false] at h
    rcases h with rfl | rfl | rfl | rfl | rfl | rfl
    · show 0 ≤ -1 * ρ 2 + (1 * ρ 3 + 0)
      (try rw [h0]); omega
    · show 0 ≤ 1 * ρ 2 + (-1 * ρ 3 + 0)
      (try rw [h0]); omega
    · show 0 ≤ 1 * ρ 4 + (-1 * ρ 7 + 0)
      (try rw [h0]); omega
    · show 0 ≤ -1 * ρ 4 + (1 * ρ 7 + 0)
      (try rw [h0]); omega
    · show 0 ≤ 1 * ρ 7 + 0
      (try rw [h0]); omega
    · show 0 ≤ 1073741823 * ρ 0 + (-1 * ρ 7 + 0)
      (try rw [h0]); omega
  · show sI M
    exact hI
-- wStopRL
def xr_212 : qRu := (10, [[(-1, 0), (-1, 2), (1, 5)], [(96, 0), (-1, 6)], [(-1, 2), (1, 8)], [(1, 2), (-1, 8)], [(-1, 5), (1, 9)], [(1, 5), (-1, 9)]], [(4, 214, [(1, 0)]), (4, 215, [(1, 1)]), (4, 216, [(1, 2)]), (4, 217, [(1, 3)]), (4, 101, [(1, 5)]), (91, 990, [(1, 6)]), (91, 27, [(1, 8)]), (91, 26, [(1, 9)])], [], [], [[(-1, 2), (1, 3)], [(1, 2), (-1, 3)]])
theorem xo_212 : qRok xr_212 := by
  intro ρ M h0 hf hm hI
  have f0 := hf [(-1, 0), (-1, 2), (1, 5)] (by decide)
  have f1 := hf [(96, 0), (-1, 6)] (by decide)
  have f2 := hf [(-1, 2), (1, 8)] (by decide)
  have f3 := hf [(1, 2), (-1, 8)] (by decide)
  have f4 := hf [(-1, 5), (1, 9)] (by decide)
  have f5 := hf [(1, 5), (-1, 9)] (by decide)
  simp only [qD, h0] at f0 f1 f2 f3 f4 f5
  have m0 : M 4 214 = 1 * ρ 0 + 0 := hm (4, 214, [(1, 0)]) (by decide)
  have m1 : M 4 215 = 1 * ρ 1 + 0 := hm (4, 215, [(1, 1)]) (by decide)
  have m2 : M 4 216 = 1 * ρ 2 + 0 := hm (4, 216, [(1, 2)]) (by decide)
  have m3 : M 4 217 = 1 * ρ 3 + 0 := hm (4, 217, [(1, 3)]) (by decide)
  have m4 : M 4 101 = 1 * ρ 5 + 0 := hm (4, 101, [(1, 5)]) (by decide)
  have m5 : M 91 990 = 1 * ρ 6 + 0 := hm (91, 990, [(1, 6)]) (by decide)
  have m6 : M 91 27 = 1 * ρ 8 + 0 := hm (91, 27, [(1, 8)]) (by decide)
  have m7 : M 91 26 = 1 * ρ 9 + 0 := hm (91, 26, [(1, 9)]) (by decide)
  simp only [h0] at m0
  obtain ⟨u1, u2, u3, u4, u5, u6, u7⟩ := gx_xSA hI (by omega)

  have hh := xs_hr hI (by omega)

  have e2 := ten_at (g := M 92) (lo := 97) (hi := 122) (n := (M 4 101).toNat) (p := (M 4 216).toNat) (by rw [show (M 4 216).toNat = (M 91 27).toNat by omega, ← hh]; omega)
  refine ⟨ρ, fun _ _ => rfl, fun f h => ?_, ?_⟩
  · have h : f ∈ ([[(-1, 2), (1, 3)], [(1, 2), (-1, 3)]] : List qF) := h
    simp only [List.mem_cons, List.not_mem_nil, or_false] at h
    rcases h with rfl | rfl
    · show 0 ≤ -1 * ρ 2 + (1 * ρ 3 + 0)
      (try rw [h0]); omega
    · show 0 ≤ 1 * ρ 2 + (-1 * ρ 3 + 0)
      (try rw [h0]); omega
  · show sI M
    exact hI
-- wStopH
def xr_213 : qRu := (8, [[(-1, 0), (-1, 2), (1, 5)], [(-123, 0), (1, 6)]], [(4, 100, [(1, 0)]), (4, 214, [(1, 0)]), (4, 215, [(1, 1)]), (4, 216, [(1, 2)]), (4, 217, [(1, 3)]), (4, 101, [(1, 5)]), (1, 1002, [(1, 6)]), (4, 235, [(1, 0)]), (4, 218, [(1, 4)]), (4, 219, [(1, 7)])], [], [], [[(-1, 2), (1, 3)], [(1, 2), (-1, 3)], [(1, 4), (-1, 7)], [(-1, 4), (1, 7)], [(1, 7)], [(1073741823, 0), (-1, 7)]])
theorem xo_213 : qRok xr_213 := by
  intro ρ M h0 hf hm hI
  have f0 := hf [(-1, 0), (-1, 2), (1, 5)] (by decide)
  have f1 := hf [(-123, 0), (1, 6)] (by decide)
  simp only [qD, h0] at f0 f1
  have m0 : M 4 100 = 1 * ρ 0 + 0 := hm (4, 100, [(1, 0)]) (by decide)
  have m1 : M 4 214 = 1 * ρ 0 + 0 := hm (4, 214, [(1, 0)]) (by decide)
  have m2 : M 4 215 = 1 * ρ 1 + 0 := hm (4, 215, [(1, 1)]) (by decide)
  have m3 : M 4 216 = 1 * ρ 2 + 0 := hm (4, 216, [(1, 2)]) (by decide)
  have m4 : M 4 217 = 1 * ρ 3 + 0 := hm (4, 217, [(1, 3)]) (by decide)
  have m5 : M 4 101 = 1 * ρ 5 + 0 := hm (4, 101, [(1, 5)]) (by decide)
  have m6 : M 1 (zIx ρ (1000 + 2)) = 1 * ρ 6 + 0 := hm (1, 1002, [(1, 6)]) (by decide)
  rw [zix_p] at m6
  have m7 : M 4 235 = 1 * ρ 0 + 0 := hm (4, 235, [(1, 0)]) (by decide)
  have m8 : M 4 218 = 1 * ρ 4 + 0 := hm (4, 218, [(1, 4)]) (by decide)
  have m9 : M 4 219 = 1 * ρ 7 + 0 := hm (4, 219, [(1, 7)]) (by decide)
  simp only [h0] at m0 m1 m7
  obtain ⟨u1, u2, u3, u4, u5, u6, u7⟩ := gx_xSA hI (by omega)

  have hb := xs_by hI (by omega) (k := (ρ 2).toNat) (by omega)

  have e2 := ten_at (g := M 92) (lo := 97) (hi := 122) (n := (M 4 101).toNat) (p := (M 4 216).toNat) (by rw [show (M 4 216).toNat = (ρ 2).toNat by omega]; omega)

  have g1 := gx_xSG hI (by omega)
  have ee : M 4 217 = M 4 216 := by omega
  rw [ee] at u7
  have tb := tpk_b (g := M 92) (q := (M 4 215).toNat) (l := (M 4 216 - M 4 215).toNat) (fun i hi => ten_all (n := (M 4 101).toNat) (by omega) (by omega))
  refine ⟨ρ, fun _ _ => rfl, fun f h => ?_, ?_⟩
  · have h : f ∈ ([[(-1, 2), (1, 3)], [(1, 2), (-1, 3)], [(1, 4), (-1, 7)], [(-1, 4), (1, 7)], [(1, 7)], [(1073741823, 0), (-1, 7)]] : List qF) := h
    simp only [List.mem_cons, List.not_mem_nil, or_false] at h
    rcases h with rfl | rfl | rfl | rfl | rfl | rfl
    · show 0 ≤ -1 * ρ 2 + (1 * ρ 3 + 0)
      (try rw [h0]); omega
    · show 0 ≤ 1 * ρ 2 + (-1 * ρ 3 + 0)
      (try rw [h0]); omega
    · show 0 ≤ 1 * ρ 4 + (-1 * ρ 7 + 0)
      (try rw [h0]); omega
    · show 0 ≤ -1 * ρ 4 + (1 * ρ 7 + 0)
      (try rw [h0]); omega
    · show 0 ≤ 1 * ρ 7 + 0
      (try rw [h0]); omega
    · show 0 ≤ 1073741823 * ρ 0 + (-1 * ρ 7 + 0)
      (try rw [h0]); omega
  · show sI M
    exact hI
-- wStopRH
def xr_214 : qRu := (10, [[(-1, 0), (-1, 2), (1, 5)], [(-123, 0), (1, 6)], [(-1, 2), (1, 8)], [(1, 2), (-1, 8)], [(-1, 5), (1, 9)], [(1, 5), (-1, 9)]], [(4, 214, [(1, 0)]), (4, 215, [(1, 1)]), (4, 216, [(1, 2)]), (4, 217, [(1, 3)]), (4, 101, [(1, 5)]), (91, 990, [(1, 6)]), (91, 27, [(1, 8)]), (91, 26, [(1, 9)])], [], [], [[(-1, 2), (1, 3)], [(1, 2), (-1, 3)]])
theorem xo_214 : qRok xr_214 := by
  intro ρ M h0 hf hm hI
  have f0 := hf [(-1, 0), (-1, 2), (1, 5)] (by decide)
  have f1 := hf [(-123, 0), (1, 6)] (by decide)
  have f2 := hf [(-1, 2), (1, 8)] (by decide)
  have f3 := hf [(1, 2), (-1, 8)] (by decide)
  have f4 := hf [(-1, 5), (1, 9)] (by decide)
  have f5 := hf [(1, 5), (-1, 9)] (by decide)
  simp only [qD, h0] at f0 f1 f2 f3 f4 f5
  have m0 : M 4 214 = 1 * ρ 0 + 0 := hm (4, 214, [(1, 0)]) (by decide)
  have m1 : M 4 215 = 1 * ρ 1 + 0 := hm (4, 215, [(1, 1)]) (by decide)
  have m2 : M 4 216 = 1 * ρ 2 + 0 := hm (4, 216, [(1, 2)]) (by decide)
  have m3 : M 4 217 = 1 * ρ 3 + 0 := hm (4, 217, [(1, 3)]) (by decide)
  have m4 : M 4 101 = 1 * ρ 5 + 0 := hm (4, 101, [(1, 5)]) (by decide)
  have m5 : M 91 990 = 1 * ρ 6 + 0 := hm (91, 990, [(1, 6)]) (by decide)
  have m6 : M 91 27 = 1 * ρ 8 + 0 := hm (91, 27, [(1, 8)]) (by decide)
  have m7 : M 91 26 = 1 * ρ 9 + 0 := hm (91, 26, [(1, 9)]) (by decide)
  simp only [h0] at m0
  obtain ⟨u1, u2, u3, u4, u5, u6, u7⟩ := gx_xSA hI (by omega)

  have hh := xs_hr hI (by omega)

  have e2 := ten_at (g := M 92) (lo := 97) (hi := 122) (n := (M 4 101).toNat) (p := (M 4 216).toNat) (by rw [show (M 4 216).toNat = (M 91 27).toNat by omega, ← hh]; omega)
  refine ⟨ρ, fun _ _ => rfl, fun f h => ?_, ?_⟩
  · have h : f ∈ ([[(-1, 2), (1, 3)], [(1, 2), (-1, 3)]] : List qF) := h
    simp only [List.mem_cons, List.not_mem_nil, or_false] at h
    rcases h with rfl | rfl
    · show 0 ≤ -1 * ρ 2 + (1 * ρ 3 + 0)
      (try rw [h0]); omega
    · show 0 ≤ 1 * ρ 2 + (-1 * ρ 3 + 0)
      (try rw [h0]); omega
  · show sI M
    exact hI
-- wStopRE
def xr_215 : qRu := (6, [[(1, 2), (-1, 5)]], [(4, 214, [(1, 0)]), (4, 215, [(1, 1)]), (4, 216, [(1, 2)]), (4, 217, [(1, 3)]), (4, 101, [(1, 5)])], [], [], [[(-1, 2), (1, 3)], [(1, 2), (-1, 3)]])
theorem xo_215 : qRok xr_215 := by
  intro ρ M h0 hf hm hI
  have f0 := hf [(1, 2), (-1, 5)] (by decide)
  simp only [qD, h0] at f0
  have m0 : M 4 214 = 1 * ρ 0 + 0 := hm (4, 214, [(1, 0)]) (by decide)
  have m1 : M 4 215 = 1 * ρ 1 + 0 := hm (4, 215, [(1, 1)]) (by decide)
  have m2 : M 4 216 = 1 * ρ 2 + 0 := hm (4, 216, [(1, 2)]) (by decide)
  have m3 : M 4 217 = 1 * ρ 3 + 0 := hm (4, 217, [(1, 3)]) (by decide)
  have m4 : M 4 101 = 1 * ρ 5 + 0 := hm (4, 101, [(1, 5)]) (by decide)
  simp only [h0] at m0
  obtain ⟨u1, u2, u3, u4, u5, u6, u7⟩ := gx_xSA hI (by omega)

  have e2 := ten_at (g := M 92) (lo := 97) (hi := 122) (n := (M 4 101).toNat) (p := (M 4 216).toNat) (by omega)
  refine ⟨ρ, fun _ _ => rfl, fun f h => ?_, ?_⟩
  · have h : f ∈ ([[(-1, 2), (1, 3)], [(1, 2), (-1, 3)]] : List qF) := h
    simp only [List.mem_cons, List.not_mem_nil, or_false] at h
    rcases h with rfl | rfl
    · show 0 ≤ -1 * ρ 2 + (1 * ρ 3 + 0)
      (try rw [h0]); omega
    · show 0 ≤ 1 * ρ 2 + (-1 * ρ 3 + 0)
      (try rw [h0]); omega
  · show sI M
    exact hI
-- wLong_c
def xr_216 : qRu := (13, [[(-1, 0), (1, 5)], [(1, 1)], [(-1, 1), (1, 9)], [(1, 1), (-1, 9)], [(-1, 0), (-1, 1), (1, 10)], [(-7, 0), (-1, 9), (1, 10)]], [(4, 210, [(1, 0)]), (4, 211, [(1, 1)]), (4, 101, [(1, 2)]), (3, 46, [(1, 3)]), (3, 47, [(1, 4)]), (4, 100, [(1, 5)]), (3, 44, [(1, 6)]), (3, 45, [(1, 7)]), (4, 107, [(1, 8)]), (4, 214, [(1, 0)]), (4, 215, [(1, 9)]), (4, 217, [(1, 10)]), (4, 219, [(1, 11)]), (4, 216, [(1, 12)])], [], [], [[(-1, 1), (1, 3)], [(1, 1), (-1, 3)], [(1, 4), (-1, 10)], [(-1, 4), (1, 10)], [(-1, 0), (1, 6)], [(1, 0), (-1, 6)], [(1, 7), (-1, 11)], [(-1, 7), (1, 11)]])
theorem xo_216 : qRok xr_216 := by
  intro ρ M h0 hf hm hI
  have f0 := hf [(-1, 0), (1, 5)] (by decide)
  have f1 := hf [(1, 1)] (by decide)
  have f2 := hf [(-1, 1), (1, 9)] (by decide)
  have f3 := hf [(1, 1), (-1, 9)] (by decide)
  have f4 := hf [(-1, 0), (-1, 1), (1, 10)] (by decide)
  have f5 := hf [(-7, 0), (-1, 9), (1, 10)] (by decide)
  simp only [qD, h0] at f0 f1 f2 f3 f4 f5
  have m0 : M 4 210 = 1 * ρ 0 + 0 := hm (4, 210, [(1, 0)]) (by decide)
  have m1 : M 4 211 = 1 * ρ 1 + 0 := hm (4, 211, [(1, 1)]) (by decide)
  have m2 : M 4 101 = 1 * ρ 2 + 0 := hm (4, 101, [(1, 2)]) (by decide)
  have m3 : M 3 46 = 1 * ρ 3 + 0 := hm (3, 46, [(1, 3)]) (by decide)
  have m4 : M 3 47 = 1 * ρ 4 + 0 := hm (3, 47, [(1, 4)]) (by decide)
  have m5 : M 4 100 = 1 * ρ 5 + 0 := hm (4, 100, [(1, 5)]) (by decide)
  have m6 : M 3 44 = 1 * ρ 6 + 0 := hm (3, 44, [(1, 6)]) (by decide)
  have m7 : M 3 45 = 1 * ρ 7 + 0 := hm (3, 45, [(1, 7)]) (by decide)
  have m8 : M 4 107 = 1 * ρ 8 + 0 := hm (4, 107, [(1, 8)]) (by decide)
  have m9 : M 4 214 = 1 * ρ 0 + 0 := hm (4, 214, [(1, 0)]) (by decide)
  have m10 : M 4 215 = 1 * ρ 9 + 0 := hm (4, 215, [(1, 9)]) (by decide)
  have m11 : M 4 217 = 1 * ρ 10 + 0 := hm (4, 217, [(1, 10)]) (by decide)
  have m12 : M 4 219 = 1 * ρ 11 + 0 := hm (4, 219, [(1, 11)]) (by decide)
  have m13 : M 4 216 = 1 * ρ 12 + 0 := hm (4, 216, [(1, 12)]) (by decide)
  simp only [h0] at m0 m9
  obtain ⟨u1, u2, _⟩ := gx_xS8 hI (by omega)

  obtain ⟨a1, a2, a3, a4, a5, a6, a7⟩ := gx_xSA hI (by omega)
  have eq1 : (M 4 215).toNat = (M 4 211).toNat := by omega
  rw [eq1] at a6 a7
  have hgt := ten_gt (g := M 92) (lo := 97) (hi := 122) (n := (M 4 101).toNat) (q := (M 4 211).toNat) (by omega)
  have el1 : (M 4 217 - M 4 215).toNat = tEn (M 92) 97 122 (M 4 101).toNat (M 4 211).toNat - (M 4 211).toNat := by omega
  rw [el1] at a7

  obtain ⟨t1, t2, t3, t4, t5, t6⟩ := tk_of hI (by omega) (by omega) (by omega) (show tAt (M 92) (M 4 101).toNat (M 4 211).toNat (M 4 107) (M 4 108) = (1, M 4 219, ((M 4 211).toNat : Int), M 4 217, 5, -1) from by
    unfold tAt
    rw [if_neg (by omega), if_pos hgt.2]
    unfold tWo
    rw [← a7, ← a6]
    unfold tWk tWs tWv
    rw [if_pos (by omega), if_pos (by omega), if_pos (by omega)])
  refine ⟨ρ, fun _ _ => rfl, fun f h => ?_, ?_⟩
  · have h : f ∈ ([[(-1, 1), (1, 3)], [(1, 1), (-1, 3)], [(1, 4), (-1, 10)], [(-1, 4), (1, 10)], [(-1, 0), (1, 6)], [(1, 0), (-1, 6)], [(1, 7), (-1, 11)], [(-1, 7), (1, 11)]] : List qF) := h
    simp only [List.mem_cons, List.not_mem_nil, or_false] at h
    rcases h with rfl | rfl | rfl | rfl | rfl | rfl | rfl | rfl
    · show 0 ≤ -1 * ρ 1 + (1 * ρ 3 + 0)
      (try rw [h0]); omega
    · show 0 ≤ 1 * ρ 1 + (-1 * ρ 3 + 0)
      (try rw [h0]); omega
    · show 0 ≤ 1 * ρ 4 + (-1 * ρ 10 + 0)
      (try rw [h0]); omega
    · show 0 ≤ -1 * ρ 4 + (1 * ρ 10 + 0)
      (try rw [h0]); omega
    · show 0 ≤ -1 * ρ 0 + (1 * ρ 6 + 0)
      (try rw [h0]); omega
    · show 0 ≤ 1 * ρ 0 + (-1 * ρ 6 + 0)
      (try rw [h0]); omega
    · show 0 ≤ 1 * ρ 7 + (-1 * ρ 11 + 0)
      (try rw [h0]); omega
    · show 0 ≤ -1 * ρ 7 + (1 * ρ 11 + 0)
      (try rw [h0]); omega
  · show sI M
    exact hI
-- wLong_r
def xr_217 : qRu := (13, [[(-1, 0), (1, 5)], [(1, 1)], [(-1, 1), (1, 9)], [(1, 1), (-1, 9)], [(-1, 0), (-1, 1), (1, 10)], [(-7, 0), (-1, 9), (1, 10)]], [(4, 210, [(1, 0)]), (4, 211, [(1, 1)]), (4, 101, [(1, 2)]), (3, 46, [(1, 3)]), (3, 47, [(1, 4)]), (4, 100, [(1, 5)]), (3, 50, [(1, 6)]), (3, 51, [(1, 7)]), (4, 108, [(1, 8)]), (4, 214, [(1, 0)]), (4, 215, [(1, 9)]), (4, 217, [(1, 10)]), (4, 219, [(1, 11)]), (4, 216, [(1, 12)])], [], [], [[(-1, 1), (1, 3)], [(1, 1), (-1, 3)], [(1, 4), (-1, 10)], [(-1, 4), (1, 10)], [(-5, 0), (1, 6)], [(5, 0), (-1, 6)], [(1, 0), (1, 7)], [(-1, 0), (-1, 7)]])
theorem xo_217 : qRok xr_217 := by
  intro ρ M h0 hf hm hI
  have f0 := hf [(-1, 0), (1, 5)] (by decide)
  have f1 := hf [(1, 1)] (by decide)
  have f2 := hf [(-1, 1), (1, 9)] (by decide)
  have f3 := hf [(1, 1), (-1, 9)] (by decide)
  have f4 := hf [(-1, 0), (-1, 1), (1, 10)] (by decide)
  have f5 := hf [(-7, 0), (-1, 9), (1, 10)] (by decide)
  simp only [qD, h0] at f0 f1 f2 f3 f4 f5
  have m0 : M 4 210 = 1 * ρ 0 + 0 := hm (4, 210, [(1, 0)]) (by decide)
  have m1 : M 4 211 = 1 * ρ 1 + 0 := hm (4, 211, [(1, 1)]) (by decide)
  have m2 : M 4 101 = 1 * ρ 2 + 0 := hm (4, 101, [(1, 2)]) (by decide)
  have m3 : M 3 46 = 1 * ρ 3 + 0 := hm (3, 46, [(1, 3)]) (by decide)
  have m4 : M 3 47 = 1 * ρ 4 + 0 := hm (3, 47, [(1, 4)]) (by decide)
  have m5 : M 4 100 = 1 * ρ 5 + 0 := hm (4, 100, [(1, 5)]) (by decide)
  have m6 : M 3 50 = 1 * ρ 6 + 0 := hm (3, 50, [(1, 6)]) (by decide)
  have m7 : M 3 51 = 1 * ρ 7 + 0 := hm (3, 51, [(1, 7)]) (by decide)
  have m8 : M 4 108 = 1 * ρ 8 + 0 := hm (4, 108, [(1, 8)]) (by decide)
  have m9 : M 4 214 = 1 * ρ 0 + 0 := hm (4, 214, [(1, 0)]) (by decide)
  have m10 : M 4 215 = 1 * ρ 9 + 0 := hm (4, 215, [(1, 9)]) (by decide)
  have m11 : M 4 217 = 1 * ρ 10 + 0 := hm (4, 217, [(1, 10)]) (by decide)
  have m12 : M 4 219 = 1 * ρ 11 + 0 := hm (4, 219, [(1, 11)]) (by decide)
  have m13 : M 4 216 = 1 * ρ 12 + 0 := hm (4, 216, [(1, 12)]) (by decide)
  simp only [h0] at m0 m9
  obtain ⟨u1, u2, _⟩ := gx_xS8 hI (by omega)

  obtain ⟨a1, a2, a3, a4, a5, a6, a7⟩ := gx_xSA hI (by omega)
  have eq1 : (M 4 215).toNat = (M 4 211).toNat := by omega
  rw [eq1] at a6 a7
  have hgt := ten_gt (g := M 92) (lo := 97) (hi := 122) (n := (M 4 101).toNat) (q := (M 4 211).toNat) (by omega)
  have el1 : (M 4 217 - M 4 215).toNat = tEn (M 92) 97 122 (M 4 101).toNat (M 4 211).toNat - (M 4 211).toNat := by omega
  rw [el1] at a7

  obtain ⟨t1, t2, t3, t4, t5, t6⟩ := tk_of hI (by omega) (by omega) (by omega) (show tAt (M 92) (M 4 101).toNat (M 4 211).toNat (M 4 107) (M 4 108) = (1, M 4 219, ((M 4 211).toNat : Int), M 4 217, 5, -1) from by
    unfold tAt
    rw [if_neg (by omega), if_pos hgt.2]
    unfold tWo
    rw [← a7, ← a6]
    unfold tWk tWs tWv
    rw [if_pos (by omega), if_pos (by omega), if_pos (by omega)])
  refine ⟨ρ, fun _ _ => rfl, fun f h => ?_, ?_⟩
  · have h : f ∈ ([[(-1, 1), (1, 3)], [(1, 1), (-1, 3)], [(1, 4), (-1, 10)], [(-1, 4), (1, 10)], [(-5, 0), (1, 6)], [(5, 0), (-1, 6)], [(1, 0), (1, 7)], [(-1, 0), (-1, 7)]] : List qF) := h
    simp only [List.mem_cons, List.not_mem_nil, or_false] at h
    rcases h with rfl | rfl | rfl | rfl | rfl | rfl | rfl | rfl
    · show 0 ≤ -1 * ρ 1 + (1 * ρ 3 + 0)
      (try rw [h0]); omega
    · show 0 ≤ 1 * ρ 1 + (-1 * ρ 3 + 0)
      (try rw [h0]); omega
    · show 0 ≤ 1 * ρ 4 + (-1 * ρ 10 + 0)
      (try rw [h0]); omega
    · show 0 ≤ -1 * ρ 4 + (1 * ρ 10 + 0)
      (try rw [h0]); omega
    · show 0 ≤ -5 * ρ 0 + (1 * ρ 6 + 0)
      (try rw [h0]); omega
    · show 0 ≤ 5 * ρ 0 + (-1 * ρ 6 + 0)
      (try rw [h0]); omega
    · show 0 ≤ 1 * ρ 0 + (1 * ρ 7 + 0)
      (try rw [h0]); omega
    · show 0 ≤ -1 * ρ 0 + (-1 * ρ 7 + 0)
      (try rw [h0]); omega
  · show sI M
    exact hI
-- wHit_c
def xr_218 : qRu := (15, [[(-1, 0), (1, 5)], [(1, 1)], [(-1, 1), (1, 9)], [(1, 1), (-1, 9)], [(-1, 0), (-1, 1), (1, 10)], [(6, 0), (1, 9), (-1, 10)], [(1, 13)], [(23, 0), (-1, 13)], [(-1, 11), (1, 14)], [(1, 11), (-1, 14)]], [(4, 210, [(1, 0)]), (4, 211, [(1, 1)]), (4, 101, [(1, 2)]), (3, 46, [(1, 3)]), (3, 47, [(1, 4)]), (4, 100, [(1, 5)]), (3, 44, [(1, 6)]), (3, 45, [(1, 7)]), (4, 107, [(1, 8)]), (4, 214, [(1, 0)]), (4, 215, [(1, 9)]), (4, 217, [(1, 10)]), (4, 219, [(1, 11)]), (4, 216, [(1, 12)]), (4, 226, [(1, 0)]), (4, 227, [(1, 13)]), (57, 1013, [(1, 14)])], [], [], [[(-1, 1), (1, 3)], [(1, 1), (-1, 3)], [(1, 4), (-1, 10)], [(-1, 4), (1, 10)], [(-18, 0), (1, 6), (-1, 13)], [(18, 0), (-1, 6), (1, 13)], [(1, 7), (-1, 11)], [(-1, 7), (1, 11)]])
theorem xo_218 : qRok xr_218 := by
  intro ρ M h0 hf hm hI
  have f0 := hf [(-1, 0), (1, 5)] (by decide)
  have f1 := hf [(1, 1)] (by decide)
  have f2 := hf [(-1, 1), (1, 9)] (by decide)
  have f3 := hf [(1, 1), (-1, 9)] (by decide)
  have f4 := hf [(-1, 0), (-1, 1), (1, 10)] (by decide)
  have f5 := hf [(6, 0), (1, 9), (-1, 10)] (by decide)
  have f6 := hf [(1, 13)] (by decide)
  have f7 := hf [(23, 0), (-1, 13)] (by decide)
  have f8 := hf [(-1, 11), (1, 14)] (by decide)
  have f9 := hf [(1, 11), (-1, 14)] (by decide)
  simp only [qD, h0] at f0 f1 f2 f3 f4 f5 f6 f7 f8 f9
  have m0 : M 4 210 = 1 * ρ 0 + 0 := hm (4, 210, [(1, 0)]) (by decide)
  have m1 : M 4 211 = 1 * ρ 1 + 0 := hm (4, 211, [(1, 1)]) (by decide)
  have m2 : M 4 101 = 1 * ρ 2 + 0 := hm (4, 101, [(1, 2)]) (by decide)
  have m3 : M 3 46 = 1 * ρ 3 + 0 := hm (3, 46, [(1, 3)]) (by decide)
  have m4 : M 3 47 = 1 * ρ 4 + 0 := hm (3, 47, [(1, 4)]) (by decide)
  have m5 : M 4 100 = 1 * ρ 5 + 0 := hm (4, 100, [(1, 5)]) (by decide)
  have m6 : M 3 44 = 1 * ρ 6 + 0 := hm (3, 44, [(1, 6)]) (by decide)
  have m7 : M 3 45 = 1 * ρ 7 + 0 := hm (3, 45, [(1, 7)]) (by decide)
  have m8 : M 4 107 = 1 * ρ 8 + 0 := hm (4, 107, [(1, 8)]) (by decide)
  have m9 : M 4 214 = 1 * ρ 0 + 0 := hm (4, 214, [(1, 0)]) (by decide)
  have m10 : M 4 215 = 1 * ρ 9 + 0 := hm (4, 215, [(1, 9)]) (by decide)
  have m11 : M 4 217 = 1 * ρ 10 + 0 := hm (4, 217, [(1, 10)]) (by decide)
  have m12 : M 4 219 = 1 * ρ 11 + 0 := hm (4, 219, [(1, 11)]) (by decide)
  have m13 : M 4 216 = 1 * ρ 12 + 0 := hm (4, 216, [(1, 12)]) (by decide)
  have m14 : M 4 226 = 1 * ρ 0 + 0 := hm (4, 226, [(1, 0)]) (by decide)
  have m15 : M 4 227 = 1 * ρ 13 + 0 := hm (4, 227, [(1, 13)]) (by decide)
  have m16 : M 57 (zIx ρ (1000 + 13)) = 1 * ρ 14 + 0 := hm (57, 1013, [(1, 14)]) (by decide)
  rw [zix_p] at m16
  simp only [h0] at m0 m9 m14
  obtain ⟨u1, u2, _⟩ := gx_xS8 hI (by omega)

  obtain ⟨a1, a2, a3, a4, a5, a6, a7⟩ := gx_xSA hI (by omega)
  have eq1 : (M 4 215).toNat = (M 4 211).toNat := by omega
  rw [eq1] at a6 a7
  have hgt := ten_gt (g := M 92) (lo := 97) (hi := 122) (n := (M 4 101).toNat) (q := (M 4 211).toNat) (by omega)
  have el1 : (M 4 217 - M 4 215).toNat = tEn (M 92) 97 122 (M 4 101).toNat (M 4 211).toNat - (M 4 211).toNat := by omega
  rw [el1] at a7

  obtain ⟨l1, l2, l3⟩ := gx_xSC hI (by omega)

  obtain ⟨t1, t2, t3, t4, t5, t6⟩ := tk_of hI (by omega) (by omega) (by omega) (show tAt (M 92) (M 4 101).toNat (M 4 211).toNat (M 4 107) (M 4 108) = (18 + M 4 227, M 4 219, ((M 4 211).toNat : Int), M 4 217, 0, M 4 227) from by
    unfold tAt
    rw [if_neg (by omega), if_pos hgt.2]
    unfold tWo
    rw [← a7, ← a6]
    have hk : tKi (M 4 219) 0 = 18 + M 4 227 := by
      rw [← l3, tki_on (xs_57 hI (w := (M 4 227).toNat) (by omega)), if_pos (by rw [show (M 4 227).toNat = (ρ 13).toNat by omega]; omega)]
      omega
    unfold tWk tWs tWv
    rw [if_neg (by omega), if_neg (by omega), if_neg (by omega), hk, if_neg (by omega), if_neg (by omega), show 18 + M 4 227 - 18 = M 4 227 by omega])
  refine ⟨ρ, fun _ _ => rfl, fun f h => ?_, ?_⟩
  · have h : f ∈ ([[(-1, 1), (1, 3)], [(1, 1), (-1, 3)], [(1, 4), (-1, 10)], [(-1, 4), (1, 10)], [(-18, 0), (1, 6), (-1, 13)], [(18, 0), (-1, 6), (1, 13)], [(1, 7), (-1, 11)], [(-1, 7), (1, 11)]] : List qF) := h
    simp only [List.mem_cons, List.not_mem_nil, or_false] at h
    rcases h with rfl | rfl | rfl | rfl | rfl | rfl | rfl | rfl
    · show 0 ≤ -1 * ρ 1 + (1 * ρ 3 + 0)
      (try rw [h0]); omega
    · show 0 ≤ 1 * ρ 1 + (-1 * ρ 3 + 0)
      (try rw [h0]); omega
    · show 0 ≤ 1 * ρ 4 + (-1 * ρ 10 + 0)
      (try rw [h0]); omega
    · show 0 ≤ -1 * ρ 4 + (1 * ρ 10 + 0)
      (try rw [h0]); omega
    · show 0 ≤ -18 * ρ 0 + (1 * ρ 6 + (-1 * ρ 13 + 0))
      (try rw [h0]); omega
    · show 0 ≤ 18 * ρ 0 + (-1 * ρ 6 + (1 * ρ 13 + 0))
      (try rw [h0]); omega
    · show 0 ≤ 1 * ρ 7 + (-1 * ρ 11 + 0)
      (try rw [h0]); omega
    · show 0 ≤ -1 * ρ 7 + (1 * ρ 11 + 0)
      (try rw [h0]); omega
  · show sI M
    exact hI
-- wHit_r
def xr_219 : qRu := (15, [[(-1, 0), (1, 5)], [(1, 1)], [(-1, 1), (1, 9)], [(1, 1), (-1, 9)], [(-1, 0), (-1, 1), (1, 10)], [(6, 0), (1, 9), (-1, 10)], [(1, 13)], [(23, 0), (-1, 13)], [(-1, 11), (1, 14)], [(1, 11), (-1, 14)]], [(4, 210, [(1, 0)]), (4, 211, [(1, 1)]), (4, 101, [(1, 2)]), (3, 46, [(1, 3)]), (3, 47, [(1, 4)]), (4, 100, [(1, 5)]), (3, 50, [(1, 6)]), (3, 51, [(1, 7)]), (4, 108, [(1, 8)]), (4, 214, [(1, 0)]), (4, 215, [(1, 9)]), (4, 217, [(1, 10)]), (4, 219, [(1, 11)]), (4, 216, [(1, 12)]), (4, 226, [(1, 0)]), (4, 227, [(1, 13)]), (57, 1013, [(1, 14)])], [], [], [[(-1, 1), (1, 3)], [(1, 1), (-1, 3)], [(1, 4), (-1, 10)], [(-1, 4), (1, 10)], [(1, 6)], [(-1, 6)], [(1, 7), (-1, 13)], [(-1, 7), (1, 13)]])
theorem xo_219 : qRok xr_219 := by
  intro ρ M h0 hf hm hI
  have f0 := hf [(-1, 0), (1, 5)] (by decide)
  have f1 := hf [(1, 1)] (by decide)
  have f2 := hf [(-1, 1), (1, 9)] (by decide)
  have f3 := hf [(1, 1), (-1, 9)] (by decide)
  have f4 := hf [(-1, 0), (-1, 1), (1, 10)] (by decide)
  have f5 := hf [(6, 0), (1, 9), (-1, 10)] (by decide)
  have f6 := hf [(1, 13)] (by decide)
  have f7 := hf [(23, 0), (-1, 13)] (by decide)
  have f8 := hf [(-1, 11), (1, 14)] (by decide)
  have f9 := hf [(1, 11), (-1, 14)] (by decide)
  simp only [qD, h0] at f0 f1 f2 f3 f4 f5 f6 f7 f8 f9
  have m0 : M 4 210 = 1 * ρ 0 + 0 := hm (4, 210, [(1, 0)]) (by decide)
  have m1 : M 4 211 = 1 * ρ 1 + 0 := hm (4, 211, [(1, 1)]) (by decide)
  have m2 : M 4 101 = 1 * ρ 2 + 0 := hm (4, 101, [(1, 2)]) (by decide)
  have m3 : M 3 46 = 1 * ρ 3 + 0 := hm (3, 46, [(1, 3)]) (by decide)
  have m4 : M 3 47 = 1 * ρ 4 + 0 := hm (3, 47, [(1, 4)]) (by decide)
  have m5 : M 4 100 = 1 * ρ 5 + 0 := hm (4, 100, [(1, 5)]) (by decide)
  have m6 : M 3 50 = 1 * ρ 6 + 0 := hm (3, 50, [(1, 6)]) (by decide)
  have m7 : M 3 51 = 1 * ρ 7 + 0 := hm (3, 51, [(1, 7)]) (by decide)
  have m8 : M 4 108 = 1 * ρ 8 + 0 := hm (4, 108, [(1, 8)]) (by decide)
  have m9 : M 4 214 = 1 * ρ 0 + 0 := hm (4, 214, [(1, 0)]) (by decide)
  have m10 : M 4 215 = 1 * ρ 9 + 0 := hm (4, 215, [(1, 9)]) (by decide)
  have m11 : M 4 217 = 1 * ρ 10 + 0 := hm (4, 217, [(1, 10)]) (by decide)
  have m12 : M 4 219 = 1 * ρ 11 + 0 := hm (4, 219, [(1, 11)]) (by decide)
  have m13 : M 4 216 = 1 * ρ 12 + 0 := hm (4, 216, [(1, 12)]) (by decide)
  have m14 : M 4 226 = 1 * ρ 0 + 0 := hm (4, 226, [(1, 0)]) (by decide)
  have m15 : M 4 227 = 1 * ρ 13 + 0 := hm (4, 227, [(1, 13)]) (by decide)
  have m16 : M 57 (zIx ρ (1000 + 13)) = 1 * ρ 14 + 0 := hm (57, 1013, [(1, 14)]) (by decide)
  rw [zix_p] at m16
  simp only [h0] at m0 m9 m14
  obtain ⟨u1, u2, _⟩ := gx_xS8 hI (by omega)

  obtain ⟨a1, a2, a3, a4, a5, a6, a7⟩ := gx_xSA hI (by omega)
  have eq1 : (M 4 215).toNat = (M 4 211).toNat := by omega
  rw [eq1] at a6 a7
  have hgt := ten_gt (g := M 92) (lo := 97) (hi := 122) (n := (M 4 101).toNat) (q := (M 4 211).toNat) (by omega)
  have el1 : (M 4 217 - M 4 215).toNat = tEn (M 92) 97 122 (M 4 101).toNat (M 4 211).toNat - (M 4 211).toNat := by omega
  rw [el1] at a7

  obtain ⟨l1, l2, l3⟩ := gx_xSC hI (by omega)

  obtain ⟨t1, t2, t3, t4, t5, t6⟩ := tk_of hI (by omega) (by omega) (by omega) (show tAt (M 92) (M 4 101).toNat (M 4 211).toNat (M 4 107) (M 4 108) = (18 + M 4 227, M 4 219, ((M 4 211).toNat : Int), M 4 217, 0, M 4 227) from by
    unfold tAt
    rw [if_neg (by omega), if_pos hgt.2]
    unfold tWo
    rw [← a7, ← a6]
    have hk : tKi (M 4 219) 0 = 18 + M 4 227 := by
      rw [← l3, tki_on (xs_57 hI (w := (M 4 227).toNat) (by omega)), if_pos (by rw [show (M 4 227).toNat = (ρ 13).toNat by omega]; omega)]
      omega
    unfold tWk tWs tWv
    rw [if_neg (by omega), if_neg (by omega), if_neg (by omega), hk, if_neg (by omega), if_neg (by omega), show 18 + M 4 227 - 18 = M 4 227 by omega])
  refine ⟨ρ, fun _ _ => rfl, fun f h => ?_, ?_⟩
  · have h : f ∈ ([[(-1, 1), (1, 3)], [(1, 1), (-1, 3)], [(1, 4), (-1, 10)], [(-1, 4), (1, 10)], [(1, 6)], [(-1, 6)], [(1, 7), (-1, 13)], [(-1, 7), (1, 13)]] : List qF) := h
    simp only [List.mem_cons, List.not_mem_nil, or_false] at h
    rcases h with rfl | rfl | rfl | rfl | rfl | rfl | rfl | rfl
    · show 0 ≤ -1 * ρ 1 + (1 * ρ 3 + 0)
      (try rw [h0]); omega
    · show 0 ≤ 1 * ρ 1 + (-1 * ρ 3 + 0)
      (try rw [h0]); omega
    · show 0 ≤ 1 * ρ 4 + (-1 * ρ 10 + 0)
      (try rw [h0]); omega
    · show 0 ≤ -1 * ρ 4 + (1 * ρ 10 + 0)
      (try rw [h0]); omega
    · show 0 ≤ 1 * ρ 6 + 0
      (try rw [h0]); omega
    · show 0 ≤ -1 * ρ 6 + 0
      (try rw [h0]); omega
    · show 0 ≤ 1 * ρ 7 + (-1 * ρ 13 + 0)
      (try rw [h0]); omega
    · show 0 ≤ -1 * ρ 7 + (1 * ρ 13 + 0)
      (try rw [h0]); omega
  · show sI M
    exact hI
-- wNone_c
def xr_220 : qRu := (14, [[(-1, 0), (1, 5)], [(1, 1)], [(-1, 1), (1, 9)], [(1, 1), (-1, 9)], [(-1, 0), (-1, 1), (1, 10)], [(6, 0), (1, 9), (-1, 10)], [(-24, 0), (1, 13)]], [(4, 210, [(1, 0)]), (4, 211, [(1, 1)]), (4, 101, [(1, 2)]), (3, 46, [(1, 3)]), (3, 47, [(1, 4)]), (4, 100, [(1, 5)]), (3, 44, [(1, 6)]), (3, 45, [(1, 7)]), (4, 107, [(1, 8)]), (4, 214, [(1, 0)]), (4, 215, [(1, 9)]), (4, 217, [(1, 10)]), (4, 219, [(1, 11)]), (4, 216, [(1, 12)]), (4, 226, [(1, 0)]), (4, 227, [(1, 13)])], [], [], [[(-1, 1), (1, 3)], [(1, 1), (-1, 3)], [(1, 4), (-1, 10)], [(-1, 4), (1, 10)], [(-4, 0), (1, 6)], [(4, 0), (-1, 6)], [(1, 7), (-1, 11)], [(-1, 7), (1, 11)]])
theorem xo_220 : qRok xr_220 := by
  intro ρ M h0 hf hm hI
  have f0 := hf [(-1, 0), (1, 5)] (by decide)
  have f1 := hf [(1, 1)] (by decide)
  have f2 := hf [(-1, 1), (1, 9)] (by decide)
  have f3 := hf [(1, 1), (-1, 9)] (by decide)
  have f4 := hf [(-1, 0), (-1, 1), (1, 10)] (by decide)
  have f5 := hf [(6, 0), (1, 9), (-1, 10)] (by decide)
  have f6 := hf [(-24, 0), (1, 13)] (by decide)
  simp only [qD, h0] at f0 f1 f2 f3 f4 f5 f6
  have m0 : M 4 210 = 1 * ρ 0 + 0 := hm (4, 210, [(1, 0)]) (by decide)
  have m1 : M 4 211 = 1 * ρ 1 + 0 := hm (4, 211, [(1, 1)]) (by decide)
  have m2 : M 4 101 = 1 * ρ 2 + 0 := hm (4, 101, [(1, 2)]) (by decide)
  have m3 : M 3 46 = 1 * ρ 3 + 0 := hm (3, 46, [(1, 3)]) (by decide)
  have m4 : M 3 47 = 1 * ρ 4 + 0 := hm (3, 47, [(1, 4)]) (by decide)
  have m5 : M 4 100 = 1 * ρ 5 + 0 := hm (4, 100, [(1, 5)]) (by decide)
  have m6 : M 3 44 = 1 * ρ 6 + 0 := hm (3, 44, [(1, 6)]) (by decide)
  have m7 : M 3 45 = 1 * ρ 7 + 0 := hm (3, 45, [(1, 7)]) (by decide)
  have m8 : M 4 107 = 1 * ρ 8 + 0 := hm (4, 107, [(1, 8)]) (by decide)
  have m9 : M 4 214 = 1 * ρ 0 + 0 := hm (4, 214, [(1, 0)]) (by decide)
  have m10 : M 4 215 = 1 * ρ 9 + 0 := hm (4, 215, [(1, 9)]) (by decide)
  have m11 : M 4 217 = 1 * ρ 10 + 0 := hm (4, 217, [(1, 10)]) (by decide)
  have m12 : M 4 219 = 1 * ρ 11 + 0 := hm (4, 219, [(1, 11)]) (by decide)
  have m13 : M 4 216 = 1 * ρ 12 + 0 := hm (4, 216, [(1, 12)]) (by decide)
  have m14 : M 4 226 = 1 * ρ 0 + 0 := hm (4, 226, [(1, 0)]) (by decide)
  have m15 : M 4 227 = 1 * ρ 13 + 0 := hm (4, 227, [(1, 13)]) (by decide)
  simp only [h0] at m0 m9 m14
  obtain ⟨u1, u2, _⟩ := gx_xS8 hI (by omega)

  obtain ⟨a1, a2, a3, a4, a5, a6, a7⟩ := gx_xSA hI (by omega)
  have eq1 : (M 4 215).toNat = (M 4 211).toNat := by omega
  rw [eq1] at a6 a7
  have hgt := ten_gt (g := M 92) (lo := 97) (hi := 122) (n := (M 4 101).toNat) (q := (M 4 211).toNat) (by omega)
  have el1 : (M 4 217 - M 4 215).toNat = tEn (M 92) 97 122 (M 4 101).toNat (M 4 211).toNat - (M 4 211).toNat := by omega
  rw [el1] at a7

  obtain ⟨l1, l2, l3⟩ := gx_xSC hI (by omega)

  obtain ⟨t1, t2, t3, t4, t5, t6⟩ := tk_of hI (by omega) (by omega) (by omega) (show tAt (M 92) (M 4 101).toNat (M 4 211).toNat (M 4 107) (M 4 108) = (4, M 4 219, ((M 4 211).toNat : Int), M 4 217, 1, M 4 219) from by
    unfold tAt
    rw [if_neg (by omega), if_pos hgt.2]
    unfold tWo
    rw [← a7, ← a6]
    have hk : tKi (M 4 219) 0 = 4 := by
      rw [← l3]
      exact tki_end (by omega)
    have h6 : ¬ (6 < tEn (M 92) 97 122 (M 4 101).toNat (M 4 211).toNat - (M 4 211).toNat) := by omega
    unfold tWk tWs tWv
    rw [if_neg h6, if_neg h6, if_neg h6, hk, if_pos rfl, if_pos rfl])
  refine ⟨ρ, fun _ _ => rfl, fun f h => ?_, ?_⟩
  · have h : f ∈ ([[(-1, 1), (1, 3)], [(1, 1), (-1, 3)], [(1, 4), (-1, 10)], [(-1, 4), (1, 10)], [(-4, 0), (1, 6)], [(4, 0), (-1, 6)], [(1, 7), (-1, 11)], [(-1, 7), (1, 11)]] : List qF) := h
    simp only [List.mem_cons, List.not_mem_nil, or_false] at h
    rcases h with rfl | rfl | rfl | rfl | rfl | rfl | rfl | rfl
    · show 0 ≤ -1 * ρ 1 + (1 * ρ 3 + 0)
      (try rw [h0]); omega
    · show 0 ≤ 1 * ρ 1 + (-1 * ρ 3 + 0)
      (try rw [h0]); omega
    · show 0 ≤ 1 * ρ 4 + (-1 * ρ 10 + 0)
      (try rw [h0]); omega
    · show 0 ≤ -1 * ρ 4 + (1 * ρ 10 + 0)
      (try rw [h0]); omega
    · show 0 ≤ -4 * ρ 0 + (1 * ρ 6 + 0)
      (try rw [h0]); omega
    · show 0 ≤ 4 * ρ 0 + (-1 * ρ 6 + 0)
      (try rw [h0]); omega
    · show 0 ≤ 1 * ρ 7 + (-1 * ρ 11 + 0)
      (try rw [h0]); omega
    · show 0 ≤ -1 * ρ 7 + (1 * ρ 11 + 0)
      (try rw [h0]); omega
  · show sI M
    exact hI
-- wNone_r
def xr_221 : qRu := (14, [[(-1, 0), (1, 5)], [(1, 1)], [(-1, 1), (1, 9)], [(1, 1), (-1, 9)], [(-1, 0), (-1, 1), (1, 10)], [(6, 0), (1, 9), (-1, 10)], [(-24, 0), (1, 13)]], [(4, 210, [(1, 0)]), (4, 211, [(1, 1)]), (4, 101, [(1, 2)]), (3, 46, [(1, 3)]), (3, 47, [(1, 4)]), (4, 100, [(1, 5)]), (3, 50, [(1, 6)]), (3, 51, [(1, 7)]), (4, 108, [(1, 8)]), (4, 214, [(1, 0)]), (4, 215, [(1, 9)]), (4, 217, [(1, 10)]), (4, 219, [(1, 11)]), (4, 216, [(1, 12)]), (4, 226, [(1, 0)]), (4, 227, [(1, 13)])], [], [], [[(-1, 1), (1, 3)], [(1, 1), (-1, 3)], [(1, 4), (-1, 10)], [(-1, 4), (1, 10)], [(-1, 0), (1, 6)], [(1, 0), (-1, 6)], [(1, 7), (-1, 11)], [(-1, 7), (1, 11)]])
theorem xo_221 : qRok xr_221 := by
  intro ρ M h0 hf hm hI
  have f0 := hf [(-1, 0), (1, 5)] (by decide)
  have f1 := hf [(1, 1)] (by decide)
  have f2 := hf [(-1, 1), (1, 9)] (by decide)
  have f3 := hf [(1, 1), (-1, 9)] (by decide)
  have f4 := hf [(-1, 0), (-1, 1), (1, 10)] (by decide)
  have f5 := hf [(6, 0), (1, 9), (-1, 10)] (by decide)
  have f6 := hf [(-24, 0), (1, 13)] (by decide)
  simp only [qD, h0] at f0 f1 f2 f3 f4 f5 f6
  have m0 : M 4 210 = 1 * ρ 0 + 0 := hm (4, 210, [(1, 0)]) (by decide)
  have m1 : M 4 211 = 1 * ρ 1 + 0 := hm (4, 211, [(1, 1)]) (by decide)
  have m2 : M 4 101 = 1 * ρ 2 + 0 := hm (4, 101, [(1, 2)]) (by decide)
  have m3 : M 3 46 = 1 * ρ 3 + 0 := hm (3, 46, [(1, 3)]) (by decide)
  have m4 : M 3 47 = 1 * ρ 4 + 0 := hm (3, 47, [(1, 4)]) (by decide)
  have m5 : M 4 100 = 1 * ρ 5 + 0 := hm (4, 100, [(1, 5)]) (by decide)
  have m6 : M 3 50 = 1 * ρ 6 + 0 := hm (3, 50, [(1, 6)]) (by decide)
  have m7 : M 3 51 = 1 * ρ 7 + 0 := hm (3, 51, [(1, 7)]) (by decide)
  have m8 : M 4 108 = 1 * ρ 8 + 0 := hm (4, 108, [(1, 8)]) (by decide)
  have m9 : M 4 214 = 1 * ρ 0 + 0 := hm (4, 214, [(1, 0)]) (by decide)
  have m10 : M 4 215 = 1 * ρ 9 + 0 := hm (4, 215, [(1, 9)]) (by decide)
  have m11 : M 4 217 = 1 * ρ 10 + 0 := hm (4, 217, [(1, 10)]) (by decide)
  have m12 : M 4 219 = 1 * ρ 11 + 0 := hm (4, 219, [(1, 11)]) (by decide)
  have m13 : M 4 216 = 1 * ρ 12 + 0 := hm (4, 216, [(1, 12)]) (by decide)
  have m14 : M 4 226 = 1 * ρ 0 + 0 := hm (4, 226, [(1, 0)]) (by decide)
  have m15 : M 4 227 = 1 * ρ 13 + 0 := hm (4, 227, [(1, 13)]) (by decide)
  simp only [h0] at m0 m9 m14
  obtain ⟨u1, u2, _⟩ := gx_xS8 hI (by omega)

  obtain ⟨a1, a2, a3, a4, a5, a6, a7⟩ := gx_xSA hI (by omega)
  have eq1 : (M 4 215).toNat = (M 4 211).toNat := by omega
  rw [eq1] at a6 a7
  have hgt := ten_gt (g := M 92) (lo := 97) (hi := 122) (n := (M 4 101).toNat) (q := (M 4 211).toNat) (by omega)
  have el1 : (M 4 217 - M 4 215).toNat = tEn (M 92) 97 122 (M 4 101).toNat (M 4 211).toNat - (M 4 211).toNat := by omega
  rw [el1] at a7

  obtain ⟨l1, l2, l3⟩ := gx_xSC hI (by omega)

  obtain ⟨t1, t2, t3, t4, t5, t6⟩ := tk_of hI (by omega) (by omega) (by omega) (show tAt (M 92) (M 4 101).toNat (M 4 211).toNat (M 4 107) (M 4 108) = (4, M 4 219, ((M 4 211).toNat : Int), M 4 217, 1, M 4 219) from by
    unfold tAt
    rw [if_neg (by omega), if_pos hgt.2]
    unfold tWo
    rw [← a7, ← a6]
    have hk : tKi (M 4 219) 0 = 4 := by
      rw [← l3]
      exact tki_end (by omega)
    have h6 : ¬ (6 < tEn (M 92) 97 122 (M 4 101).toNat (M 4 211).toNat - (M 4 211).toNat) := by omega
    unfold tWk tWs tWv
    rw [if_neg h6, if_neg h6, if_neg h6, hk, if_pos rfl, if_pos rfl])
  refine ⟨ρ, fun _ _ => rfl, fun f h => ?_, ?_⟩
  · have h : f ∈ ([[(-1, 1), (1, 3)], [(1, 1), (-1, 3)], [(1, 4), (-1, 10)], [(-1, 4), (1, 10)], [(-1, 0), (1, 6)], [(1, 0), (-1, 6)], [(1, 7), (-1, 11)], [(-1, 7), (1, 11)]] : List qF) := h
    simp only [List.mem_cons, List.not_mem_nil, or_false] at h
    rcases h with rfl | rfl | rfl | rfl | rfl | rfl | rfl | rfl
    · show 0 ≤ -1 * ρ 1 + (1 * ρ 3 + 0)
      (try rw [h0]); omega
    · show 0 ≤ 1 * ρ 1 + (-1 * ρ 3 + 0)
      (try rw [h0]); omega
    · show 0 ≤ 1 * ρ 4 + (-1 * ρ 10 + 0)
      (try rw [h0]); omega
    · show 0 ≤ -1 * ρ 4 + (1 * ρ 10 + 0)
      (try rw [h0]); omega
    · show 0 ≤ -1 * ρ 0 + (1 * ρ 6 + 0)
      (try rw [h0]); omega
    · show 0 ≤ 1 * ρ 0 + (-1 * ρ 6 + 0)
      (try rw [h0]); omega
    · show 0 ≤ 1 * ρ 7 + (-1 * ρ 11 + 0)
      (try rw [h0]); omega
    · show 0 ≤ -1 * ρ 7 + (1 * ρ 11 + 0)
      (try rw [h0]); omega
  · show sI M
    exact hI
-- wordOff
def xr_222 : qRu := (1, [], [], [], [(4, 214, []), (4, 235, [])], [])
theorem xo_222 : qRok xr_222 := by
  intro ρ M h0 hf hm hI
  refine ⟨ρ, fun _ _ => rfl, fun f h => ?_, ?_⟩
  · exact nomatch h
  · show sI (sU (sU M 4 214 (0)) 4 235 (0))
    obtain ⟨W, hW⟩ : ∃ W, W = (sU (sU M 4 214 (0)) 4 235 (0)) := ⟨_, rfl⟩
    rw [← hW]
    have base : sI0 W := by
      rw [hW]
      exact (si_u0 (si_u0 hI.1 (fun r hr => by cases hr)) (fun r hr => by cases hr))
    have k2 : XI2 W := by
      rw [hW]
      exact (xi2_u rfl (xi2_u rfl hI.2.1))
    have k3 : XI3 W := by
      rw [hW]
      exact (xi3_u rfl (xi3_u rfl hI.2.2.1))
    have kXA : XA W := by
      rw [hW]
      exact (uXA rfl (uXA rfl hI.2.2.2.1))
    have k_xN1 : xN1 W := by
      rw [hW]
      exact (uxN1 rfl (uxN1 rfl hI.2.2.2.2.1))
    have k_xN2 : xN2 W := by
      rw [hW]
      exact (uxN2 rfl (uxN2 rfl hI.2.2.2.2.2.1))
    have k_xN3 : xN3 W := by
      rw [hW]
      exact (uxN3 rfl (uxN3 rfl hI.2.2.2.2.2.2.1))
    have k_xN4 : xN4 W := by
      rw [hW]
      exact (uxN4 rfl (uxN4 rfl hI.2.2.2.2.2.2.2.1))
    have k_xN5 : xN5 W := by
      rw [hW]
      exact (uxN5 rfl (uxN5 rfl hI.2.2.2.2.2.2.2.2.1))
    have k_xN6 : xN6 W := by
      rw [hW]
      exact (uxN6 rfl (uxN6 rfl hI.2.2.2.2.2.2.2.2.2.1))
    have k_xH1 : xH1 W := by
      rw [hW]
      exact (uxH1 rfl (uxH1 rfl hI.2.2.2.2.2.2.2.2.2.2.1))
    have k_xK1 : xK1 W := by
      rw [hW]
      exact (uxK1 rfl (uxK1 rfl hI.2.2.2.2.2.2.2.2.2.2.2.1))
    have k_xC1 : xC1 W := by
      rw [hW]
      exact (uxC1 rfl (uxC1 rfl hI.2.2.2.2.2.2.2.2.2.2.2.2.1))
    have k_xRW : xRW W := by
      rw [hW]
      exact (uxRW rfl (uxRW rfl hI.2.2.2.2.2.2.2.2.2.2.2.2.2.1))
    have k_xWT : xWT W := by
      rw [hW]
      exact (uxWT rfl (uxWT rfl hI.2.2.2.2.2.2.2.2.2.2.2.2.2.2.1))
    have k_xCU : xCU W := by
      rw [hW]
      exact (uxCU rfl (uxCU rfl hI.2.2.2.2.2.2.2.2.2.2.2.2.2.2.2.1))
    have k_xG2 : xG2 W := by
      rw [hW]
      exact (uxG2 rfl (uxG2 rfl hI.2.2.2.2.2.2.2.2.2.2.2.2.2.2.2.2.1))
    have k_xG3 : xG3 W := by
      rw [hW]
      exact (uxG3 rfl (uxG3 rfl hI.2.2.2.2.2.2.2.2.2.2.2.2.2.2.2.2.2.1))
    have k_xG4 : xG4 W := by
      rw [hW]
      exact (uxG4 rfl (uxG4 rfl hI.2.2.2.2.2.2.2.2.2.2.2.2.2.2.2.2.2.2.1))
    have k_xG5 : xG5 W := by
      rw [hW]
      exact (uxG5 rfl (uxG5 rfl hI.2.2.2.2.2.2.2.2.2.2.2.2.2.2.2.2.2.2.2.1))
    have k_xG6 : xG6 W := by
      rw [hW]
      exact (uxG6 rfl (uxG6 rfl hI.2.2.2.2.2.2.2.2.2.2.2.2.2.2.2.2.2.2.2.2.1))
    have k_xS1 : xS1 W := by
      rw [hW]
      exact (uxS1 rfl (uxS1 rfl hI.2.2.2.2.2.2.2.2.2.2.2.2.2.2.2.2.2.2.2.2.2.1))
    have k_xS2 : xS2 W := by
      rw [hW]
      exact (uxS2 rfl (uxS2 rfl hI.2.2.2.2.2.2.2.2.2.2.2.2.2.2.2.2.2.2.2.2.2.2.1))
    have k_xS3 : xS3 W := by
      rw [hW]
      exact (uxS3 rfl (uxS3 rfl hI.2.2.2.2.2.2.2.2.2.2.2.2.2.2.2.2.2.2.2.2.2.2.2.1))
    have k_xS4 : xS4 W := by
      rw [hW]
      exact (uxS4 rfl (uxS4 rfl hI.2.2.2.2.2.2.2.2.2.2.2.2.2.2.2.2.2.2.2.2.2.2.2.2.1))
    have k_xS5 : xS5 W := by
      rw [hW]
      exact (uxS5 rfl (uxS5 rfl hI.2.2.2.2.2.2.2.2.2.2.2.2.2.2.2.2.2.2.2.2.2.2.2.2.2.1))
    have k_xS6 : xS6 W := by
      rw [hW]
      exact (uxS6 rfl (uxS6 rfl hI.2.2.2.2.2.2.2.2.2.2.2.2.2.2.2.2.2.2.2.2.2.2.2.2.2.2.1))
    have k_xS7 : xS7 W := by
      rw [hW]
      exact (uxS7 rfl (uxS7 rfl hI.2.2.2.2.2.2.2.2.2.2.2.2.2.2.2.2.2.2.2.2.2.2.2.2.2.2.2.1))
    have k_xS8 : xS8 W := by
      rw [hW]
      exact (uxS8 rfl (uxS8 rfl hI.2.2.2.2.2.2.2.2.2.2.2.2.2.2.2.2.2.2.2.2.2.2.2.2.2.2.2.2.1))
    have k_xS9 : xS9 W := by
      rw [hW]
      exact (uxS9 rfl (uxS9 rfl hI.2.2.2.2.2.2.2.2.2.2.2.2.2.2.2.2.2.2.2.2.2.2.2.2.2.2.2.2.2.1))
    have k_xSA : xSA W := by
      have r : W 4 214 = 0 := by rw [hW, sU_ne (fun z => by omega), sU_at]
      intro h
      rw [r] at h
      omega
    have k_xSG : xSG W := by
      have r : W 4 235 = 0 := by rw [hW, sU_at]
      intro h
      rw [r] at h
      omega
    have k_xSF : xSF W := by
      rw [hW]
      exact (uxSF rfl (uxSF rfl hI.2.2.2.2.2.2.2.2.2.2.2.2.2.2.2.2.2.2.2.2.2.2.2.2.2.2.2.2.2.2.2.2.1))
    have k_xSB : xSB W := by
      rw [hW]
      exact (uxSB rfl (uxSB rfl hI.2.2.2.2.2.2.2.2.2.2.2.2.2.2.2.2.2.2.2.2.2.2.2.2.2.2.2.2.2.2.2.2.2.1))
    have k_xSC : xSC W := by
      rw [hW]
      exact (uxSC rfl (uxSC rfl hI.2.2.2.2.2.2.2.2.2.2.2.2.2.2.2.2.2.2.2.2.2.2.2.2.2.2.2.2.2.2.2.2.2.2.1))
    have k_xSD : xSD W := by
      rw [hW]
      exact (uxSD rfl (uxSD rfl hI.2.2.2.2.2.2.2.2.2.2.2.2.2.2.2.2.2.2.2.2.2.2.2.2.2.2.2.2.2.2.2.2.2.2.2.1))
    have k_xSE : xSE W := by
      rw [hW]
      exact (uxSE rfl (uxSE rfl hI.2.2.2.2.2.2.2.2.2.2.2.2.2.2.2.2.2.2.2.2.2.2.2.2.2.2.2.2.2.2.2.2.2.2.2.2.1))
    have k_xSW : xSW W := by
      rw [hW]
      exact (uxSW rfl (uxSW rfl hI.2.2.2.2.2.2.2.2.2.2.2.2.2.2.2.2.2.2.2.2.2.2.2.2.2.2.2.2.2.2.2.2.2.2.2.2.2.1))
    have k_xST : xST W := by
      rw [hW]
      exact (uxST rfl (uxST rfl hI.2.2.2.2.2.2.2.2.2.2.2.2.2.2.2.2.2.2.2.2.2.2.2.2.2.2.2.2.2.2.2.2.2.2.2.2.2.2.1))
    have k_xSP : xSP W := by
      rw [hW]
      exact (uxSP rfl (uxSP rfl hI.2.2.2.2.2.2.2.2.2.2.2.2.2.2.2.2.2.2.2.2.2.2.2.2.2.2.2.2.2.2.2.2.2.2.2.2.2.2.2.1))
    have k_xSL : xSL W := by
      rw [hW]
      exact (uxSL rfl (uxSL rfl hI.2.2.2.2.2.2.2.2.2.2.2.2.2.2.2.2.2.2.2.2.2.2.2.2.2.2.2.2.2.2.2.2.2.2.2.2.2.2.2.2.1))
    have k_xSM : xSM W := by
      rw [hW]
      exact (uxSM rfl (uxSM rfl hI.2.2.2.2.2.2.2.2.2.2.2.2.2.2.2.2.2.2.2.2.2.2.2.2.2.2.2.2.2.2.2.2.2.2.2.2.2.2.2.2.2.1))
    have k_xSI : xSI W := by
      rw [hW]
      exact (uxSI rfl (uxSI rfl hI.2.2.2.2.2.2.2.2.2.2.2.2.2.2.2.2.2.2.2.2.2.2.2.2.2.2.2.2.2.2.2.2.2.2.2.2.2.2.2.2.2.2))
    have k_XC : XC W := ⟨k_xS1, k_xS2, k_xS3, k_xS4, k_xS5, k_xS6, k_xS7, k_xS8, k_xS9, k_xSA, k_xSG, k_xSF, k_xSB, k_xSC, k_xSD, k_xSE, k_xSW, k_xST, k_xSP, k_xSL, k_xSM, k_xSI⟩
    have kXB : XB W := ⟨k_xN1, k_xN2, k_xN3, k_xN4, k_xN5, k_xN6, k_xH1, k_xK1, k_xC1, k_xRW, k_xWT, k_xCU, k_xG2, k_xG3, k_xG4, k_xG5, k_xG6, k_XC⟩
    exact ⟨base, k2, k3, kXA, kXB⟩
-- langBegin
def xr_223 : qRu := (1, [], [], [], [(4, 226, [(1, 0)]), (4, 227, [])], [])
theorem xo_223 : qRok xr_223 := by
  intro ρ M h0 hf hm hI
  have qxSC := hI.2.2.2.2.2.2.2.2.2.2.2.2.2.2.2.2.2.2.2.2.2.2.2.2.2.2.2.2.2.2.2.2.2.2.1
  refine ⟨ρ, fun _ _ => rfl, fun f h => ?_, ?_⟩
  · exact nomatch h
  · show sI (sU (sU M 4 226 (1 * ρ 0 + 0)) 4 227 (0))
    obtain ⟨W, hW⟩ : ∃ W, W = (sU (sU M 4 226 (1 * ρ 0 + 0)) 4 227 (0)) := ⟨_, rfl⟩
    rw [← hW]
    have base : sI0 W := by
      rw [hW]
      exact (si_u0 (si_u0 hI.1 (fun r hr => by cases hr)) (fun r hr => by cases hr))
    have k2 : XI2 W := by
      rw [hW]
      exact (xi2_u rfl (xi2_u rfl hI.2.1))
    have k3 : XI3 W := by
      rw [hW]
      exact (xi3_u rfl (xi3_u rfl hI.2.2.1))
    have kXA : XA W := by
      rw [hW]
      exact (uXA rfl (uXA rfl hI.2.2.2.1))
    have k_xN1 : xN1 W := by
      rw [hW]
      exact (uxN1 rfl (uxN1 rfl hI.2.2.2.2.1))
    have k_xN2 : xN2 W := by
      rw [hW]
      exact (uxN2 rfl (uxN2 rfl hI.2.2.2.2.2.1))
    have k_xN3 : xN3 W := by
      rw [hW]
      exact (uxN3 rfl (uxN3 rfl hI.2.2.2.2.2.2.1))
    have k_xN4 : xN4 W := by
      rw [hW]
      exact (uxN4 rfl (uxN4 rfl hI.2.2.2.2.2.2.2.1))
    have k_xN5 : xN5 W := by
      rw [hW]
      exact (uxN5 rfl (uxN5 rfl hI.2.2.2.2.2.2.2.2.1))
    have k_xN6 : xN6 W := by
      rw [hW]
      exact (uxN6 rfl (uxN6 rfl hI.2.2.2.2.2.2.2.2.2.1))
    have k_xH1 : xH1 W := by
      rw [hW]
      exact (uxH1 rfl (uxH1 rfl hI.2.2.2.2.2.2.2.2.2.2.1))
    have k_xK1 : xK1 W := by
      rw [hW]
      exact (uxK1 rfl (uxK1 rfl hI.2.2.2.2.2.2.2.2.2.2.2.1))
    have k_xC1 : xC1 W := by
      rw [hW]
      exact (uxC1 rfl (uxC1 rfl hI.2.2.2.2.2.2.2.2.2.2.2.2.1))
    have k_xRW : xRW W := by
      rw [hW]
      exact (uxRW rfl (uxRW rfl hI.2.2.2.2.2.2.2.2.2.2.2.2.2.1))
    have k_xWT : xWT W := by
      rw [hW]
      exact (uxWT rfl (uxWT rfl hI.2.2.2.2.2.2.2.2.2.2.2.2.2.2.1))
    have k_xCU : xCU W := by
      rw [hW]
      exact (uxCU rfl (uxCU rfl hI.2.2.2.2.2.2.2.2.2.2.2.2.2.2.2.1))
    have k_xG2 : xG2 W := by
      rw [hW]
      exact (uxG2 rfl (uxG2 rfl hI.2.2.2.2.2.2.2.2.2.2.2.2.2.2.2.2.1))
    have k_xG3 : xG3 W := by
      rw [hW]
      exact (uxG3 rfl (uxG3 rfl hI.2.2.2.2.2.2.2.2.2.2.2.2.2.2.2.2.2.1))
    have k_xG4 : xG4 W := by
      rw [hW]
      exact (uxG4 rfl (uxG4 rfl hI.2.2.2.2.2.2.2.2.2.2.2.2.2.2.2.2.2.2.1))
    have k_xG5 : xG5 W := by
      rw [hW]
      exact (uxG5 rfl (uxG5 rfl hI.2.2.2.2.2.2.2.2.2.2.2.2.2.2.2.2.2.2.2.1))
    have k_xG6 : xG6 W := by
      rw [hW]
      exact (uxG6 rfl (uxG6 rfl hI.2.2.2.2.2.2.2.2.2.2.2.2.2.2.2.2.2.2.2.2.1))
    have k_xS1 : xS1 W := by
      rw [hW]
      exact (uxS1 rfl (uxS1 rfl hI.2.2.2.2.2.2.2.2.2.2.2.2.2.2.2.2.2.2.2.2.2.1))
    have k_xS2 : xS2 W := by
      rw [hW]
      exact (uxS2 rfl (uxS2 rfl hI.2.2.2.2.2.2.2.2.2.2.2.2.2.2.2.2.2.2.2.2.2.2.1))
    have k_xS3 : xS3 W := by
      rw [hW]
      exact (uxS3 rfl (uxS3 rfl hI.2.2.2.2.2.2.2.2.2.2.2.2.2.2.2.2.2.2.2.2.2.2.2.1))
    have k_xS4 : xS4 W := by
      rw [hW]
      exact (uxS4 rfl (uxS4 rfl hI.2.2.2.2.2.2.2.2.2.2.2.2.2.2.2.2.2.2.2.2.2.2.2.2.1))
    have k_xS5 : xS5 W := by
      rw [hW]
      exact (uxS5 rfl (uxS5 rfl hI.2.2.2.2.2.2.2.2.2.2.2.2.2.2.2.2.2.2.2.2.2.2.2.2.2.1))
    have k_xS6 : xS6 W := by
      rw [hW]
      exact (uxS6 rfl (uxS6 rfl hI.2.2.2.2.2.2.2.2.2.2.2.2.2.2.2.2.2.2.2.2.2.2.2.2.2.2.1))
    have k_xS7 : xS7 W := by
      rw [hW]
      exact (uxS7 rfl (uxS7 rfl hI.2.2.2.2.2.2.2.2.2.2.2.2.2.2.2.2.2.2.2.2.2.2.2.2.2.2.2.1))
    have k_xS8 : xS8 W := by
      rw [hW]
      exact (uxS8 rfl (uxS8 rfl hI.2.2.2.2.2.2.2.2.2.2.2.2.2.2.2.2.2.2.2.2.2.2.2.2.2.2.2.2.1))
    have k_xS9 : xS9 W := by
      rw [hW]
      exact (uxS9 rfl (uxS9 rfl hI.2.2.2.2.2.2.2.2.2.2.2.2.2.2.2.2.2.2.2.2.2.2.2.2.2.2.2.2.2.1))
    have k_xSA : xSA W := by
      rw [hW]
      exact (uxSA rfl (uxSA rfl hI.2.2.2.2.2.2.2.2.2.2.2.2.2.2.2.2.2.2.2.2.2.2.2.2.2.2.2.2.2.2.1))
    have k_xSG : xSG W := by
      rw [hW]
      exact (uxSG rfl (uxSG rfl hI.2.2.2.2.2.2.2.2.2.2.2.2.2.2.2.2.2.2.2.2.2.2.2.2.2.2.2.2.2.2.2.1))
    have k_xSF : xSF W := by
      rw [hW]
      exact (uxSF rfl (uxSF rfl hI.2.2.2.2.2.2.2.2.2.2.2.2.2.2.2.2.2.2.2.2.2.2.2.2.2.2.2.2.2.2.2.2.1))
    have k_xSB : xSB W := by
      rw [hW]
      exact (uxSB rfl (uxSB rfl hI.2.2.2.2.2.2.2.2.2.2.2.2.2.2.2.2.2.2.2.2.2.2.2.2.2.2.2.2.2.2.2.2.2.1))
    have k_xSC : xSC W := by
      have r4_226 : W 4 226 = 1 * ρ 0 + 0 := by rw [hW, sU_ne (fun z => by omega), sU_at]
      have r4_227 : W 4 227 = 0 := by rw [hW, sU_at]
      have r4_219 : W 4 219 = M 4 219 := by rw [hW, sU_ne (fun z => by omega), sU_ne (fun z => by omega)]
      intro h
      rw [r4_227]
      exact ⟨by omega, by omega, rfl⟩
    have k_xSD : xSD W := by
      rw [hW]
      exact (uxSD rfl (uxSD rfl hI.2.2.2.2.2.2.2.2.2.2.2.2.2.2.2.2.2.2.2.2.2.2.2.2.2.2.2.2.2.2.2.2.2.2.2.1))
    have k_xSE : xSE W := by
      rw [hW]
      exact (uxSE rfl (uxSE rfl hI.2.2.2.2.2.2.2.2.2.2.2.2.2.2.2.2.2.2.2.2.2.2.2.2.2.2.2.2.2.2.2.2.2.2.2.2.1))
    have k_xSW : xSW W := by
      rw [hW]
      exact (uxSW rfl (uxSW rfl hI.2.2.2.2.2.2.2.2.2.2.2.2.2.2.2.2.2.2.2.2.2.2.2.2.2.2.2.2.2.2.2.2.2.2.2.2.2.1))
    have k_xST : xST W := by
      rw [hW]
      exact (uxST rfl (uxST rfl hI.2.2.2.2.2.2.2.2.2.2.2.2.2.2.2.2.2.2.2.2.2.2.2.2.2.2.2.2.2.2.2.2.2.2.2.2.2.2.1))
    have k_xSP : xSP W := by
      rw [hW]
      exact (uxSP rfl (uxSP rfl hI.2.2.2.2.2.2.2.2.2.2.2.2.2.2.2.2.2.2.2.2.2.2.2.2.2.2.2.2.2.2.2.2.2.2.2.2.2.2.2.1))
    have k_xSL : xSL W := by
      rw [hW]
      exact (uxSL rfl (uxSL rfl hI.2.2.2.2.2.2.2.2.2.2.2.2.2.2.2.2.2.2.2.2.2.2.2.2.2.2.2.2.2.2.2.2.2.2.2.2.2.2.2.2.1))
    have k_xSM : xSM W := by
      rw [hW]
      exact (uxSM rfl (uxSM rfl hI.2.2.2.2.2.2.2.2.2.2.2.2.2.2.2.2.2.2.2.2.2.2.2.2.2.2.2.2.2.2.2.2.2.2.2.2.2.2.2.2.2.1))
    have k_xSI : xSI W := by
      rw [hW]
      exact (uxSI rfl (uxSI rfl hI.2.2.2.2.2.2.2.2.2.2.2.2.2.2.2.2.2.2.2.2.2.2.2.2.2.2.2.2.2.2.2.2.2.2.2.2.2.2.2.2.2.2))
    have k_XC : XC W := ⟨k_xS1, k_xS2, k_xS3, k_xS4, k_xS5, k_xS6, k_xS7, k_xS8, k_xS9, k_xSA, k_xSG, k_xSF, k_xSB, k_xSC, k_xSD, k_xSE, k_xSW, k_xST, k_xSP, k_xSL, k_xSM, k_xSI⟩
    have kXB : XB W := ⟨k_xN1, k_xN2, k_xN3, k_xN4, k_xN5, k_xN6, k_xH1, k_xK1, k_xC1, k_xRW, k_xWT, k_xCU, k_xG2, k_xG3, k_xG4, k_xG5, k_xG6, k_XC⟩
    exact ⟨base, k2, k3, kXA, kXB⟩
-- langOff
def xr_224 : qRu := (1, [], [], [], [(4, 226, [])], [])
theorem xo_224 : qRok xr_224 := by
  intro ρ M h0 hf hm hI
  refine ⟨ρ, fun _ _ => rfl, fun f h => ?_, ?_⟩
  · exact nomatch h
  · show sI (sU M 4 226 (0))
    obtain ⟨W, hW⟩ : ∃ W, W = (sU M 4 226 (0)) := ⟨_, rfl⟩
    rw [← hW]
    have base : sI0 W := by
      rw [hW]
      exact (si_u0 hI.1 (fun r hr => by cases hr))
    have k2 : XI2 W := by
      rw [hW]
      exact (xi2_u rfl hI.2.1)
    have k3 : XI3 W := by
      rw [hW]
      exact (xi3_u rfl hI.2.2.1)
    have kXA : XA W := by
      rw [hW]
      exact (uXA rfl hI.2.2.2.1)
    have k_xN1 : xN1 W := by
      rw [hW]
      exact (uxN1 rfl hI.2.2.2.2.1)
    have k_xN2 : xN2 W := by
      rw [hW]
      exact (uxN2 rfl hI.2.2.2.2.2.1)
    have k_xN3 : xN3 W := by
      rw [hW]
      exact (uxN3 rfl hI.2.2.2.2.2.2.1)
    have k_xN4 : xN4 W := by
      rw [hW]
      exact (uxN4 rfl hI.2.2.2.2.2.2.2.1)
    have k_xN5 : xN5 W := by
      rw [hW]
      exact (uxN5 rfl hI.2.2.2.2.2.2.2.2.1)
    have k_xN6 : xN6 W := by
      rw [hW]
      exact (uxN6 rfl hI.2.2.2.2.2.2.2.2.2.1)
    have k_xH1 : xH1 W := by
      rw [hW]
      exact (uxH1 rfl hI.2.2.2.2.2.2.2.2.2.2.1)
    have k_xK1 : xK1 W := by
      rw [hW]
      exact (uxK1 rfl hI.2.2.2.2.2.2.2.2.2.2.2.1)
    have k_xC1 : xC1 W := by
      rw [hW]
      exact (uxC1 rfl hI.2.2.2.2.2.2.2.2.2.2.2.2.1)
    have k_xRW : xRW W := by
      rw [hW]
      exact (uxRW rfl hI.2.2.2.2.2.2.2.2.2.2.2.2.2.1)
    have k_xWT : xWT W := by
      rw [hW]
      exact (uxWT rfl hI.2.2.2.2.2.2.2.2.2.2.2.2.2.2.1)
    have k_xCU : xCU W := by
      rw [hW]
      exact (uxCU rfl hI.2.2.2.2.2.2.2.2.2.2.2.2.2.2.2.1)
    have k_xG2 : xG2 W := by
      rw [hW]
      exact (uxG2 rfl hI.2.2.2.2.2.2.2.2.2.2.2.2.2.2.2.2.1)
    have k_xG3 : xG3 W := by
      rw [hW]
      exact (uxG3 rfl hI.2.2.2.2.2.2.2.2.2.2.2.2.2.2.2.2.2.1)
    have k_xG4 : xG4 W := by
      rw [hW]
      exact (uxG4 rfl hI.2.2.2.2.2.2.2.2.2.2.2.2.2.2.2.2.2.2.1)
    have k_xG5 : xG5 W := by
      rw [hW]
      exact (uxG5 rfl hI.2.2.2.2.2.2.2.2.2.2.2.2.2.2.2.2.2.2.2.1)
    have k_xG6 : xG6 W := by
      rw [hW]
      exact (uxG6 rfl hI.2.2.2.2.2.2.2.2.2.2.2.2.2.2.2.2.2.2.2.2.1)
    have k_xS1 : xS1 W := by
      rw [hW]
      exact (uxS1 rfl hI.2.2.2.2.2.2.2.2.2.2.2.2.2.2.2.2.2.2.2.2.2.1)
    have k_xS2 : xS2 W := by
      rw [hW]
      exact (uxS2 rfl hI.2.2.2.2.2.2.2.2.2.2.2.2.2.2.2.2.2.2.2.2.2.2.1)
    have k_xS3 : xS3 W := by
      rw [hW]
      exact (uxS3 rfl hI.2.2.2.2.2.2.2.2.2.2.2.2.2.2.2.2.2.2.2.2.2.2.2.1)
    have k_xS4 : xS4 W := by
      rw [hW]
      exact (uxS4 rfl hI.2.2.2.2.2.2.2.2.2.2.2.2.2.2.2.2.2.2.2.2.2.2.2.2.1)
    have k_xS5 : xS5 W := by
      rw [hW]
      exact (uxS5 rfl hI.2.2.2.2.2.2.2.2.2.2.2.2.2.2.2.2.2.2.2.2.2.2.2.2.2.1)
    have k_xS6 : xS6 W := by
      rw [hW]
      exact (uxS6 rfl hI.2.2.2.2.2.2.2.2.2.2.2.2.2.2.2.2.2.2.2.2.2.2.2.2.2.2.1)
    have k_xS7 : xS7 W := by
      rw [hW]
      exact (uxS7 rfl hI.2.2.2.2.2.2.2.2.2.2.2.2.2.2.2.2.2.2.2.2.2.2.2.2.2.2.2.1)
    have k_xS8 : xS8 W := by
      rw [hW]
      exact (uxS8 rfl hI.2.2.2.2.2.2.2.2.2.2.2.2.2.2.2.2.2.2.2.2.2.2.2.2.2.2.2.2.1)
    have k_xS9 : xS9 W := by
      rw [hW]
      exact (uxS9 rfl hI.2.2.2.2.2.2.2.2.2.2.2.2.2.2.2.2.2.2.2.2.2.2.2.2.2.2.2.2.2.1)
    have k_xSA : xSA W := by
      rw [hW]
      exact (uxSA rfl hI.2.2.2.2.2.2.2.2.2.2.2.2.2.2.2.2.2.2.2.2.2.2.2.2.2.2.2.2.2.2.1)
    have k_xSG : xSG W := by
      rw [hW]
      exact (uxSG rfl hI.2.2.2.2.2.2.2.2.2.2.2.2.2.2.2.2.2.2.2.2.2.2.2.2.2.2.2.2.2.2.2.1)
    have k_xSF : xSF W := by
      rw [hW]
      exact (uxSF rfl hI.2.2.2.2.2.2.2.2.2.2.2.2.2.2.2.2.2.2.2.2.2.2.2.2.2.2.2.2.2.2.2.2.1)
    have k_xSB : xSB W := by
      rw [hW]
      exact (uxSB rfl hI.2.2.2.2.2.2.2.2.2.2.2.2.2.2.2.2.2.2.2.2.2.2.2.2.2.2.2.2.2.2.2.2.2.1)
    have k_xSC : xSC W := by
      have r : W 4 226 = 0 := by rw [hW, sU_at]
      intro h
      rw [r] at h
      omega
    have k_xSD : xSD W := by
      rw [hW]
      exact (uxSD rfl hI.2.2.2.2.2.2.2.2.2.2.2.2.2.2.2.2.2.2.2.2.2.2.2.2.2.2.2.2.2.2.2.2.2.2.2.1)
    have k_xSE : xSE W := by
      rw [hW]
      exact (uxSE rfl hI.2.2.2.2.2.2.2.2.2.2.2.2.2.2.2.2.2.2.2.2.2.2.2.2.2.2.2.2.2.2.2.2.2.2.2.2.1)
    have k_xSW : xSW W := by
      rw [hW]
      exact (uxSW rfl hI.2.2.2.2.2.2.2.2.2.2.2.2.2.2.2.2.2.2.2.2.2.2.2.2.2.2.2.2.2.2.2.2.2.2.2.2.2.1)
    have k_xST : xST W := by
      rw [hW]
      exact (uxST rfl hI.2.2.2.2.2.2.2.2.2.2.2.2.2.2.2.2.2.2.2.2.2.2.2.2.2.2.2.2.2.2.2.2.2.2.2.2.2.2.1)
    have k_xSP : xSP W := by
      rw [hW]
      exact (uxSP rfl hI.2.2.2.2.2.2.2.2.2.2.2.2.2.2.2.2.2.2.2.2.2.2.2.2.2.2.2.2.2.2.2.2.2.2.2.2.2.2.2.1)
    have k_xSL : xSL W := by
      rw [hW]
      exact (uxSL rfl hI.2.2.2.2.2.2.2.2.2.2.2.2.2.2.2.2.2.2.2.2.2.2.2.2.2.2.2.2.2.2.2.2.2.2.2.2.2.2.2.2.1)
    have k_xSM : xSM W := by
      rw [hW]
      exact (uxSM rfl hI.2.2.2.2.2.2.2.2.2.2.2.2.2.2.2.2.2.2.2.2.2.2.2.2.2.2.2.2.2.2.2.2.2.2.2.2.2.2.2.2.2.1)
    have k_xSI : xSI W := by
      rw [hW]
      exact (uxSI rfl hI.2.2.2.2.2.2.2.2.2.2.2.2.2.2.2.2.2.2.2.2.2.2.2.2.2.2.2.2.2.2.2.2.2.2.2.2.2.2.2.2.2.2)
    have k_XC : XC W := ⟨k_xS1, k_xS2, k_xS3, k_xS4, k_xS5, k_xS6, k_xS7, k_xS8, k_xS9, k_xSA, k_xSG, k_xSF, k_xSB, k_xSC, k_xSD, k_xSE, k_xSW, k_xST, k_xSP, k_xSL, k_xSM, k_xSI⟩
    have kXB : XB W := ⟨k_xN1, k_xN2, k_xN3, k_xN4, k_xN5, k_xN6, k_xH1, k_xK1, k_xC1, k_xRW, k_xWT, k_xCU, k_xG2, k_xG3, k_xG4, k_xG5, k_xG6, k_XC⟩
    exact ⟨base, k2, k3, kXA, kXB⟩
-- langMissL
def xr_225 : qRu := (4, [[(1, 1)], [(23, 0), (-1, 1)], [(-1, 0), (1, 2), (-1, 3)]], [(4, 226, [(1, 0)]), (4, 227, [(1, 1)]), (4, 219, [(1, 2)]), (57, 1001, [(1, 3)])], [], [(4, 227, [(1, 0), (1, 1)])], [])
theorem xo_225 : qRok xr_225 := by
  intro ρ M h0 hf hm hI
  have f0 := hf [(1, 1)] (by decide)
  have f1 := hf [(23, 0), (-1, 1)] (by decide)
  have f2 := hf [(-1, 0), (1, 2), (-1, 3)] (by decide)
  simp only [qD, h0] at f0 f1 f2
  have m0 : M 4 226 = 1 * ρ 0 + 0 := hm (4, 226, [(1, 0)]) (by decide)
  have m1 : M 4 227 = 1 * ρ 1 + 0 := hm (4, 227, [(1, 1)]) (by decide)
  have m2 : M 4 219 = 1 * ρ 2 + 0 := hm (4, 219, [(1, 2)]) (by decide)
  have m3 : M 57 (zIx ρ (1000 + 1)) = 1 * ρ 3 + 0 := hm (57, 1001, [(1, 3)]) (by decide)
  rw [zix_p] at m3
  simp only [h0] at m0
  have qxSC := hI.2.2.2.2.2.2.2.2.2.2.2.2.2.2.2.2.2.2.2.2.2.2.2.2.2.2.2.2.2.2.2.2.2.2.1
  obtain ⟨l1, l2, l3⟩ := gx_xSC hI (by omega)
  refine ⟨ρ, fun _ _ => rfl, fun f h => ?_, ?_⟩
  · exact nomatch h
  · show sI (sU M 4 227 (1 * ρ 0 + (1 * ρ 1 + 0)))
    obtain ⟨W, hW⟩ : ∃ W, W = (sU M 4 227 (1 * ρ 0 + (1 * ρ 1 + 0))) := ⟨_, rfl⟩
    rw [← hW]
    have base : sI0 W := by
      rw [hW]
      exact (si_u0 hI.1 (fun r hr => by cases hr))
    have k2 : XI2 W := by
      rw [hW]
      exact (xi2_u rfl hI.2.1)
    have k3 : XI3 W := by
      rw [hW]
      exact (xi3_u rfl hI.2.2.1)
    have kXA : XA W := by
      rw [hW]
      exact (uXA rfl hI.2.2.2.1)
    have k_xN1 : xN1 W := by
      rw [hW]
      exact (uxN1 rfl hI.2.2.2.2.1)
    have k_xN2 : xN2 W := by
      rw [hW]
      exact (uxN2 rfl hI.2.2.2.2.2.1)
    have k_xN3 : xN3 W := by
      rw [hW]
      exact (uxN3 rfl hI.2.2.2.2.2.2.1)
    have k_xN4 : xN4 W := by
      rw [hW]
      exact (uxN4 rfl hI.2.2.2.2.2.2.2.1)
    have k_xN5 : xN5 W := by
      rw [hW]
      exact (uxN5 rfl hI.2.2.2.2.2.2.2.2.1)
    have k_xN6 : xN6 W := by
      rw [hW]
      exact (uxN6 rfl hI.2.2.2.2.2.2.2.2.2.1)
    have k_xH1 : xH1 W := by
      rw [hW]
      exact (uxH1 rfl hI.2.2.2.2.2.2.2.2.2.2.1)
    have k_xK1 : xK1 W := by
      rw [hW]
      exact (uxK1 rfl hI.2.2.2.2.2.2.2.2.2.2.2.1)
    have k_xC1 : xC1 W := by
      rw [hW]
      exact (uxC1 rfl hI.2.2.2.2.2.2.2.2.2.2.2.2.1)
    have k_xRW : xRW W := by
      rw [hW]
      exact (uxRW rfl hI.2.2.2.2.2.2.2.2.2.2.2.2.2.1)
    have k_xWT : xWT W := by
      rw [hW]
      exact (uxWT rfl hI.2.2.2.2.2.2.2.2.2.2.2.2.2.2.1)
    have k_xCU : xCU W := by
      rw [hW]
      exact (uxCU rfl hI.2.2.2.2.2.2.2.2.2.2.2.2.2.2.2.1)
    have k_xG2 : xG2 W := by
      rw [hW]
      exact (uxG2 rfl hI.2.2.2.2.2.2.2.2.2.2.2.2.2.2.2.2.1)
    have k_xG3 : xG3 W := by
      rw [hW]
      exact (uxG3 rfl hI.2.2.2.2.2.2.2.2.2.2.2.2.2.2.2.2.2.1)
    have k_xG4 : xG4 W := by
      rw [hW]
      exact (uxG4 rfl hI.2.2.2.2.2.2.2.2.2.2.2.2.2.2.2.2.2.2.1)
    have k_xG5 : xG5 W := by
      rw [hW]
      exact (uxG5 rfl hI.2.2.2.2.2.2.2.2.2.2.2.2.2.2.2.2.2.2.2.1)
    have k_xG6 : xG6 W := by
      rw [hW]
      exact (uxG6 rfl hI.2.2.2.2.2.2.2.2.2.2.2.2.2.2.2.2.2.2.2.2.1)
    have k_xS1 : xS1 W := by
      rw [hW]
      exact (uxS1 rfl hI.2.2.2.2.2.2.2.2.2.2.2.2.2.2.2.2.2.2.2.2.2.1)
    have k_xS2 : xS2 W := by
      rw [hW]
      exact (uxS2 rfl hI.2.2.2.2.2.2.2.2.2.2.2.2.2.2.2.2.2.2.2.2.2.2.1)
    have k_xS3 : xS3 W := by
      rw [hW]
      exact (uxS3 rfl hI.2.2.2.2.2.2.2.2.2.2.2.2.2.2.2.2.2.2.2.2.2.2.2.1)
    have k_xS4 : xS4 W := by
      rw [hW]
      exact (uxS4 rfl hI.2.2.2.2.2.2.2.2.2.2.2.2.2.2.2.2.2.2.2.2.2.2.2.2.1)
    have k_xS5 : xS5 W := by
      rw [hW]
      exact (uxS5 rfl hI.2.2.2.2.2.2.2.2.2.2.2.2.2.2.2.2.2.2.2.2.2.2.2.2.2.1)
    have k_xS6 : xS6 W := by
      rw [hW]
      exact (uxS6 rfl hI.2.2.2.2.2.2.2.2.2.2.2.2.2.2.2.2.2.2.2.2.2.2.2.2.2.2.1)
    have k_xS7 : xS7 W := by
      rw [hW]
      exact (uxS7 rfl hI.2.2.2.2.2.2.2.2.2.2.2.2.2.2.2.2.2.2.2.2.2.2.2.2.2.2.2.1)
    have k_xS8 : xS8 W := by
      rw [hW]
      exact (uxS8 rfl hI.2.2.2.2.2.2.2.2.2.2.2.2.2.2.2.2.2.2.2.2.2.2.2.2.2.2.2.2.1)
    have k_xS9 : xS9 W := by
      rw [hW]
      exact (uxS9 rfl hI.2.2.2.2.2.2.2.2.2.2.2.2.2.2.2.2.2.2.2.2.2.2.2.2.2.2.2.2.2.1)
    have k_xSA : xSA W := by
      rw [hW]
      exact (uxSA rfl hI.2.2.2.2.2.2.2.2.2.2.2.2.2.2.2.2.2.2.2.2.2.2.2.2.2.2.2.2.2.2.1)
    have k_xSG : xSG W := by
      rw [hW]
      exact (uxSG rfl hI.2.2.2.2.2.2.2.2.2.2.2.2.2.2.2.2.2.2.2.2.2.2.2.2.2.2.2.2.2.2.2.1)
    have k_xSF : xSF W := by
      rw [hW]
      exact (uxSF rfl hI.2.2.2.2.2.2.2.2.2.2.2.2.2.2.2.2.2.2.2.2.2.2.2.2.2.2.2.2.2.2.2.2.1)
    have k_xSB : xSB W := by
      rw [hW]
      exact (uxSB rfl hI.2.2.2.2.2.2.2.2.2.2.2.2.2.2.2.2.2.2.2.2.2.2.2.2.2.2.2.2.2.2.2.2.2.1)
    have k_xSC : xSC W := by
      have r4_226 : W 4 226 = M 4 226 := by rw [hW, sU_ne (fun z => by omega)]
      have r4_227 : W 4 227 = 1 * ρ 0 + (1 * ρ 1 + 0) := by rw [hW, sU_at]
      have r4_219 : W 4 219 = M 4 219 := by rw [hW, sU_ne (fun z => by omega)]
      intro h
      rw [r4_227, r4_219]
      refine ⟨by rw [h0]; omega, by rw [h0]; omega, ?_⟩
      rw [← l3, tki_on (xs_57 hI (w := (M 4 227).toNat) (by omega)), if_neg (by rw [show (M 4 227).toNat = (ρ 1).toNat by omega]; omega), show (1 * ρ 0 + (1 * ρ 1 + 0)).toNat = (M 4 227).toNat + 1 by rw [h0]; omega]
    have k_xSD : xSD W := by
      rw [hW]
      exact (uxSD rfl hI.2.2.2.2.2.2.2.2.2.2.2.2.2.2.2.2.2.2.2.2.2.2.2.2.2.2.2.2.2.2.2.2.2.2.2.1)
    have k_xSE : xSE W := by
      rw [hW]
      exact (uxSE rfl hI.2.2.2.2.2.2.2.2.2.2.2.2.2.2.2.2.2.2.2.2.2.2.2.2.2.2.2.2.2.2.2.2.2.2.2.2.1)
    have k_xSW : xSW W := by
      rw [hW]
      exact (uxSW rfl hI.2.2.2.2.2.2.2.2.2.2.2.2.2.2.2.2.2.2.2.2.2.2.2.2.2.2.2.2.2.2.2.2.2.2.2.2.2.1)
    have k_xST : xST W := by
      rw [hW]
      exact (uxST rfl hI.2.2.2.2.2.2.2.2.2.2.2.2.2.2.2.2.2.2.2.2.2.2.2.2.2.2.2.2.2.2.2.2.2.2.2.2.2.2.1)
    have k_xSP : xSP W := by
      rw [hW]
      exact (uxSP rfl hI.2.2.2.2.2.2.2.2.2.2.2.2.2.2.2.2.2.2.2.2.2.2.2.2.2.2.2.2.2.2.2.2.2.2.2.2.2.2.2.1)
    have k_xSL : xSL W := by
      rw [hW]
      exact (uxSL rfl hI.2.2.2.2.2.2.2.2.2.2.2.2.2.2.2.2.2.2.2.2.2.2.2.2.2.2.2.2.2.2.2.2.2.2.2.2.2.2.2.2.1)
    have k_xSM : xSM W := by
      rw [hW]
      exact (uxSM rfl hI.2.2.2.2.2.2.2.2.2.2.2.2.2.2.2.2.2.2.2.2.2.2.2.2.2.2.2.2.2.2.2.2.2.2.2.2.2.2.2.2.2.1)
    have k_xSI : xSI W := by
      rw [hW]
      exact (uxSI rfl hI.2.2.2.2.2.2.2.2.2.2.2.2.2.2.2.2.2.2.2.2.2.2.2.2.2.2.2.2.2.2.2.2.2.2.2.2.2.2.2.2.2.2)
    have k_XC : XC W := ⟨k_xS1, k_xS2, k_xS3, k_xS4, k_xS5, k_xS6, k_xS7, k_xS8, k_xS9, k_xSA, k_xSG, k_xSF, k_xSB, k_xSC, k_xSD, k_xSE, k_xSW, k_xST, k_xSP, k_xSL, k_xSM, k_xSI⟩
    have kXB : XB W := ⟨k_xN1, k_xN2, k_xN3, k_xN4, k_xN5, k_xN6, k_xH1, k_xK1, k_xC1, k_xRW, k_xWT, k_xCU, k_xG2, k_xG3, k_xG4, k_xG5, k_xG6, k_XC⟩
    exact ⟨base, k2, k3, kXA, kXB⟩
-- langMissH
def xr_226 : qRu := (4, [[(1, 1)], [(23, 0), (-1, 1)], [(-1, 0), (-1, 2), (1, 3)]], [(4, 226, [(1, 0)]), (4, 227, [(1, 1)]), (4, 219, [(1, 2)]), (57, 1001, [(1, 3)])], [], [(4, 227, [(1, 0), (1, 1)])], [])
theorem xo_226 : qRok xr_226 := by
  intro ρ M h0 hf hm hI
  have f0 := hf [(1, 1)] (by decide)
  have f1 := hf [(23, 0), (-1, 1)] (by decide)
  have f2 := hf [(-1, 0), (-1, 2), (1, 3)] (by decide)
  simp only [qD, h0] at f0 f1 f2
  have m0 : M 4 226 = 1 * ρ 0 + 0 := hm (4, 226, [(1, 0)]) (by decide)
  have m1 : M 4 227 = 1 * ρ 1 + 0 := hm (4, 227, [(1, 1)]) (by decide)
  have m2 : M 4 219 = 1 * ρ 2 + 0 := hm (4, 219, [(1, 2)]) (by decide)
  have m3 : M 57 (zIx ρ (1000 + 1)) = 1 * ρ 3 + 0 := hm (57, 1001, [(1, 3)]) (by decide)
  rw [zix_p] at m3
  simp only [h0] at m0
  have qxSC := hI.2.2.2.2.2.2.2.2.2.2.2.2.2.2.2.2.2.2.2.2.2.2.2.2.2.2.2.2.2.2.2.2.2.2.1
  obtain ⟨l1, l2, l3⟩ := gx_xSC hI (by omega)
  refine ⟨ρ, fun _ _ => rfl, fun f h => ?_, ?_⟩
  · exact nomatch h
  · show sI (sU M 4 227 (1 * ρ 0 + (1 * ρ 1 + 0)))
    obtain ⟨W, hW⟩ : ∃ W, W = (sU M 4 227 (1 * ρ 0 + (1 * ρ 1 + 0))) := ⟨_, rfl⟩
    rw [← hW]
    have base : sI0 W := by
      rw [hW]
      exact (si_u0 hI.1 (fun r hr => by cases hr))
    have k2 : XI2 W := by
      rw [hW]
      exact (xi2_u rfl hI.2.1)
    have k3 : XI3 W := by
      rw [hW]
      exact (xi3_u rfl hI.2.2.1)
    have kXA : XA W := by
      rw [hW]
      exact (uXA rfl hI.2.2.2.1)
    have k_xN1 : xN1 W := by
      rw [hW]
      exact (uxN1 rfl hI.2.2.2.2.1)
    have k_xN2 : xN2 W := by
      rw [hW]
      exact (uxN2 rfl hI.2.2.2.2.2.1)
    have k_xN3 : xN3 W := by
      rw [hW]
      exact (uxN3 rfl hI.2.2.2.2.2.2.1)
    have k_xN4 : xN4 W := by
      rw [hW]
      exact (uxN4 rfl hI.2.2.2.2.2.2.2.1)
    have k_xN5 : xN5 W := by
      rw [hW]
      exact (uxN5 rfl hI.2.2.2.2.2.2.2.2.1)
    have k_xN6 : xN6 W := by
      rw [hW]
      exact (uxN6 rfl hI.2.2.2.2.2.2.2.2.2.1)
    have k_xH1 : xH1 W := by
      rw [hW]
      exact (uxH1 rfl hI.2.2.2.2.2.2.2.2.2.2.1)
    have k_xK1 : xK1 W := by
      rw [hW]
      exact (uxK1 rfl hI.2.2.2.2.2.2.2.2.2.2.2.1)
    have k_xC1 : xC1 W := by
      rw [hW]
      exact (uxC1 rfl hI.2.2.2.2.2.2.2.2.2.2.2.2.1)
    have k_xRW : xRW W := by
      rw [hW]
      exact (uxRW rfl hI.2.2.2.2.2.2.2.2.2.2.2.2.2.1)
    have k_xWT : xWT W := by
      rw [hW]
      exact (uxWT rfl hI.2.2.2.2.2.2.2.2.2.2.2.2.2.2.1)
    have k_xCU : xCU W := by
      rw [hW]
      exact (uxCU rfl hI.2.2.2.2.2.2.2.2.2.2.2.2.2.2.2.1)
    have k_xG2 : xG2 W := by
      rw [hW]
      exact (uxG2 rfl hI.2.2.2.2.2.2.2.2.2.2.2.2.2.2.2.2.1)
    have k_xG3 : xG3 W := by
      rw [hW]
      exact (uxG3 rfl hI.2.2.2.2.2.2.2.2.2.2.2.2.2.2.2.2.2.1)
    have k_xG4 : xG4 W := by
      rw [hW]
      exact (uxG4 rfl hI.2.2.2.2.2.2.2.2.2.2.2.2.2.2.2.2.2.2.1)
    have k_xG5 : xG5 W := by
      rw [hW]
      exact (uxG5 rfl hI.2.2.2.2.2.2.2.2.2.2.2.2.2.2.2.2.2.2.2.1)
    have k_xG6 : xG6 W := by
      rw [hW]
      exact (uxG6 rfl hI.2.2.2.2.2.2.2.2.2.2.2.2.2.2.2.2.2.2.2.2.1)
    have k_xS1 : xS1 W := by
      rw [hW]
      exact (uxS1 rfl hI.2.2.2.2.2.2.2.2.2.2.2.2.2.2.2.2.2.2.2.2.2.1)
    have k_xS2 : xS2 W := by
      rw [hW]
      exact (uxS2 rfl hI.2.2.2.2.2.2.2.2.2.2.2.2.2.2.2.2.2.2.2.2.2.2.1)
    have k_xS3 : xS3 W := by
      rw [hW]
      exact (uxS3 rfl hI.2.2.2.2.2.2.2.2.2.2.2.2.2.2.2.2.2.2.2.2.2.2.2.1)
    have k_xS4 : xS4 W := by
      rw [hW]
      exact (uxS4 rfl hI.2.2.2.2.2.2.2.2.2.2.2.2.2.2.2.2.2.2.2.2.2.2.2.2.1)
    have k_xS5 : xS5 W := by
      rw [hW]
      exact (uxS5 rfl hI.2.2.2.2.2.2.2.2.2.2.2.2.2.2.2.2.2.2.2.2.2.2.2.2.2.1)
    have k_xS6 : xS6 W := by
      rw [hW]
      exact (uxS6 rfl hI.2.2.2.2.2.2.2.2.2.2.2.2.2.2.2.2.2.2.2.2.2.2.2.2.2.2.1)
    have k_xS7 : xS7 W := by
      rw [hW]
      exact (uxS7 rfl hI.2.2.2.2.2.2.2.2.2.2.2.2.2.2.2.2.2.2.2.2.2.2.2.2.2.2.2.1)
    have k_xS8 : xS8 W := by
      rw [hW]
      exact (uxS8 rfl hI.2.2.2.2.2.2.2.2.2.2.2.2.2.2.2.2.2.2.2.2.2.2.2.2.2.2.2.2.1)
    have k_xS9 : xS9 W := by
      rw [hW]
      exact (uxS9 rfl hI.2.2.2.2.2.2.2.2.2.2.2.2.2.2.2.2.2.2.2.2.2.2.2.2.2.2.2.2.2.1)
    have k_xSA : xSA W := by
      rw [hW]
      exact (uxSA rfl hI.2.2.2.2.2.2.2.2.2.2.2.2.2.2.2.2.2.2.2.2.2.2.2.2.2.2.2.2.2.2.1)
    have k_xSG : xSG W := by
      rw [hW]
      exact (uxSG rfl hI.2.2.2.2.2.2.2.2.2.2.2.2.2.2.2.2.2.2.2.2.2.2.2.2.2.2.2.2.2.2.2.1)
    have k_xSF : xSF W := by
      rw [hW]
      exact (uxSF rfl hI.2.2.2.2.2.2.2.2.2.2.2.2.2.2.2.2.2.2.2.2.2.2.2.2.2.2.2.2.2.2.2.2.1)
    have k_xSB : xSB W := by
      rw [hW]
      exact (uxSB rfl hI.2.2.2.2.2.2.2.2.2.2.2.2.2.2.2.2.2.2.2.2.2.2.2.2.2.2.2.2.2.2.2.2.2.1)
    have k_xSC : xSC W := by
      have r4_226 : W 4 226 = M 4 226 := by rw [hW, sU_ne (fun z => by omega)]
      have r4_227 : W 4 227 = 1 * ρ 0 + (1 * ρ 1 + 0) := by rw [hW, sU_at]
      have r4_219 : W 4 219 = M 4 219 := by rw [hW, sU_ne (fun z => by omega)]
      intro h
      rw [r4_227, r4_219]
      refine ⟨by rw [h0]; omega, by rw [h0]; omega, ?_⟩
      rw [← l3, tki_on (xs_57 hI (w := (M 4 227).toNat) (by omega)), if_neg (by rw [show (M 4 227).toNat = (ρ 1).toNat by omega]; omega), show (1 * ρ 0 + (1 * ρ 1 + 0)).toNat = (M 4 227).toNat + 1 by rw [h0]; omega]
    have k_xSD : xSD W := by
      rw [hW]
      exact (uxSD rfl hI.2.2.2.2.2.2.2.2.2.2.2.2.2.2.2.2.2.2.2.2.2.2.2.2.2.2.2.2.2.2.2.2.2.2.2.1)
    have k_xSE : xSE W := by
      rw [hW]
      exact (uxSE rfl hI.2.2.2.2.2.2.2.2.2.2.2.2.2.2.2.2.2.2.2.2.2.2.2.2.2.2.2.2.2.2.2.2.2.2.2.2.1)
    have k_xSW : xSW W := by
      rw [hW]
      exact (uxSW rfl hI.2.2.2.2.2.2.2.2.2.2.2.2.2.2.2.2.2.2.2.2.2.2.2.2.2.2.2.2.2.2.2.2.2.2.2.2.2.1)
    have k_xST : xST W := by
      rw [hW]
      exact (uxST rfl hI.2.2.2.2.2.2.2.2.2.2.2.2.2.2.2.2.2.2.2.2.2.2.2.2.2.2.2.2.2.2.2.2.2.2.2.2.2.2.1)
    have k_xSP : xSP W := by
      rw [hW]
      exact (uxSP rfl hI.2.2.2.2.2.2.2.2.2.2.2.2.2.2.2.2.2.2.2.2.2.2.2.2.2.2.2.2.2.2.2.2.2.2.2.2.2.2.2.1)
    have k_xSL : xSL W := by
      rw [hW]
      exact (uxSL rfl hI.2.2.2.2.2.2.2.2.2.2.2.2.2.2.2.2.2.2.2.2.2.2.2.2.2.2.2.2.2.2.2.2.2.2.2.2.2.2.2.2.1)
    have k_xSM : xSM W := by
      rw [hW]
      exact (uxSM rfl hI.2.2.2.2.2.2.2.2.2.2.2.2.2.2.2.2.2.2.2.2.2.2.2.2.2.2.2.2.2.2.2.2.2.2.2.2.2.2.2.2.2.1)
    have k_xSI : xSI W := by
      rw [hW]
      exact (uxSI rfl hI.2.2.2.2.2.2.2.2.2.2.2.2.2.2.2.2.2.2.2.2.2.2.2.2.2.2.2.2.2.2.2.2.2.2.2.2.2.2.2.2.2.2)
    have k_XC : XC W := ⟨k_xS1, k_xS2, k_xS3, k_xS4, k_xS5, k_xS6, k_xS7, k_xS8, k_xS9, k_xSA, k_xSG, k_xSF, k_xSB, k_xSC, k_xSD, k_xSE, k_xSW, k_xST, k_xSP, k_xSL, k_xSM, k_xSI⟩
    have kXB : XB W := ⟨k_xN1, k_xN2, k_xN3, k_xN4, k_xN5, k_xN6, k_xH1, k_xK1, k_xC1, k_xRW, k_xWT, k_xCU, k_xG2, k_xG3, k_xG4, k_xG5, k_xG6, k_XC⟩
    exact ⟨base, k2, k3, kXA, kXB⟩
-- nBegin
def xr_227 : qRu := (5, [[(-1, 0), (1, 4)], [(-48, 0), (1, 2)], [(57, 0), (-1, 2)], [(1, 1)], [(-1, 0), (-1, 1), (1, 3)]], [(4, 100, [(1, 4)]), (4, 210, [(1, 0)]), (4, 212, [(1, 0)]), (4, 220, []), (4, 211, [(1, 1)]), (4, 213, [(1, 2)]), (4, 101, [(1, 3)])], [], [(4, 220, [(1, 0)]), (4, 221, [(1, 1)]), (4, 222, [(1, 1)]), (4, 223, [(1, 5)]), (4, 224, []), (4, 225, [(1, 6)]), (4, 228, []), (4, 229, [(1, 7)])], [[(-1, 0), (-1, 1), (1, 5)], [(1, 3), (-1, 5)]])
theorem xo_227 : qRok xr_227 := by
  intro ρ M h0 hf hm hI
  have f0 := hf [(-1, 0), (1, 4)] (by decide)
  have f1 := hf [(-48, 0), (1, 2)] (by decide)
  have f2 := hf [(57, 0), (-1, 2)] (by decide)
  have f3 := hf [(1, 1)] (by decide)
  have f4 := hf [(-1, 0), (-1, 1), (1, 3)] (by decide)
  simp only [qD, h0] at f0 f1 f2 f3 f4
  have m0 : M 4 100 = 1 * ρ 4 + 0 := hm (4, 100, [(1, 4)]) (by decide)
  have m1 : M 4 210 = 1 * ρ 0 + 0 := hm (4, 210, [(1, 0)]) (by decide)
  have m2 : M 4 212 = 1 * ρ 0 + 0 := hm (4, 212, [(1, 0)]) (by decide)
  have m3 : M 4 220 = 0 := hm (4, 220, []) (by decide)
  have m4 : M 4 211 = 1 * ρ 1 + 0 := hm (4, 211, [(1, 1)]) (by decide)
  have m5 : M 4 213 = 1 * ρ 2 + 0 := hm (4, 213, [(1, 2)]) (by decide)
  have m6 : M 4 101 = 1 * ρ 3 + 0 := hm (4, 101, [(1, 3)]) (by decide)
  simp only [h0] at m1 m2
  have qxSB := hI.2.2.2.2.2.2.2.2.2.2.2.2.2.2.2.2.2.2.2.2.2.2.2.2.2.2.2.2.2.2.2.2.2.1
  have hx : M 4 213 = M 92 (M 4 211).toNat := gx_xS9 hI (by omega)
  have e2 := ten_on (g := M 92) (lo := 48) (hi := 57) (n := (M 4 101).toNat) (p := (M 4 211).toNat) (by omega) (by omega)
  have e3 := ten_b (M 92) 48 57 (n := (M 4 101).toNat) (p := (M 4 211).toNat + 1) (by omega)
  refine ⟨fun a => cond (Nat.blt a 5) (ρ a) (([((tEn (M 92) 48 57 (M 4 101).toNat (M 4 211).toNat : Nat) : Int), tNu (M 92) (M 4 211).toNat (tEn (M 92) 48 57 (M 4 101).toNat (M 4 211).toNat - (M 4 211).toNat), tNr (M 92) (M 4 211).toNat (tEn (M 92) 48 57 (M 4 101).toNat (M 4 211).toNat - (M 4 211).toNat)] : List Int).getD (a - 5) 0), fun a ha => ?_, fun f h => ?_, ?_⟩
  · show cond (Nat.blt a 5) (ρ a) _ = ρ a
    rw [show Nat.blt a 5 = true from Nat.ble_eq_true_of_le ha]; rfl
  · have h : f ∈ ([[(-1, 0), (-1, 1), (1, 5)], [(1, 3), (-1, 5)]] : List qF) := h
    simp only [List.mem_cons, List.not_mem_nil, or_false] at h
    rcases h with rfl | rfl
    · show 0 ≤ -1 * ρ 0 + (-1 * ρ 1 + (1 * (((tEn (M 92) 48 57 (M 4 101).toNat (M 4 211).toNat : Nat) : Int)) + 0))
      (try rw [h0]); omega
    · show 0 ≤ 1 * ρ 3 + (-1 * (((tEn (M 92) 48 57 (M 4 101).toNat (M 4 211).toNat : Nat) : Int)) + 0)
      (try rw [h0]); omega
  · show sI (sU (sU (sU (sU (sU (sU (sU (sU M 4 220 (1 * ρ 0 + 0)) 4 221 (1 * ρ 1 + 0)) 4 222 (1 * ρ 1 + 0)) 4 223 (1 * (((tEn (M 92) 48 57 (M 4 101).toNat (M 4 211).toNat : Nat) : Int)) + 0)) 4 224 (0)) 4 225 (1 * (tNu (M 92) (M 4 211).toNat (tEn (M 92) 48 57 (M 4 101).toNat (M 4 211).toNat - (M 4 211).toNat)) + 0)) 4 228 (0)) 4 229 (1 * (tNr (M 92) (M 4 211).toNat (tEn (M 92) 48 57 (M 4 101).toNat (M 4 211).toNat - (M 4 211).toNat)) + 0))
    obtain ⟨W, hW⟩ : ∃ W, W = (sU (sU (sU (sU (sU (sU (sU (sU M 4 220 (1 * ρ 0 + 0)) 4 221 (1 * ρ 1 + 0)) 4 222 (1 * ρ 1 + 0)) 4 223 (1 * (((tEn (M 92) 48 57 (M 4 101).toNat (M 4 211).toNat : Nat) : Int)) + 0)) 4 224 (0)) 4 225 (1 * (tNu (M 92) (M 4 211).toNat (tEn (M 92) 48 57 (M 4 101).toNat (M 4 211).toNat - (M 4 211).toNat)) + 0)) 4 228 (0)) 4 229 (1 * (tNr (M 92) (M 4 211).toNat (tEn (M 92) 48 57 (M 4 101).toNat (M 4 211).toNat - (M 4 211).toNat)) + 0)) := ⟨_, rfl⟩
    rw [← hW]
    have base : sI0 W := by
      rw [hW]
      exact (si_u0 (si_u0 (si_u0 (si_u0 (si_u0 (si_u0 (si_u0 (si_u0 hI.1 (fun r hr => by cases hr)) (fun r hr => by cases hr)) (fun r hr => by cases hr)) (fun r hr => by cases hr)) (fun r hr => by cases hr)) (fun r hr => by cases hr)) (fun r hr => by cases hr)) (fun r hr => by cases hr))
    have k2 : XI2 W := by
      rw [hW]
      exact (xi2_u rfl (xi2_u rfl (xi2_u rfl (xi2_u rfl (xi2_u rfl (xi2_u rfl (xi2_u rfl (xi2_u rfl hI.2.1))))))))
    have k3 : XI3 W := by
      rw [hW]
      exact (xi3_u rfl (xi3_u rfl (xi3_u rfl (xi3_u rfl (xi3_u rfl (xi3_u rfl (xi3_u rfl (xi3_u rfl hI.2.2.1))))))))
    have kXA : XA W := by
      rw [hW]
      exact (uXA rfl (uXA rfl (uXA rfl (uXA rfl (uXA rfl (uXA rfl (uXA rfl (uXA rfl hI.2.2.2.1))))))))
    have k_xN1 : xN1 W := by
      rw [hW]
      exact (uxN1 rfl (uxN1 rfl (uxN1 rfl (uxN1 rfl (uxN1 rfl (uxN1 rfl (uxN1 rfl (uxN1 rfl hI.2.2.2.2.1))))))))
    have k_xN2 : xN2 W := by
      rw [hW]
      exact (uxN2 rfl (uxN2 rfl (uxN2 rfl (uxN2 rfl (uxN2 rfl (uxN2 rfl (uxN2 rfl (uxN2 rfl hI.2.2.2.2.2.1))))))))
    have k_xN3 : xN3 W := by
      rw [hW]
      exact (uxN3 rfl (uxN3 rfl (uxN3 rfl (uxN3 rfl (uxN3 rfl (uxN3 rfl (uxN3 rfl (uxN3 rfl hI.2.2.2.2.2.2.1))))))))
    have k_xN4 : xN4 W := by
      rw [hW]
      exact (uxN4 rfl (uxN4 rfl (uxN4 rfl (uxN4 rfl (uxN4 rfl (uxN4 rfl (uxN4 rfl (uxN4 rfl hI.2.2.2.2.2.2.2.1))))))))
    have k_xN5 : xN5 W := by
      rw [hW]
      exact (uxN5 rfl (uxN5 rfl (uxN5 rfl (uxN5 rfl (uxN5 rfl (uxN5 rfl (uxN5 rfl (uxN5 rfl hI.2.2.2.2.2.2.2.2.1))))))))
    have k_xN6 : xN6 W := by
      rw [hW]
      exact (uxN6 rfl (uxN6 rfl (uxN6 rfl (uxN6 rfl (uxN6 rfl (uxN6 rfl (uxN6 rfl (uxN6 rfl hI.2.2.2.2.2.2.2.2.2.1))))))))
    have k_xH1 : xH1 W := by
      rw [hW]
      exact (uxH1 rfl (uxH1 rfl (uxH1 rfl (uxH1 rfl (uxH1 rfl (uxH1 rfl (uxH1 rfl (uxH1 rfl hI.2.2.2.2.2.2.2.2.2.2.1))))))))
    have k_xK1 : xK1 W := by
      rw [hW]
      exact (uxK1 rfl (uxK1 rfl (uxK1 rfl (uxK1 rfl (uxK1 rfl (uxK1 rfl (uxK1 rfl (uxK1 rfl hI.2.2.2.2.2.2.2.2.2.2.2.1))))))))
    have k_xC1 : xC1 W := by
      rw [hW]
      exact (uxC1 rfl (uxC1 rfl (uxC1 rfl (uxC1 rfl (uxC1 rfl (uxC1 rfl (uxC1 rfl (uxC1 rfl hI.2.2.2.2.2.2.2.2.2.2.2.2.1))))))))
    have k_xRW : xRW W := by
      rw [hW]
      exact (uxRW rfl (uxRW rfl (uxRW rfl (uxRW rfl (uxRW rfl (uxRW rfl (uxRW rfl (uxRW rfl hI.2.2.2.2.2.2.2.2.2.2.2.2.2.1))))))))
    have k_xWT : xWT W := by
      rw [hW]
      exact (uxWT rfl (uxWT rfl (uxWT rfl (uxWT rfl (uxWT rfl (uxWT rfl (uxWT rfl (uxWT rfl hI.2.2.2.2.2.2.2.2.2.2.2.2.2.2.1))))))))
    have k_xCU : xCU W := by
      rw [hW]
      exact (uxCU rfl (uxCU rfl (uxCU rfl (uxCU rfl (uxCU rfl (uxCU rfl (uxCU rfl (uxCU rfl hI.2.2.2.2.2.2.2.2.2.2.2.2.2.2.2.1))))))))
    have k_xG2 : xG2 W := by
      rw [hW]
      exact (uxG2 rfl (uxG2 rfl (uxG2 rfl (uxG2 rfl (uxG2 rfl (uxG2 rfl (uxG2 rfl (uxG2 rfl hI.2.2.2.2.2.2.2.2.2.2.2.2.2.2.2.2.1))))))))
    have k_xG3 : xG3 W := by
      rw [hW]
      exact (uxG3 rfl (uxG3 rfl (uxG3 rfl (uxG3 rfl (uxG3 rfl (uxG3 rfl (uxG3 rfl (uxG3 rfl hI.2.2.2.2.2.2.2.2.2.2.2.2.2.2.2.2.2.1))))))))
    have k_xG4 : xG4 W := by
      rw [hW]
      exact (uxG4 rfl (uxG4 rfl (uxG4 rfl (uxG4 rfl (uxG4 rfl (uxG4 rfl (uxG4 rfl (uxG4 rfl hI.2.2.2.2.2.2.2.2.2.2.2.2.2.2.2.2.2.2.1))))))))
    have k_xG5 : xG5 W := by
      rw [hW]
      exact (uxG5 rfl (uxG5 rfl (uxG5 rfl (uxG5 rfl (uxG5 rfl (uxG5 rfl (uxG5 rfl (uxG5 rfl hI.2.2.2.2.2.2.2.2.2.2.2.2.2.2.2.2.2.2.2.1))))))))
    have k_xG6 : xG6 W := by
      rw [hW]
      exact (uxG6 rfl (uxG6 rfl (uxG6 rfl (uxG6 rfl (uxG6 rfl (uxG6 rfl (uxG6 rfl (uxG6 rfl hI.2.2.2.2.2.2.2.2.2.2.2.2.2.2.2.2.2.2.2.2.1))))))))
    have k_xS1 : xS1 W := by
      rw [hW]
      exact (uxS1 rfl (uxS1 rfl (uxS1 rfl (uxS1 rfl (uxS1 rfl (uxS1 rfl (uxS1 rfl (uxS1 rfl hI.2.2.2.2.2.2.2.2.2.2.2.2.2.2.2.2.2.2.2.2.2.1))))))))
    have k_xS2 : xS2 W := by
      rw [hW]
      exact (uxS2 rfl (uxS2 rfl (uxS2 rfl (uxS2 rfl (uxS2 rfl (uxS2 rfl (uxS2 rfl (uxS2 rfl hI.2.2.2.2.2.2.2.2.2.2.2.2.2.2.2.2.2.2.2.2.2.2.1))))))))
    have k_xS3 : xS3 W := by
      rw [hW]
      exact (uxS3 rfl (uxS3 rfl (uxS3 rfl (uxS3 rfl (uxS3 rfl (uxS3 rfl (uxS3 rfl (uxS3 rfl hI.2.2.2.2.2.2.2.2.2.2.2.2.2.2.2.2.2.2.2.2.2.2.2.1))))))))
    have k_xS4 : xS4 W := by
      rw [hW]
      exact (uxS4 rfl (uxS4 rfl (uxS4 rfl (uxS4 rfl (uxS4 rfl (uxS4 rfl (uxS4 rfl (uxS4 rfl hI.2.2.2.2.2.2.2.2.2.2.2.2.2.2.2.2.2.2.2.2.2.2.2.2.1))))))))
    have k_xS5 : xS5 W := by
      rw [hW]
      exact (uxS5 rfl (uxS5 rfl (uxS5 rfl (uxS5 rfl (uxS5 rfl (uxS5 rfl (uxS5 rfl (uxS5 rfl hI.2.2.2.2.2.2.2.2.2.2.2.2.2.2.2.2.2.2.2.2.2.2.2.2.2.1))))))))
    have k_xS6 : xS6 W := by
      rw [hW]
      exact (uxS6 rfl (uxS6 rfl (uxS6 rfl (uxS6 rfl (uxS6 rfl (uxS6 rfl (uxS6 rfl (uxS6 rfl hI.2.2.2.2.2.2.2.2.2.2.2.2.2.2.2.2.2.2.2.2.2.2.2.2.2.2.1))))))))
    have k_xS7 : xS7 W := by
      rw [hW]
      exact (uxS7 rfl (uxS7 rfl (uxS7 rfl (uxS7 rfl (uxS7 rfl (uxS7 rfl (uxS7 rfl (uxS7 rfl hI.2.2.2.2.2.2.2.2.2.2.2.2.2.2.2.2.2.2.2.2.2.2.2.2.2.2.2.1))))))))
    have k_xS8 : xS8 W := by
      rw [hW]
      exact (uxS8 rfl (uxS8 rfl (uxS8 rfl (uxS8 rfl (uxS8 rfl (uxS8 rfl (uxS8 rfl (uxS8 rfl hI.2.2.2.2.2.2.2.2.2.2.2.2.2.2.2.2.2.2.2.2.2.2.2.2.2.2.2.2.1))))))))
    have k_xS9 : xS9 W := by
      rw [hW]
      exact (uxS9 rfl (uxS9 rfl (uxS9 rfl (uxS9 rfl (uxS9 rfl (uxS9 rfl (uxS9 rfl (uxS9 rfl hI.2.2.2.2.2.2.2.2.2.2.2.2.2.2.2.2.2.2.2.2.2.2.2.2.2.2.2.2.2.1))))))))
    have k_xSA : xSA W := by
      rw [hW]
      exact (uxSA rfl (uxSA rfl (uxSA rfl (uxSA rfl (uxSA rfl (uxSA rfl (uxSA rfl (uxSA rfl hI.2.2.2.2.2.2.2.2.2.2.2.2.2.2.2.2.2.2.2.2.2.2.2.2.2.2.2.2.2.2.1))))))))
    have k_xSG : xSG W := by
      rw [hW]
      exact (uxSG rfl (uxSG rfl (uxSG rfl (uxSG rfl (uxSG rfl (uxSG rfl (uxSG rfl (uxSG rfl hI.2.2.2.2.2.2.2.2.2.2.2.2.2.2.2.2.2.2.2.2.2.2.2.2.2.2.2.2.2.2.2.1))))))))
    have k_xSF : xSF W := by
      rw [hW]
      exact (uxSF rfl (uxSF rfl (uxSF rfl (uxSF rfl (uxSF rfl (uxSF rfl (uxSF rfl (uxSF rfl hI.2.2.2.2.2.2.2.2.2.2.2.2.2.2.2.2.2.2.2.2.2.2.2.2.2.2.2.2.2.2.2.2.1))))))))
    have k_xSB : xSB W := by
      have r4_220 : W 4 220 = 1 * ρ 0 + 0 := by rw [hW, sU_ne (fun z => by omega), sU_ne (fun z => by omega), sU_ne (fun z => by omega), sU_ne (fun z => by omega), sU_ne (fun z => by omega), sU_ne (fun z => by omega), sU_ne (fun z => by omega), sU_at]
      have r4_221 : W 4 221 = 1 * ρ 1 + 0 := by rw [hW, sU_ne (fun z => by omega), sU_ne (fun z => by omega), sU_ne (fun z => by omega), sU_ne (fun z => by omega), sU_ne (fun z => by omega), sU_ne (fun z => by omega), sU_at]
      have r4_222 : W 4 222 = 1 * ρ 1 + 0 := by rw [hW, sU_ne (fun z => by omega), sU_ne (fun z => by omega), sU_ne (fun z => by omega), sU_ne (fun z => by omega), sU_ne (fun z => by omega), sU_at]
      have r4_223 : W 4 223 = 1 * (((tEn (M 92) 48 57 (M 4 101).toNat (M 4 211).toNat : Nat) : Int)) + 0 := by rw [hW, sU_ne (fun z => by omega), sU_ne (fun z => by omega), sU_ne (fun z => by omega), sU_ne (fun z => by omega), sU_at]
      have r4_224 : W 4 224 = 0 := by rw [hW, sU_ne (fun z => by omega), sU_ne (fun z => by omega), sU_ne (fun z => by omega), sU_at]
      have r4_225 : W 4 225 = 1 * (tNu (M 92) (M 4 211).toNat (tEn (M 92) 48 57 (M 4 101).toNat (M 4 211).toNat - (M 4 211).toNat)) + 0 := by rw [hW, sU_ne (fun z => by omega), sU_ne (fun z => by omega), sU_at]
      have r4_228 : W 4 228 = 0 := by rw [hW, sU_ne (fun z => by omega), sU_at]
      have r4_229 : W 4 229 = 1 * (tNr (M 92) (M 4 211).toNat (tEn (M 92) 48 57 (M 4 101).toNat (M 4 211).toNat - (M 4 211).toNat)) + 0 := by rw [hW, sU_at]
      have r4_101 : W 4 101 = M 4 101 := by rw [hW, sU_ne (fun z => by omega), sU_ne (fun z => by omega), sU_ne (fun z => by omega), sU_ne (fun z => by omega), sU_ne (fun z => by omega), sU_ne (fun z => by omega), sU_ne (fun z => by omega), sU_ne (fun z => by omega)]
      have c92 : ∀ k, W 92 k = M 92 k := fun k => by rw [hW, sU_ne (fun z => by omega), sU_ne (fun z => by omega), sU_ne (fun z => by omega), sU_ne (fun z => by omega), sU_ne (fun z => by omega), sU_ne (fun z => by omega), sU_ne (fun z => by omega), sU_ne (fun z => by omega)]
      have e92 : W 92 = M 92 := funext c92
      intro h
      rw [r4_221, r4_222, r4_223, r4_224, r4_225, r4_228, r4_229, r4_101, e92, show (1 * ρ 1 + 0).toNat = (M 4 211).toNat by omega, show ((1 * ρ 1 + 0) - (1 * ρ 1 + 0) : Int).toNat = 0 by omega]
      rw [show (1 * (((tEn (M 92) 48 57 (M 4 101).toNat (M 4 211).toNat : Nat) : Int)) + 0 - (1 * ρ 1 + 0)).toNat = tEn (M 92) 48 57 (M 4 101).toNat (M 4 211).toNat - (M 4 211).toNat by omega]
      exact ⟨by omega, by omega, by omega, by omega, by omega, by omega, rfl, by omega, rfl, by omega⟩
    have k_xSC : xSC W := by
      rw [hW]
      exact (uxSC rfl (uxSC rfl (uxSC rfl (uxSC rfl (uxSC rfl (uxSC rfl (uxSC rfl (uxSC rfl hI.2.2.2.2.2.2.2.2.2.2.2.2.2.2.2.2.2.2.2.2.2.2.2.2.2.2.2.2.2.2.2.2.2.2.1))))))))
    have k_xSD : xSD W := by
      rw [hW]
      exact (uxSD rfl (uxSD rfl (uxSD rfl (uxSD rfl (uxSD rfl (uxSD rfl (uxSD rfl (uxSD rfl hI.2.2.2.2.2.2.2.2.2.2.2.2.2.2.2.2.2.2.2.2.2.2.2.2.2.2.2.2.2.2.2.2.2.2.2.1))))))))
    have k_xSE : xSE W := by
      rw [hW]
      exact (uxSE rfl (uxSE rfl (uxSE rfl (uxSE rfl (uxSE rfl (uxSE rfl (uxSE rfl (uxSE rfl hI.2.2.2.2.2.2.2.2.2.2.2.2.2.2.2.2.2.2.2.2.2.2.2.2.2.2.2.2.2.2.2.2.2.2.2.2.1))))))))
    have k_xSW : xSW W := by
      rw [hW]
      exact (uxSW rfl (uxSW rfl (uxSW rfl (uxSW rfl (uxSW rfl (uxSW rfl (uxSW rfl (uxSW rfl hI.2.2.2.2.2.2.2.2.2.2.2.2.2.2.2.2.2.2.2.2.2.2.2.2.2.2.2.2.2.2.2.2.2.2.2.2.2.1))))))))
    have k_xST : xST W := by
      rw [hW]
      exact (uxST rfl (uxST rfl (uxST rfl (uxST rfl (uxST rfl (uxST rfl (uxST rfl (uxST rfl hI.2.2.2.2.2.2.2.2.2.2.2.2.2.2.2.2.2.2.2.2.2.2.2.2.2.2.2.2.2.2.2.2.2.2.2.2.2.2.1))))))))
    have k_xSP : xSP W := by
      rw [hW]
      exact (uxSP rfl (uxSP rfl (uxSP rfl (uxSP rfl (uxSP rfl (uxSP rfl (uxSP rfl (uxSP rfl hI.2.2.2.2.2.2.2.2.2.2.2.2.2.2.2.2.2.2.2.2.2.2.2.2.2.2.2.2.2.2.2.2.2.2.2.2.2.2.2.1))))))))
    have k_xSL : xSL W := by
      rw [hW]
      exact (uxSL rfl (uxSL rfl (uxSL rfl (uxSL rfl (uxSL rfl (uxSL rfl (uxSL rfl (uxSL rfl hI.2.2.2.2.2.2.2.2.2.2.2.2.2.2.2.2.2.2.2.2.2.2.2.2.2.2.2.2.2.2.2.2.2.2.2.2.2.2.2.2.1))))))))
    have k_xSM : xSM W := by
      rw [hW]
      exact (uxSM rfl (uxSM rfl (uxSM rfl (uxSM rfl (uxSM rfl (uxSM rfl (uxSM rfl (uxSM rfl hI.2.2.2.2.2.2.2.2.2.2.2.2.2.2.2.2.2.2.2.2.2.2.2.2.2.2.2.2.2.2.2.2.2.2.2.2.2.2.2.2.2.1))))))))
    have k_xSI : xSI W := by
      rw [hW]
      exact (uxSI rfl (uxSI rfl (uxSI rfl (uxSI rfl (uxSI rfl (uxSI rfl (uxSI rfl (uxSI rfl hI.2.2.2.2.2.2.2.2.2.2.2.2.2.2.2.2.2.2.2.2.2.2.2.2.2.2.2.2.2.2.2.2.2.2.2.2.2.2.2.2.2.2))))))))
    have k_XC : XC W := ⟨k_xS1, k_xS2, k_xS3, k_xS4, k_xS5, k_xS6, k_xS7, k_xS8, k_xS9, k_xSA, k_xSG, k_xSF, k_xSB, k_xSC, k_xSD, k_xSE, k_xSW, k_xST, k_xSP, k_xSL, k_xSM, k_xSI⟩
    have kXB : XB W := ⟨k_xN1, k_xN2, k_xN3, k_xN4, k_xN5, k_xN6, k_xH1, k_xK1, k_xC1, k_xRW, k_xWT, k_xCU, k_xG2, k_xG3, k_xG4, k_xG5, k_xG6, k_XC⟩
    exact ⟨base, k2, k3, kXA, kXB⟩
-- nOnS
def xr_228 : qRu := (7, [[(-1, 0), (-1, 2), (1, 5)], [(-48, 0), (1, 6)], [(57, 0), (-1, 6)], [(1000048, 0), (-10, 4), (-1, 6)]], [(4, 220, [(1, 0)]), (4, 221, [(1, 1)]), (4, 222, [(1, 2)]), (4, 223, [(1, 3)]), (4, 101, [(1, 5)]), (4, 100, [(1, 0)]), (4, 224, [(1, 4)]), (1, 1002, [(1, 6)])], [], [(4, 222, [(1, 0), (1, 2)]), (4, 224, [(-48, 0), (10, 4), (1, 6)]), (4, 228, [(1, 7)])], [[(-1, 0), (-1, 2), (1, 3)]])
theorem xo_228 : qRok xr_228 := by
  intro ρ M h0 hf hm hI
  have f0 := hf [(-1, 0), (-1, 2), (1, 5)] (by decide)
  have f1 := hf [(-48, 0), (1, 6)] (by decide)
  have f2 := hf [(57, 0), (-1, 6)] (by decide)
  have f3 := hf [(1000048, 0), (-10, 4), (-1, 6)] (by decide)
  simp only [qD, h0] at f0 f1 f2 f3
  have m0 : M 4 220 = 1 * ρ 0 + 0 := hm (4, 220, [(1, 0)]) (by decide)
  have m1 : M 4 221 = 1 * ρ 1 + 0 := hm (4, 221, [(1, 1)]) (by decide)
  have m2 : M 4 222 = 1 * ρ 2 + 0 := hm (4, 222, [(1, 2)]) (by decide)
  have m3 : M 4 223 = 1 * ρ 3 + 0 := hm (4, 223, [(1, 3)]) (by decide)
  have m4 : M 4 101 = 1 * ρ 5 + 0 := hm (4, 101, [(1, 5)]) (by decide)
  have m5 : M 4 100 = 1 * ρ 0 + 0 := hm (4, 100, [(1, 0)]) (by decide)
  have m6 : M 4 224 = 1 * ρ 4 + 0 := hm (4, 224, [(1, 4)]) (by decide)
  have m7 : M 1 (zIx ρ (1000 + 2)) = 1 * ρ 6 + 0 := hm (1, 1002, [(1, 6)]) (by decide)
  rw [zix_p] at m7
  simp only [h0] at m0 m5
  have qxSB := hI.2.2.2.2.2.2.2.2.2.2.2.2.2.2.2.2.2.2.2.2.2.2.2.2.2.2.2.2.2.2.2.2.2.1
  obtain ⟨u1, u2, u3, u4, u5, u6, u7, u8, v1, v2⟩ := gx_xSB hI (by omega)

  have hv : M 92 (M 4 222).toNat = ρ 6 := by rw [show (M 4 222).toNat = (ρ 2).toNat by omega]; have hb := xs_by hI (by omega) (k := (ρ 2).toNat) (by omega); omega
  have e2 := ten_on (g := M 92) (lo := 48) (hi := 57) (n := (M 4 101).toNat) (p := (M 4 222).toNat) (by omega) (by omega)
  have e3 := ten_b (M 92) 48 57 (n := (M 4 101).toNat) (p := (M 4 222).toNat + 1) (by omega)
  have iu : tNu (M 92) (M 4 221).toNat ((M 4 222 - M 4 221).toNat + 1) = (if M 4 224 * 10 + ρ 6 - 48 ≤ 1000000 then M 4 224 * 10 + ρ 6 - 48 else 1000000) := by
    show (if tNu (M 92) (M 4 221).toNat (M 4 222 - M 4 221).toNat * 10 + M 92 ((M 4 221).toNat + (M 4 222 - M 4 221).toNat) - 48 ≤ 1000000 then _ else _) = _
    rw [← u7, show (M 4 221).toNat + (M 4 222 - M 4 221).toNat = (M 4 222).toNat by omega, hv]
  have ir : tNr (M 92) (M 4 221).toNat ((M 4 222 - M 4 221).toNat + 1) = (if 99999 < M 4 228 then M 4 228 else 10 * M 4 228 + ρ 6 - 48) := by
    show (if 99999 < tNr (M 92) (M 4 221).toNat (M 4 222 - M 4 221).toNat then _ else 10 * _ + M 92 ((M 4 221).toNat + (M 4 222 - M 4 221).toNat) - 48) = _
    rw [← v1, show (M 4 221).toNat + (M 4 222 - M 4 221).toNat = (M 4 222).toNat by omega, hv]
  refine ⟨fun a => cond (Nat.blt a 7) (ρ a) (([(if 99999 < M 4 228 then M 4 228 else 10 * M 4 228 + ρ 6 - 48)] : List Int).getD (a - 7) 0), fun a ha => ?_, fun f h => ?_, ?_⟩
  · show cond (Nat.blt a 7) (ρ a) _ = ρ a
    rw [show Nat.blt a 7 = true from Nat.ble_eq_true_of_le ha]; rfl
  · have h : f ∈ ([[(-1, 0), (-1, 2), (1, 3)]] : List qF) := h
    simp only [List.mem_cons, List.not_mem_nil, or_false] at h
    rcases h with rfl
    · show 0 ≤ -1 * ρ 0 + (-1 * ρ 2 + (1 * ρ 3 + 0))
      (try rw [h0]); omega
  · show sI (sU (sU (sU M 4 222 (1 * ρ 0 + (1 * ρ 2 + 0))) 4 224 (-48 * ρ 0 + (10 * ρ 4 + (1 * ρ 6 + 0)))) 4 228 (1 * ((if 99999 < M 4 228 then M 4 228 else 10 * M 4 228 + ρ 6 - 48)) + 0))
    obtain ⟨W, hW⟩ : ∃ W, W = (sU (sU (sU M 4 222 (1 * ρ 0 + (1 * ρ 2 + 0))) 4 224 (-48 * ρ 0 + (10 * ρ 4 + (1 * ρ 6 + 0)))) 4 228 (1 * ((if 99999 < M 4 228 then M 4 228 else 10 * M 4 228 + ρ 6 - 48)) + 0)) := ⟨_, rfl⟩
    rw [← hW]
    have base : sI0 W := by
      rw [hW]
      exact (si_u0 (si_u0 (si_u0 hI.1 (fun r hr => by cases hr)) (fun r hr => by cases hr)) (fun r hr => by cases hr))
    have k2 : XI2 W := by
      rw [hW]
      exact (xi2_u rfl (xi2_u rfl (xi2_u rfl hI.2.1)))
    have k3 : XI3 W := by
      rw [hW]
      exact (xi3_u rfl (xi3_u rfl (xi3_u rfl hI.2.2.1)))
    have kXA : XA W := by
      rw [hW]
      exact (uXA rfl (uXA rfl (uXA rfl hI.2.2.2.1)))
    have k_xN1 : xN1 W := by
      rw [hW]
      exact (uxN1 rfl (uxN1 rfl (uxN1 rfl hI.2.2.2.2.1)))
    have k_xN2 : xN2 W := by
      rw [hW]
      exact (uxN2 rfl (uxN2 rfl (uxN2 rfl hI.2.2.2.2.2.1)))
    have k_xN3 : xN3 W := by
      rw [hW]
      exact (uxN3 rfl (uxN3 rfl (uxN3 rfl hI.2.2.2.2.2.2.1)))
    have k_xN4 : xN4 W := by
      rw [hW]
      exact (uxN4 rfl (uxN4 rfl (uxN4 rfl hI.2.2.2.2.2.2.2.1)))
    have k_xN5 : xN5 W := by
      rw [hW]
      exact (uxN5 rfl (uxN5 rfl (uxN5 rfl hI.2.2.2.2.2.2.2.2.1)))
    have k_xN6 : xN6 W := by
      rw [hW]
      exact (uxN6 rfl (uxN6 rfl (uxN6 rfl hI.2.2.2.2.2.2.2.2.2.1)))
    have k_xH1 : xH1 W := by
      rw [hW]
      exact (uxH1 rfl (uxH1 rfl (uxH1 rfl hI.2.2.2.2.2.2.2.2.2.2.1)))
    have k_xK1 : xK1 W := by
      rw [hW]
      exact (uxK1 rfl (uxK1 rfl (uxK1 rfl hI.2.2.2.2.2.2.2.2.2.2.2.1)))
    have k_xC1 : xC1 W := by
      rw [hW]
      exact (uxC1 rfl (uxC1 rfl (uxC1 rfl hI.2.2.2.2.2.2.2.2.2.2.2.2.1)))
    have k_xRW : xRW W := by
      rw [hW]
      exact (uxRW rfl (uxRW rfl (uxRW rfl hI.2.2.2.2.2.2.2.2.2.2.2.2.2.1)))
    have k_xWT : xWT W := by
      rw [hW]
      exact (uxWT rfl (uxWT rfl (uxWT rfl hI.2.2.2.2.2.2.2.2.2.2.2.2.2.2.1)))
    have k_xCU : xCU W := by
      rw [hW]
      exact (uxCU rfl (uxCU rfl (uxCU rfl hI.2.2.2.2.2.2.2.2.2.2.2.2.2.2.2.1)))
    have k_xG2 : xG2 W := by
      rw [hW]
      exact (uxG2 rfl (uxG2 rfl (uxG2 rfl hI.2.2.2.2.2.2.2.2.2.2.2.2.2.2.2.2.1)))
    have k_xG3 : xG3 W := by
      rw [hW]
      exact (uxG3 rfl (uxG3 rfl (uxG3 rfl hI.2.2.2.2.2.2.2.2.2.2.2.2.2.2.2.2.2.1)))
    have k_xG4 : xG4 W := by
      rw [hW]
      exact (uxG4 rfl (uxG4 rfl (uxG4 rfl hI.2.2.2.2.2.2.2.2.2.2.2.2.2.2.2.2.2.2.1)))
    have k_xG5 : xG5 W := by
      rw [hW]
      exact (uxG5 rfl (uxG5 rfl (uxG5 rfl hI.2.2.2.2.2.2.2.2.2.2.2.2.2.2.2.2.2.2.2.1)))
    have k_xG6 : xG6 W := by
      rw [hW]
      exact (uxG6 rfl (uxG6 rfl (uxG6 rfl hI.2.2.2.2.2.2.2.2.2.2.2.2.2.2.2.2.2.2.2.2.1)))
    have k_xS1 : xS1 W := by
      rw [hW]
      exact (uxS1 rfl (uxS1 rfl (uxS1 rfl hI.2.2.2.2.2.2.2.2.2.2.2.2.2.2.2.2.2.2.2.2.2.1)))
    have k_xS2 : xS2 W := by
      rw [hW]
      exact (uxS2 rfl (uxS2 rfl (uxS2 rfl hI.2.2.2.2.2.2.2.2.2.2.2.2.2.2.2.2.2.2.2.2.2.2.1)))
    have k_xS3 : xS3 W := by
      rw [hW]
      exact (uxS3 rfl (uxS3 rfl (uxS3 rfl hI.2.2.2.2.2.2.2.2.2.2.2.2.2.2.2.2.2.2.2.2.2.2.2.1)))
    have k_xS4 : xS4 W := by
      rw [hW]
      exact (uxS4 rfl (uxS4 rfl (uxS4 rfl hI.2.2.2.2.2.2.2.2.2.2.2.2.2.2.2.2.2.2.2.2.2.2.2.2.1)))
    have k_xS5 : xS5 W := by
      rw [hW]
      exact (uxS5 rfl (uxS5 rfl (uxS5 rfl hI.2.2.2.2.2.2.2.2.2.2.2.2.2.2.2.2.2.2.2.2.2.2.2.2.2.1)))
    have k_xS6 : xS6 W := by
      rw [hW]
      exact (uxS6 rfl (uxS6 rfl (uxS6 rfl hI.2.2.2.2.2.2.2.2.2.2.2.2.2.2.2.2.2.2.2.2.2.2.2.2.2.2.1)))
    have k_xS7 : xS7 W := by
      rw [hW]
      exact (uxS7 rfl (uxS7 rfl (uxS7 rfl hI.2.2.2.2.2.2.2.2.2.2.2.2.2.2.2.2.2.2.2.2.2.2.2.2.2.2.2.1)))
    have k_xS8 : xS8 W := by
      rw [hW]
      exact (uxS8 rfl (uxS8 rfl (uxS8 rfl hI.2.2.2.2.2.2.2.2.2.2.2.2.2.2.2.2.2.2.2.2.2.2.2.2.2.2.2.2.1)))
    have k_xS9 : xS9 W := by
      rw [hW]
      exact (uxS9 rfl (uxS9 rfl (uxS9 rfl hI.2.2.2.2.2.2.2.2.2.2.2.2.2.2.2.2.2.2.2.2.2.2.2.2.2.2.2.2.2.1)))
    have k_xSA : xSA W := by
      rw [hW]
      exact (uxSA rfl (uxSA rfl (uxSA rfl hI.2.2.2.2.2.2.2.2.2.2.2.2.2.2.2.2.2.2.2.2.2.2.2.2.2.2.2.2.2.2.1)))
    have k_xSG : xSG W := by
      rw [hW]
      exact (uxSG rfl (uxSG rfl (uxSG rfl hI.2.2.2.2.2.2.2.2.2.2.2.2.2.2.2.2.2.2.2.2.2.2.2.2.2.2.2.2.2.2.2.1)))
    have k_xSF : xSF W := by
      rw [hW]
      exact (uxSF rfl (uxSF rfl (uxSF rfl hI.2.2.2.2.2.2.2.2.2.2.2.2.2.2.2.2.2.2.2.2.2.2.2.2.2.2.2.2.2.2.2.2.1)))
    have k_xSB : xSB W := by
      have r4_220 : W 4 220 = M 4 220 := by rw [hW, sU_ne (fun z => by omega), sU_ne (fun z => by omega), sU_ne (fun z => by omega)]
      have r4_221 : W 4 221 = M 4 221 := by rw [hW, sU_ne (fun z => by omega), sU_ne (fun z => by omega), sU_ne (fun z => by omega)]
      have r4_222 : W 4 222 = 1 * ρ 0 + (1 * ρ 2 + 0) := by rw [hW, sU_ne (fun z => by omega), sU_ne (fun z => by omega), sU_at]
      have r4_223 : W 4 223 = M 4 223 := by rw [hW, sU_ne (fun z => by omega), sU_ne (fun z => by omega), sU_ne (fun z => by omega)]
      have r4_224 : W 4 224 = -48 * ρ 0 + (10 * ρ 4 + (1 * ρ 6 + 0)) := by rw [hW, sU_ne (fun z => by omega), sU_at]
      have r4_225 : W 4 225 = M 4 225 := by rw [hW, sU_ne (fun z => by omega), sU_ne (fun z => by omega), sU_ne (fun z => by omega)]
      have r4_228 : W 4 228 = 1 * ((if 99999 < M 4 228 then M 4 228 else 10 * M 4 228 + ρ 6 - 48)) + 0 := by rw [hW, sU_at]
      have r4_229 : W 4 229 = M 4 229 := by rw [hW, sU_ne (fun z => by omega), sU_ne (fun z => by omega), sU_ne (fun z => by omega)]
      have r4_101 : W 4 101 = M 4 101 := by rw [hW, sU_ne (fun z => by omega), sU_ne (fun z => by omega), sU_ne (fun z => by omega)]
      have c92 : ∀ k, W 92 k = M 92 k := fun k => by rw [hW, sU_ne (fun z => by omega), sU_ne (fun z => by omega), sU_ne (fun z => by omega)]
      have e92 : W 92 = M 92 := funext c92
      intro h
      rw [r4_221, r4_222, r4_223, r4_224, r4_225, r4_228, r4_229, r4_101, e92]
      have s1 : (1 * ρ 0 + (1 * ρ 2 + 0)).toNat = (M 4 222).toNat + 1 := by rw [h0]; omega
      have s2 : (1 * ρ 0 + (1 * ρ 2 + 0) - M 4 221).toNat = (M 4 222 - M 4 221).toNat + 1 := by rw [h0]; omega
      rw [s1, s2, iu, ir]
      refine ⟨by omega, by rw [h0]; omega, by rw [h0]; omega, by omega, by omega, by omega, ?_, by omega, ?_, by omega⟩
      · (try rw [h0]); split <;> omega
      · (try rw [h0]); split <;> omega
    have k_xSC : xSC W := by
      rw [hW]
      exact (uxSC rfl (uxSC rfl (uxSC rfl hI.2.2.2.2.2.2.2.2.2.2.2.2.2.2.2.2.2.2.2.2.2.2.2.2.2.2.2.2.2.2.2.2.2.2.1)))
    have k_xSD : xSD W := by
      rw [hW]
      exact (uxSD rfl (uxSD rfl (uxSD rfl hI.2.2.2.2.2.2.2.2.2.2.2.2.2.2.2.2.2.2.2.2.2.2.2.2.2.2.2.2.2.2.2.2.2.2.2.1)))
    have k_xSE : xSE W := by
      rw [hW]
      exact (uxSE rfl (uxSE rfl (uxSE rfl hI.2.2.2.2.2.2.2.2.2.2.2.2.2.2.2.2.2.2.2.2.2.2.2.2.2.2.2.2.2.2.2.2.2.2.2.2.1)))
    have k_xSW : xSW W := by
      rw [hW]
      exact (uxSW rfl (uxSW rfl (uxSW rfl hI.2.2.2.2.2.2.2.2.2.2.2.2.2.2.2.2.2.2.2.2.2.2.2.2.2.2.2.2.2.2.2.2.2.2.2.2.2.1)))
    have k_xST : xST W := by
      rw [hW]
      exact (uxST rfl (uxST rfl (uxST rfl hI.2.2.2.2.2.2.2.2.2.2.2.2.2.2.2.2.2.2.2.2.2.2.2.2.2.2.2.2.2.2.2.2.2.2.2.2.2.2.1)))
    have k_xSP : xSP W := by
      rw [hW]
      exact (uxSP rfl (uxSP rfl (uxSP rfl hI.2.2.2.2.2.2.2.2.2.2.2.2.2.2.2.2.2.2.2.2.2.2.2.2.2.2.2.2.2.2.2.2.2.2.2.2.2.2.2.1)))
    have k_xSL : xSL W := by
      rw [hW]
      exact (uxSL rfl (uxSL rfl (uxSL rfl hI.2.2.2.2.2.2.2.2.2.2.2.2.2.2.2.2.2.2.2.2.2.2.2.2.2.2.2.2.2.2.2.2.2.2.2.2.2.2.2.2.1)))
    have k_xSM : xSM W := by
      rw [hW]
      exact (uxSM rfl (uxSM rfl (uxSM rfl hI.2.2.2.2.2.2.2.2.2.2.2.2.2.2.2.2.2.2.2.2.2.2.2.2.2.2.2.2.2.2.2.2.2.2.2.2.2.2.2.2.2.1)))
    have k_xSI : xSI W := by
      rw [hW]
      exact (uxSI rfl (uxSI rfl (uxSI rfl hI.2.2.2.2.2.2.2.2.2.2.2.2.2.2.2.2.2.2.2.2.2.2.2.2.2.2.2.2.2.2.2.2.2.2.2.2.2.2.2.2.2.2)))
    have k_XC : XC W := ⟨k_xS1, k_xS2, k_xS3, k_xS4, k_xS5, k_xS6, k_xS7, k_xS8, k_xS9, k_xSA, k_xSG, k_xSF, k_xSB, k_xSC, k_xSD, k_xSE, k_xSW, k_xST, k_xSP, k_xSL, k_xSM, k_xSI⟩
    have kXB : XB W := ⟨k_xN1, k_xN2, k_xN3, k_xN4, k_xN5, k_xN6, k_xH1, k_xK1, k_xC1, k_xRW, k_xWT, k_xCU, k_xG2, k_xG3, k_xG4, k_xG5, k_xG6, k_XC⟩
    exact ⟨base, k2, k3, kXA, kXB⟩
-- nOnF
def xr_229 : qRu := (7, [[(-1, 0), (-1, 2), (1, 5)], [(-48, 0), (1, 6)], [(57, 0), (-1, 6)], [(-1000048, 0), (10, 4), (1, 6)]], [(4, 220, [(1, 0)]), (4, 221, [(1, 1)]), (4, 222, [(1, 2)]), (4, 223, [(1, 3)]), (4, 101, [(1, 5)]), (4, 100, [(1, 0)]), (4, 224, [(1, 4)]), (1, 1002, [(1, 6)])], [], [(4, 222, [(1, 0), (1, 2)]), (4, 224, [(1000000, 0)]), (4, 228, [(1, 7)])], [[(-1, 0), (-1, 2), (1, 3)]])
theorem xo_229 : qRok xr_229 := by
  intro ρ M h0 hf hm hI
  have f0 := hf [(-1, 0), (-1, 2), (1, 5)] (by decide)
  have f1 := hf [(-48, 0), (1, 6)] (by decide)
  have f2 := hf [(57, 0), (-1, 6)] (by decide)
  have f3 := hf [(-1000048, 0), (10, 4), (1, 6)] (by decide)
  simp only [qD, h0] at f0 f1 f2 f3
  have m0 : M 4 220 = 1 * ρ 0 + 0 := hm (4, 220, [(1, 0)]) (by decide)
  have m1 : M 4 221 = 1 * ρ 1 + 0 := hm (4, 221, [(1, 1)]) (by decide)
  have m2 : M 4 222 = 1 * ρ 2 + 0 := hm (4, 222, [(1, 2)]) (by decide)
  have m3 : M 4 223 = 1 * ρ 3 + 0 := hm (4, 223, [(1, 3)]) (by decide)
  have m4 : M 4 101 = 1 * ρ 5 + 0 := hm (4, 101, [(1, 5)]) (by decide)
  have m5 : M 4 100 = 1 * ρ 0 + 0 := hm (4, 100, [(1, 0)]) (by decide)
  have m6 : M 4 224 = 1 * ρ 4 + 0 := hm (4, 224, [(1, 4)]) (by decide)
  have m7 : M 1 (zIx ρ (1000 + 2)) = 1 * ρ 6 + 0 := hm (1, 1002, [(1, 6)]) (by decide)
  rw [zix_p] at m7
  simp only [h0] at m0 m5
  have qxSB := hI.2.2.2.2.2.2.2.2.2.2.2.2.2.2.2.2.2.2.2.2.2.2.2.2.2.2.2.2.2.2.2.2.2.1
  obtain ⟨u1, u2, u3, u4, u5, u6, u7, u8, v1, v2⟩ := gx_xSB hI (by omega)

  have hv : M 92 (M 4 222).toNat = ρ 6 := by rw [show (M 4 222).toNat = (ρ 2).toNat by omega]; have hb := xs_by hI (by omega) (k := (ρ 2).toNat) (by omega); omega
  have e2 := ten_on (g := M 92) (lo := 48) (hi := 57) (n := (M 4 101).toNat) (p := (M 4 222).toNat) (by omega) (by omega)
  have e3 := ten_b (M 92) 48 57 (n := (M 4 101).toNat) (p := (M 4 222).toNat + 1) (by omega)
  have iu : tNu (M 92) (M 4 221).toNat ((M 4 222 - M 4 221).toNat + 1) = (if M 4 224 * 10 + ρ 6 - 48 ≤ 1000000 then M 4 224 * 10 + ρ 6 - 48 else 1000000) := by
    show (if tNu (M 92) (M 4 221).toNat (M 4 222 - M 4 221).toNat * 10 + M 92 ((M 4 221).toNat + (M 4 222 - M 4 221).toNat) - 48 ≤ 1000000 then _ else _) = _
    rw [← u7, show (M 4 221).toNat + (M 4 222 - M 4 221).toNat = (M 4 222).toNat by omega, hv]
  have ir : tNr (M 92) (M 4 221).toNat ((M 4 222 - M 4 221).toNat + 1) = (if 99999 < M 4 228 then M 4 228 else 10 * M 4 228 + ρ 6 - 48) := by
    show (if 99999 < tNr (M 92) (M 4 221).toNat (M 4 222 - M 4 221).toNat then _ else 10 * _ + M 92 ((M 4 221).toNat + (M 4 222 - M 4 221).toNat) - 48) = _
    rw [← v1, show (M 4 221).toNat + (M 4 222 - M 4 221).toNat = (M 4 222).toNat by omega, hv]
  refine ⟨fun a => cond (Nat.blt a 7) (ρ a) (([(if 99999 < M 4 228 then M 4 228 else 10 * M 4 228 + ρ 6 - 48)] : List Int).getD (a - 7) 0), fun a ha => ?_, fun f h => ?_, ?_⟩
  · show cond (Nat.blt a 7) (ρ a) _ = ρ a
    rw [show Nat.blt a 7 = true from Nat.ble_eq_true_of_le ha]; rfl
  · have h : f ∈ ([[(-1, 0), (-1, 2), (1, 3)]] : List qF) := h
    simp only [List.mem_cons, List.not_mem_nil, or_false] at h
    rcases h with rfl
    · show 0 ≤ -1 * ρ 0 + (-1 * ρ 2 + (1 * ρ 3 + 0))
      (try rw [h0]); omega
  · show sI (sU (sU (sU M 4 222 (1 * ρ 0 + (1 * ρ 2 + 0))) 4 224 (1000000 * ρ 0 + 0)) 4 228 (1 * ((if 99999 < M 4 228 then M 4 228 else 10 * M 4 228 + ρ 6 - 48)) + 0))
    obtain ⟨W, hW⟩ : ∃ W, W = (sU (sU (sU M 4 222 (1 * ρ 0 + (1 * ρ 2 + 0))) 4 224 (1000000 * ρ 0 + 0)) 4 228 (1 * ((if 99999 < M 4 228 then M 4 228 else 10 * M 4 228 + ρ 6 - 48)) + 0)) := ⟨_, rfl⟩
    rw [← hW]
    have base : sI0 W := by
      rw [hW]
      exact (si_u0 (si_u0 (si_u0 hI.1 (fun r hr => by cases hr)) (fun r hr => by cases hr)) (fun r hr => by cases hr))
    have k2 : XI2 W := by
      rw [hW]
      exact (xi2_u rfl (xi2_u rfl (xi2_u rfl hI.2.1)))
    have k3 : XI3 W := by
      rw [hW]
      exact (xi3_u rfl (xi3_u rfl (xi3_u rfl hI.2.2.1)))
    have kXA : XA W := by
      rw [hW]
      exact (uXA rfl (uXA rfl (uXA rfl hI.2.2.2.1)))
    have k_xN1 : xN1 W := by
      rw [hW]
      exact (uxN1 rfl (uxN1 rfl (uxN1 rfl hI.2.2.2.2.1)))
    have k_xN2 : xN2 W := by
      rw [hW]
      exact (uxN2 rfl (uxN2 rfl (uxN2 rfl hI.2.2.2.2.2.1)))
    have k_xN3 : xN3 W := by
      rw [hW]
      exact (uxN3 rfl (uxN3 rfl (uxN3 rfl hI.2.2.2.2.2.2.1)))
    have k_xN4 : xN4 W := by
      rw [hW]
      exact (uxN4 rfl (uxN4 rfl (uxN4 rfl hI.2.2.2.2.2.2.2.1)))
    have k_xN5 : xN5 W := by
      rw [hW]
      exact (uxN5 rfl (uxN5 rfl (uxN5 rfl hI.2.2.2.2.2.2.2.2.1)))
    have k_xN6 : xN6 W := by
      rw [hW]
      exact (uxN6 rfl (uxN6 rfl (uxN6 rfl hI.2.2.2.2.2.2.2.2.2.1)))
    have k_xH1 : xH1 W := by
      rw [hW]
      exact (uxH1 rfl (uxH1 rfl (uxH1 rfl hI.2.2.2.2.2.2.2.2.2.2.1)))
    have k_xK1 : xK1 W := by
      rw [hW]
      exact (uxK1 rfl (uxK1 rfl (uxK1 rfl hI.2.2.2.2.2.2.2.2.2.2.2.1)))
    have k_xC1 : xC1 W := by
      rw [hW]
      exact (uxC1 rfl (uxC1 rfl (uxC1 rfl hI.2.2.2.2.2.2.2.2.2.2.2.2.1)))
    have k_xRW : xRW W := by
      rw [hW]
      exact (uxRW rfl (uxRW rfl (uxRW rfl hI.2.2.2.2.2.2.2.2.2.2.2.2.2.1)))
    have k_xWT : xWT W := by
      rw [hW]
      exact (uxWT rfl (uxWT rfl (uxWT rfl hI.2.2.2.2.2.2.2.2.2.2.2.2.2.2.1)))
    have k_xCU : xCU W := by
      rw [hW]
      exact (uxCU rfl (uxCU rfl (uxCU rfl hI.2.2.2.2.2.2.2.2.2.2.2.2.2.2.2.1)))
    have k_xG2 : xG2 W := by
      rw [hW]
      exact (uxG2 rfl (uxG2 rfl (uxG2 rfl hI.2.2.2.2.2.2.2.2.2.2.2.2.2.2.2.2.1)))
    have k_xG3 : xG3 W := by
      rw [hW]
      exact (uxG3 rfl (uxG3 rfl (uxG3 rfl hI.2.2.2.2.2.2.2.2.2.2.2.2.2.2.2.2.2.1)))
    have k_xG4 : xG4 W := by
      rw [hW]
      exact (uxG4 rfl (uxG4 rfl (uxG4 rfl hI.2.2.2.2.2.2.2.2.2.2.2.2.2.2.2.2.2.2.1)))
    have k_xG5 : xG5 W := by
      rw [hW]
      exact (uxG5 rfl (uxG5 rfl (uxG5 rfl hI.2.2.2.2.2.2.2.2.2.2.2.2.2.2.2.2.2.2.2.1)))
    have k_xG6 : xG6 W := by
      rw [hW]
      exact (uxG6 rfl (uxG6 rfl (uxG6 rfl hI.2.2.2.2.2.2.2.2.2.2.2.2.2.2.2.2.2.2.2.2.1)))
    have k_xS1 : xS1 W := by
      rw [hW]
      exact (uxS1 rfl (uxS1 rfl (uxS1 rfl hI.2.2.2.2.2.2.2.2.2.2.2.2.2.2.2.2.2.2.2.2.2.1)))
    have k_xS2 : xS2 W := by
      rw [hW]
      exact (uxS2 rfl (uxS2 rfl (uxS2 rfl hI.2.2.2.2.2.2.2.2.2.2.2.2.2.2.2.2.2.2.2.2.2.2.1)))
    have k_xS3 : xS3 W := by
      rw [hW]
      exact (uxS3 rfl (uxS3 rfl (uxS3 rfl hI.2.2.2.2.2.2.2.2.2.2.2.2.2.2.2.2.2.2.2.2.2.2.2.1)))
    have k_xS4 : xS4 W := by
      rw [hW]
      exact (uxS4 rfl (uxS4 rfl (uxS4 rfl hI.2.2.2.2.2.2.2.2.2.2.2.2.2.2.2.2.2.2.2.2.2.2.2.2.1)))
    have k_xS5 : xS5 W := by
      rw [hW]
      exact (uxS5 rfl (uxS5 rfl (uxS5 rfl hI.2.2.2.2.2.2.2.2.2.2.2.2.2.2.2.2.2.2.2.2.2.2.2.2.2.1)))
    have k_xS6 : xS6 W := by
      rw [hW]
      exact (uxS6 rfl (uxS6 rfl (uxS6 rfl hI.2.2.2.2.2.2.2.2.2.2.2.2.2.2.2.2.2.2.2.2.2.2.2.2.2.2.1)))
    have k_xS7 : xS7 W := by
      rw [hW]
      exact (uxS7 rfl (uxS7 rfl (uxS7 rfl hI.2.2.2.2.2.2.2.2.2.2.2.2.2.2.2.2.2.2.2.2.2.2.2.2.2.2.2.1)))
    have k_xS8 : xS8 W := by
      rw [hW]
      exact (uxS8 rfl (uxS8 rfl (uxS8 rfl hI.2.2.2.2.2.2.2.2.2.2.2.2.2.2.2.2.2.2.2.2.2.2.2.2.2.2.2.2.1)))
    have k_xS9 : xS9 W := by
      rw [hW]
      exact (uxS9 rfl (uxS9 rfl (uxS9 rfl hI.2.2.2.2.2.2.2.2.2.2.2.2.2.2.2.2.2.2.2.2.2.2.2.2.2.2.2.2.2.1)))
    have k_xSA : xSA W := by
      rw [hW]
      exact (uxSA rfl (uxSA rfl (uxSA rfl hI.2.2.2.2.2.2.2.2.2.2.2.2.2.2.2.2.2.2.2.2.2.2.2.2.2.2.2.2.2.2.1)))
    have k_xSG : xSG W := by
      rw [hW]
      exact (uxSG rfl (uxSG rfl (uxSG rfl hI.2.2.2.2.2.2.2.2.2.2.2.2.2.2.2.2.2.2.2.2.2.2.2.2.2.2.2.2.2.2.2.1)))
    have k_xSF : xSF W := by
      rw [hW]
      exact (uxSF rfl (uxSF rfl (uxSF rfl hI.2.2.2.2.2.2.2.2.2.2.2.2.2.2.2.2.2.2.2.2.2.2.2.2.2.2.2.2.2.2.2.2.1)))
    have k_xSB : xSB W := by
      have r4_220 : W 4 220 = M 4 220 := by rw [hW, sU_ne (fun z => by omega), sU_ne (fun z => by omega), sU_ne (fun z => by omega)]
      have r4_221 : W 4 221 = M 4 221 := by rw [hW, sU_ne (fun z => by omega), sU_ne (fun z => by omega), sU_ne (fun z => by omega)]
      have r4_222 : W 4 222 = 1 * ρ 0 + (1 * ρ 2 + 0) := by rw [hW, sU_ne (fun z => by omega), sU_ne (fun z => by omega), sU_at]
      have r4_223 : W 4 223 = M 4 223 := by rw [hW, sU_ne (fun z => by omega), sU_ne (fun z => by omega), sU_ne (fun z => by omega)]
      have r4_224 : W 4 224 = 1000000 * ρ 0 + 0 := by rw [hW, sU_ne (fun z => by omega), sU_at]
      have r4_225 : W 4 225 = M 4 225 := by rw [hW, sU_ne (fun z => by omega), sU_ne (fun z => by omega), sU_ne (fun z => by omega)]
      have r4_228 : W 4 228 = 1 * ((if 99999 < M 4 228 then M 4 228 else 10 * M 4 228 + ρ 6 - 48)) + 0 := by rw [hW, sU_at]
      have r4_229 : W 4 229 = M 4 229 := by rw [hW, sU_ne (fun z => by omega), sU_ne (fun z => by omega), sU_ne (fun z => by omega)]
      have r4_101 : W 4 101 = M 4 101 := by rw [hW, sU_ne (fun z => by omega), sU_ne (fun z => by omega), sU_ne (fun z => by omega)]
      have c92 : ∀ k, W 92 k = M 92 k := fun k => by rw [hW, sU_ne (fun z => by omega), sU_ne (fun z => by omega), sU_ne (fun z => by omega)]
      have e92 : W 92 = M 92 := funext c92
      intro h
      rw [r4_221, r4_222, r4_223, r4_224, r4_225, r4_228, r4_229, r4_101, e92]
      have s1 : (1 * ρ 0 + (1 * ρ 2 + 0)).toNat = (M 4 222).toNat + 1 := by rw [h0]; omega
      have s2 : (1 * ρ 0 + (1 * ρ 2 + 0) - M 4 221).toNat = (M 4 222 - M 4 221).toNat + 1 := by rw [h0]; omega
      rw [s1, s2, iu, ir]
      refine ⟨by omega, by rw [h0]; omega, by rw [h0]; omega, by omega, by omega, by omega, ?_, by omega, ?_, by omega⟩
      · (try rw [h0]); split <;> omega
      · (try rw [h0]); split <;> omega
    have k_xSC : xSC W := by
      rw [hW]
      exact (uxSC rfl (uxSC rfl (uxSC rfl hI.2.2.2.2.2.2.2.2.2.2.2.2.2.2.2.2.2.2.2.2.2.2.2.2.2.2.2.2.2.2.2.2.2.2.1)))
    have k_xSD : xSD W := by
      rw [hW]
      exact (uxSD rfl (uxSD rfl (uxSD rfl hI.2.2.2.2.2.2.2.2.2.2.2.2.2.2.2.2.2.2.2.2.2.2.2.2.2.2.2.2.2.2.2.2.2.2.2.1)))
    have k_xSE : xSE W := by
      rw [hW]
      exact (uxSE rfl (uxSE rfl (uxSE rfl hI.2.2.2.2.2.2.2.2.2.2.2.2.2.2.2.2.2.2.2.2.2.2.2.2.2.2.2.2.2.2.2.2.2.2.2.2.1)))
    have k_xSW : xSW W := by
      rw [hW]
      exact (uxSW rfl (uxSW rfl (uxSW rfl hI.2.2.2.2.2.2.2.2.2.2.2.2.2.2.2.2.2.2.2.2.2.2.2.2.2.2.2.2.2.2.2.2.2.2.2.2.2.1)))
    have k_xST : xST W := by
      rw [hW]
      exact (uxST rfl (uxST rfl (uxST rfl hI.2.2.2.2.2.2.2.2.2.2.2.2.2.2.2.2.2.2.2.2.2.2.2.2.2.2.2.2.2.2.2.2.2.2.2.2.2.2.1)))
    have k_xSP : xSP W := by
      rw [hW]
      exact (uxSP rfl (uxSP rfl (uxSP rfl hI.2.2.2.2.2.2.2.2.2.2.2.2.2.2.2.2.2.2.2.2.2.2.2.2.2.2.2.2.2.2.2.2.2.2.2.2.2.2.2.1)))
    have k_xSL : xSL W := by
      rw [hW]
      exact (uxSL rfl (uxSL rfl (uxSL rfl hI.2.2.2.2.2.2.2.2.2.2.2.2.2.2.2.2.2.2.2.2.2.2.2.2.2.2.2.2.2.2.2.2.2.2.2.2.2.2.2.2.1)))
    have k_xSM : xSM W := by
      rw [hW]
      exact (uxSM rfl (uxSM rfl (uxSM rfl hI.2.2.2.2.2.2.2.2.2.2.2.2.2.2.2.2.2.2.2.2.2.2.2.2.2.2.2.2.2.2.2.2.2.2.2.2.2.2.2.2.2.1)))
    have k_xSI : xSI W := by
      rw [hW]
      exact (uxSI rfl (uxSI rfl (uxSI rfl hI.2.2.2.2.2.2.2.2.2.2.2.2.2.2.2.2.2.2.2.2.2.2.2.2.2.2.2.2.2.2.2.2.2.2.2.2.2.2.2.2.2.2)))
    have k_XC : XC W := ⟨k_xS1, k_xS2, k_xS3, k_xS4, k_xS5, k_xS6, k_xS7, k_xS8, k_xS9, k_xSA, k_xSG, k_xSF, k_xSB, k_xSC, k_xSD, k_xSE, k_xSW, k_xST, k_xSP, k_xSL, k_xSM, k_xSI⟩
    have kXB : XB W := ⟨k_xN1, k_xN2, k_xN3, k_xN4, k_xN5, k_xN6, k_xH1, k_xK1, k_xC1, k_xRW, k_xWT, k_xCU, k_xG2, k_xG3, k_xG4, k_xG5, k_xG6, k_XC⟩
    exact ⟨base, k2, k3, kXA, kXB⟩
-- nOnRS
def xr_230 : qRu := (9, [[(-1, 0), (-1, 2), (1, 5)], [(-48, 0), (1, 6)], [(57, 0), (-1, 6)], [(-1, 2), (1, 7)], [(1, 2), (-1, 7)], [(-1, 5), (1, 8)], [(1, 5), (-1, 8)], [(99999, 0), (-1, 4)]], [(4, 220, [(1, 0)]), (4, 221, [(1, 1)]), (4, 222, [(1, 2)]), (4, 223, [(1, 3)]), (4, 101, [(1, 5)]), (4, 228, [(1, 4)]), (91, 990, [(1, 6)]), (91, 27, [(1, 7)]), (91, 26, [(1, 8)])], [], [(4, 222, [(1, 0), (1, 2)]), (4, 228, [(-48, 0), (10, 4), (1, 6)]), (4, 224, [(1, 9)])], [[(-1, 0), (-1, 2), (1, 3)]])
theorem xo_230 : qRok xr_230 := by
  intro ρ M h0 hf hm hI
  have f0 := hf [(-1, 0), (-1, 2), (1, 5)] (by decide)
  have f1 := hf [(-48, 0), (1, 6)] (by decide)
  have f2 := hf [(57, 0), (-1, 6)] (by decide)
  have f3 := hf [(-1, 2), (1, 7)] (by decide)
  have f4 := hf [(1, 2), (-1, 7)] (by decide)
  have f5 := hf [(-1, 5), (1, 8)] (by decide)
  have f6 := hf [(1, 5), (-1, 8)] (by decide)
  have f7 := hf [(99999, 0), (-1, 4)] (by decide)
  simp only [qD, h0] at f0 f1 f2 f3 f4 f5 f6 f7
  have m0 : M 4 220 = 1 * ρ 0 + 0 := hm (4, 220, [(1, 0)]) (by decide)
  have m1 : M 4 221 = 1 * ρ 1 + 0 := hm (4, 221, [(1, 1)]) (by decide)
  have m2 : M 4 222 = 1 * ρ 2 + 0 := hm (4, 222, [(1, 2)]) (by decide)
  have m3 : M 4 223 = 1 * ρ 3 + 0 := hm (4, 223, [(1, 3)]) (by decide)
  have m4 : M 4 101 = 1 * ρ 5 + 0 := hm (4, 101, [(1, 5)]) (by decide)
  have m5 : M 4 228 = 1 * ρ 4 + 0 := hm (4, 228, [(1, 4)]) (by decide)
  have m6 : M 91 990 = 1 * ρ 6 + 0 := hm (91, 990, [(1, 6)]) (by decide)
  have m7 : M 91 27 = 1 * ρ 7 + 0 := hm (91, 27, [(1, 7)]) (by decide)
  have m8 : M 91 26 = 1 * ρ 8 + 0 := hm (91, 26, [(1, 8)]) (by decide)
  simp only [h0] at m0
  have qxSB := hI.2.2.2.2.2.2.2.2.2.2.2.2.2.2.2.2.2.2.2.2.2.2.2.2.2.2.2.2.2.2.2.2.2.1
  obtain ⟨u1, u2, u3, u4, u5, u6, u7, u8, v1, v2⟩ := gx_xSB hI (by omega)

  have hv : M 92 (M 4 222).toNat = ρ 6 := by rw [show (M 4 222).toNat = (M 91 27).toNat by omega, ← xs_hr hI (by omega)]; omega
  have e2 := ten_on (g := M 92) (lo := 48) (hi := 57) (n := (M 4 101).toNat) (p := (M 4 222).toNat) (by omega) (by omega)
  have e3 := ten_b (M 92) 48 57 (n := (M 4 101).toNat) (p := (M 4 222).toNat + 1) (by omega)
  have iu : tNu (M 92) (M 4 221).toNat ((M 4 222 - M 4 221).toNat + 1) = (if M 4 224 * 10 + ρ 6 - 48 ≤ 1000000 then M 4 224 * 10 + ρ 6 - 48 else 1000000) := by
    show (if tNu (M 92) (M 4 221).toNat (M 4 222 - M 4 221).toNat * 10 + M 92 ((M 4 221).toNat + (M 4 222 - M 4 221).toNat) - 48 ≤ 1000000 then _ else _) = _
    rw [← u7, show (M 4 221).toNat + (M 4 222 - M 4 221).toNat = (M 4 222).toNat by omega, hv]
  have ir : tNr (M 92) (M 4 221).toNat ((M 4 222 - M 4 221).toNat + 1) = (if 99999 < M 4 228 then M 4 228 else 10 * M 4 228 + ρ 6 - 48) := by
    show (if 99999 < tNr (M 92) (M 4 221).toNat (M 4 222 - M 4 221).toNat then _ else 10 * _ + M 92 ((M 4 221).toNat + (M 4 222 - M 4 221).toNat) - 48) = _
    rw [← v1, show (M 4 221).toNat + (M 4 222 - M 4 221).toNat = (M 4 222).toNat by omega, hv]
  refine ⟨fun a => cond (Nat.blt a 9) (ρ a) (([(if M 4 224 * 10 + ρ 6 - 48 ≤ 1000000 then M 4 224 * 10 + ρ 6 - 48 else 1000000)] : List Int).getD (a - 9) 0), fun a ha => ?_, fun f h => ?_, ?_⟩
  · show cond (Nat.blt a 9) (ρ a) _ = ρ a
    rw [show Nat.blt a 9 = true from Nat.ble_eq_true_of_le ha]; rfl
  · have h : f ∈ ([[(-1, 0), (-1, 2), (1, 3)]] : List qF) := h
    simp only [List.mem_cons, List.not_mem_nil, or_false] at h
    rcases h with rfl
    · show 0 ≤ -1 * ρ 0 + (-1 * ρ 2 + (1 * ρ 3 + 0))
      (try rw [h0]); omega
  · show sI (sU (sU (sU M 4 222 (1 * ρ 0 + (1 * ρ 2 + 0))) 4 228 (-48 * ρ 0 + (10 * ρ 4 + (1 * ρ 6 + 0)))) 4 224 (1 * ((if M 4 224 * 10 + ρ 6 - 48 ≤ 1000000 then M 4 224 * 10 + ρ 6 - 48 else 1000000)) + 0))
    obtain ⟨W, hW⟩ : ∃ W, W = (sU (sU (sU M 4 222 (1 * ρ 0 + (1 * ρ 2 + 0))) 4 228 (-48 * ρ 0 + (10 * ρ 4 + (1 * ρ 6 + 0)))) 4 224 (1 * ((if M 4 224 * 10 + ρ 6 - 48 ≤ 1000000 then M 4 224 * 10 + ρ 6 - 48 else 1000000)) + 0)) := ⟨_, rfl⟩
    rw [← hW]
    have base : sI0 W := by
      rw [hW]
      exact (si_u0 (si_u0 (si_u0 hI.1 (fun r hr => by cases hr)) (fun r hr => by cases hr)) (fun r hr => by cases hr))
    have k2 : XI2 W := by
      rw [hW]
      exact (xi2_u rfl (xi2_u rfl (xi2_u rfl hI.2.1)))
    have k3 : XI3 W := by
      rw [hW]
      exact (xi3_u rfl (xi3_u rfl (xi3_u rfl hI.2.2.1)))
    have kXA : XA W := by
      rw [hW]
      exact (uXA rfl (uXA rfl (uXA rfl hI.2.2.2.1)))
    have k_xN1 : xN1 W := by
      rw [hW]
      exact (uxN1 rfl (uxN1 rfl (uxN1 rfl hI.2.2.2.2.1)))
    have k_xN2 : xN2 W := by
      rw [hW]
      exact (uxN2 rfl (uxN2 rfl (uxN2 rfl hI.2.2.2.2.2.1)))
    have k_xN3 : xN3 W := by
      rw [hW]
      exact (uxN3 rfl (uxN3 rfl (uxN3 rfl hI.2.2.2.2.2.2.1)))
    have k_xN4 : xN4 W := by
      rw [hW]
      exact (uxN4 rfl (uxN4 rfl (uxN4 rfl hI.2.2.2.2.2.2.2.1)))
    have k_xN5 : xN5 W := by
      rw [hW]
      exact (uxN5 rfl (uxN5 rfl (uxN5 rfl hI.2.2.2.2.2.2.2.2.1)))
    have k_xN6 : xN6 W := by
      rw [hW]
      exact (uxN6 rfl (uxN6 rfl (uxN6 rfl hI.2.2.2.2.2.2.2.2.2.1)))
    have k_xH1 : xH1 W := by
      rw [hW]
      exact (uxH1 rfl (uxH1 rfl (uxH1 rfl hI.2.2.2.2.2.2.2.2.2.2.1)))
    have k_xK1 : xK1 W := by
      rw [hW]
      exact (uxK1 rfl (uxK1 rfl (uxK1 rfl hI.2.2.2.2.2.2.2.2.2.2.2.1)))
    have k_xC1 : xC1 W := by
      rw [hW]
      exact (uxC1 rfl (uxC1 rfl (uxC1 rfl hI.2.2.2.2.2.2.2.2.2.2.2.2.1)))
    have k_xRW : xRW W := by
      rw [hW]
      exact (uxRW rfl (uxRW rfl (uxRW rfl hI.2.2.2.2.2.2.2.2.2.2.2.2.2.1)))
    have k_xWT : xWT W := by
      rw [hW]
      exact (uxWT rfl (uxWT rfl (uxWT rfl hI.2.2.2.2.2.2.2.2.2.2.2.2.2.2.1)))
    have k_xCU : xCU W := by
      rw [hW]
      exact (uxCU rfl (uxCU rfl (uxCU rfl hI.2.2.2.2.2.2.2.2.2.2.2.2.2.2.2.1)))
    have k_xG2 : xG2 W := by
      rw [hW]
      exact (uxG2 rfl (uxG2 rfl (uxG2 rfl hI.2.2.2.2.2.2.2.2.2.2.2.2.2.2.2.2.1)))
    have k_xG3 : xG3 W := by
      rw [hW]
      exact (uxG3 rfl (uxG3 rfl (uxG3 rfl hI.2.2.2.2.2.2.2.2.2.2.2.2.2.2.2.2.2.1)))
    have k_xG4 : xG4 W := by
      rw [hW]
      exact (uxG4 rfl (uxG4 rfl (uxG4 rfl hI.2.2.2.2.2.2.2.2.2.2.2.2.2.2.2.2.2.2.1)))
    have k_xG5 : xG5 W := by
      rw [hW]
      exact (uxG5 rfl (uxG5 rfl (uxG5 rfl hI.2.2.2.2.2.2.2.2.2.2.2.2.2.2.2.2.2.2.2.1)))
    have k_xG6 : xG6 W := by
      rw [hW]
      exact (uxG6 rfl (uxG6 rfl (uxG6 rfl hI.2.2.2.2.2.2.2.2.2.2.2.2.2.2.2.2.2.2.2.2.1)))
    have k_xS1 : xS1 W := by
      rw [hW]
      exact (uxS1 rfl (uxS1 rfl (uxS1 rfl hI.2.2.2.2.2.2.2.2.2.2.2.2.2.2.2.2.2.2.2.2.2.1)))
    have k_xS2 : xS2 W := by
      rw [hW]
      exact (uxS2 rfl (uxS2 rfl (uxS2 rfl hI.2.2.2.2.2.2.2.2.2.2.2.2.2.2.2.2.2.2.2.2.2.2.1)))
    have k_xS3 : xS3 W := by
      rw [hW]
      exact (uxS3 rfl (uxS3 rfl (uxS3 rfl hI.2.2.2.2.2.2.2.2.2.2.2.2.2.2.2.2.2.2.2.2.2.2.2.1)))
    have k_xS4 : xS4 W := by
      rw [hW]
      exact (uxS4 rfl (uxS4 rfl (uxS4 rfl hI.2.2.2.2.2.2.2.2.2.2.2.2.2.2.2.2.2.2.2.2.2.2.2.2.1)))
    have k_xS5 : xS5 W := by
      rw [hW]
      exact (uxS5 rfl (uxS5 rfl (uxS5 rfl hI.2.2.2.2.2.2.2.2.2.2.2.2.2.2.2.2.2.2.2.2.2.2.2.2.2.1)))
    have k_xS6 : xS6 W := by
      rw [hW]
      exact (uxS6 rfl (uxS6 rfl (uxS6 rfl hI.2.2.2.2.2.2.2.2.2.2.2.2.2.2.2.2.2.2.2.2.2.2.2.2.2.2.1)))
    have k_xS7 : xS7 W := by
      rw [hW]
      exact (uxS7 rfl (uxS7 rfl (uxS7 rfl hI.2.2.2.2.2.2.2.2.2.2.2.2.2.2.2.2.2.2.2.2.2.2.2.2.2.2.2.1)))
    have k_xS8 : xS8 W := by
      rw [hW]
      exact (uxS8 rfl (uxS8 rfl (uxS8 rfl hI.2.2.2.2.2.2.2.2.2.2.2.2.2.2.2.2.2.2.2.2.2.2.2.2.2.2.2.2.1)))
    have k_xS9 : xS9 W := by
      rw [hW]
      exact (uxS9 rfl (uxS9 rfl (uxS9 rfl hI.2.2.2.2.2.2.2.2.2.2.2.2.2.2.2.2.2.2.2.2.2.2.2.2.2.2.2.2.2.1)))
    have k_xSA : xSA W := by
      rw [hW]
      exact (uxSA rfl (uxSA rfl (uxSA rfl hI.2.2.2.2.2.2.2.2.2.2.2.2.2.2.2.2.2.2.2.2.2.2.2.2.2.2.2.2.2.2.1)))
    have k_xSG : xSG W := by
      rw [hW]
      exact (uxSG rfl (uxSG rfl (uxSG rfl hI.2.2.2.2.2.2.2.2.2.2.2.2.2.2.2.2.2.2.2.2.2.2.2.2.2.2.2.2.2.2.2.1)))
    have k_xSF : xSF W := by
      rw [hW]
      exact (uxSF rfl (uxSF rfl (uxSF rfl hI.2.2.2.2.2.2.2.2.2.2.2.2.2.2.2.2.2.2.2.2.2.2.2.2.2.2.2.2.2.2.2.2.1)))
    have k_xSB : xSB W := by
      have r4_220 : W 4 220 = M 4 220 := by rw [hW, sU_ne (fun z => by omega), sU_ne (fun z => by omega), sU_ne (fun z => by omega)]
      have r4_221 : W 4 221 = M 4 221 := by rw [hW, sU_ne (fun z => by omega), sU_ne (fun z => by omega), sU_ne (fun z => by omega)]
      have r4_222 : W 4 222 = 1 * ρ 0 + (1 * ρ 2 + 0) := by rw [hW, sU_ne (fun z => by omega), sU_ne (fun z => by omega), sU_at]
      have r4_223 : W 4 223 = M 4 223 := by rw [hW, sU_ne (fun z => by omega), sU_ne (fun z => by omega), sU_ne (fun z => by omega)]
      have r4_224 : W 4 224 = 1 * ((if M 4 224 * 10 + ρ 6 - 48 ≤ 1000000 then M 4 224 * 10 + ρ 6 - 48 else 1000000)) + 0 := by rw [hW, sU_at]
      have r4_225 : W 4 225 = M 4 225 := by rw [hW, sU_ne (fun z => by omega), sU_ne (fun z => by omega), sU_ne (fun z => by omega)]
      have r4_228 : W 4 228 = -48 * ρ 0 + (10 * ρ 4 + (1 * ρ 6 + 0)) := by rw [hW, sU_ne (fun z => by omega), sU_at]
      have r4_229 : W 4 229 = M 4 229 := by rw [hW, sU_ne (fun z => by omega), sU_ne (fun z => by omega), sU_ne (fun z => by omega)]
      have r4_101 : W 4 101 = M 4 101 := by rw [hW, sU_ne (fun z => by omega), sU_ne (fun z => by omega), sU_ne (fun z => by omega)]
      have c92 : ∀ k, W 92 k = M 92 k := fun k => by rw [hW, sU_ne (fun z => by omega), sU_ne (fun z => by omega), sU_ne (fun z => by omega)]
      have e92 : W 92 = M 92 := funext c92
      intro h
      rw [r4_221, r4_222, r4_223, r4_224, r4_225, r4_228, r4_229, r4_101, e92]
      have s1 : (1 * ρ 0 + (1 * ρ 2 + 0)).toNat = (M 4 222).toNat + 1 := by rw [h0]; omega
      have s2 : (1 * ρ 0 + (1 * ρ 2 + 0) - M 4 221).toNat = (M 4 222 - M 4 221).toNat + 1 := by rw [h0]; omega
      rw [s1, s2, iu, ir]
      refine ⟨by omega, by rw [h0]; omega, by rw [h0]; omega, by omega, by omega, by omega, ?_, by omega, ?_, by omega⟩
      · (try rw [h0]); split <;> omega
      · (try rw [h0]); split <;> omega
    have k_xSC : xSC W := by
      rw [hW]
      exact (uxSC rfl (uxSC rfl (uxSC rfl hI.2.2.2.2.2.2.2.2.2.2.2.2.2.2.2.2.2.2.2.2.2.2.2.2.2.2.2.2.2.2.2.2.2.2.1)))
    have k_xSD : xSD W := by
      rw [hW]
      exact (uxSD rfl (uxSD rfl (uxSD rfl hI.2.2.2.2.2.2.2.2.2.2.2.2.2.2.2.2.2.2.2.2.2.2.2.2.2.2.2.2.2.2.2.2.2.2.2.1)))
    have k_xSE : xSE W := by
      rw [hW]
      exact (uxSE rfl (uxSE rfl (uxSE rfl hI.2.2.2.2.2.2.2.2.2.2.2.2.2.2.2.2.2.2.2.2.2.2.2.2.2.2.2.2.2.2.2.2.2.2.2.2.1)))
    have k_xSW : xSW W := by
      rw [hW]
      exact (uxSW rfl (uxSW rfl (uxSW rfl hI.2.2.2.2.2.2.2.2.2.2.2.2.2.2.2.2.2.2.2.2.2.2.2.2.2.2.2.2.2.2.2.2.2.2.2.2.2.1)))
    have k_xST : xST W := by
      rw [hW]
      exact (uxST rfl (uxST rfl (uxST rfl hI.2.2.2.2.2.2.2.2.2.2.2.2.2.2.2.2.2.2.2.2.2.2.2.2.2.2.2.2.2.2.2.2.2.2.2.2.2.2.1)))
    have k_xSP : xSP W := by
      rw [hW]
      exact (uxSP rfl (uxSP rfl (uxSP rfl hI.2.2.2.2.2.2.2.2.2.2.2.2.2.2.2.2.2.2.2.2.2.2.2.2.2.2.2.2.2.2.2.2.2.2.2.2.2.2.2.1)))
    have k_xSL : xSL W := by
      rw [hW]
      exact (uxSL rfl (uxSL rfl (uxSL rfl hI.2.2.2.2.2.2.2.2.2.2.2.2.2.2.2.2.2.2.2.2.2.2.2.2.2.2.2.2.2.2.2.2.2.2.2.2.2.2.2.2.1)))
    have k_xSM : xSM W := by
      rw [hW]
      exact (uxSM rfl (uxSM rfl (uxSM rfl hI.2.2.2.2.2.2.2.2.2.2.2.2.2.2.2.2.2.2.2.2.2.2.2.2.2.2.2.2.2.2.2.2.2.2.2.2.2.2.2.2.2.1)))
    have k_xSI : xSI W := by
      rw [hW]
      exact (uxSI rfl (uxSI rfl (uxSI rfl hI.2.2.2.2.2.2.2.2.2.2.2.2.2.2.2.2.2.2.2.2.2.2.2.2.2.2.2.2.2.2.2.2.2.2.2.2.2.2.2.2.2.2)))
    have k_XC : XC W := ⟨k_xS1, k_xS2, k_xS3, k_xS4, k_xS5, k_xS6, k_xS7, k_xS8, k_xS9, k_xSA, k_xSG, k_xSF, k_xSB, k_xSC, k_xSD, k_xSE, k_xSW, k_xST, k_xSP, k_xSL, k_xSM, k_xSI⟩
    have kXB : XB W := ⟨k_xN1, k_xN2, k_xN3, k_xN4, k_xN5, k_xN6, k_xH1, k_xK1, k_xC1, k_xRW, k_xWT, k_xCU, k_xG2, k_xG3, k_xG4, k_xG5, k_xG6, k_XC⟩
    exact ⟨base, k2, k3, kXA, kXB⟩
-- nOnRF
def xr_231 : qRu := (9, [[(-1, 0), (-1, 2), (1, 5)], [(-48, 0), (1, 6)], [(57, 0), (-1, 6)], [(-1, 2), (1, 7)], [(1, 2), (-1, 7)], [(-1, 5), (1, 8)], [(1, 5), (-1, 8)], [(-100000, 0), (1, 4)]], [(4, 220, [(1, 0)]), (4, 221, [(1, 1)]), (4, 222, [(1, 2)]), (4, 223, [(1, 3)]), (4, 101, [(1, 5)]), (4, 228, [(1, 4)]), (91, 990, [(1, 6)]), (91, 27, [(1, 7)]), (91, 26, [(1, 8)])], [], [(4, 222, [(1, 0), (1, 2)]), (4, 224, [(1, 9)])], [[(-1, 0), (-1, 2), (1, 3)]])
theorem xo_231 : qRok xr_231 := by
  intro ρ M h0 hf hm hI
  have f0 := hf [(-1, 0), (-1, 2), (1, 5)] (by decide)
  have f1 := hf [(-48, 0), (1, 6)] (by decide)
  have f2 := hf [(57, 0), (-1, 6)] (by decide)
  have f3 := hf [(-1, 2), (1, 7)] (by decide)
  have f4 := hf [(1, 2), (-1, 7)] (by decide)
  have f5 := hf [(-1, 5), (1, 8)] (by decide)
  have f6 := hf [(1, 5), (-1, 8)] (by decide)
  have f7 := hf [(-100000, 0), (1, 4)] (by decide)
  simp only [qD, h0] at f0 f1 f2 f3 f4 f5 f6 f7
  have m0 : M 4 220 = 1 * ρ 0 + 0 := hm (4, 220, [(1, 0)]) (by decide)
  have m1 : M 4 221 = 1 * ρ 1 + 0 := hm (4, 221, [(1, 1)]) (by decide)
  have m2 : M 4 222 = 1 * ρ 2 + 0 := hm (4, 222, [(1, 2)]) (by decide)
  have m3 : M 4 223 = 1 * ρ 3 + 0 := hm (4, 223, [(1, 3)]) (by decide)
  have m4 : M 4 101 = 1 * ρ 5 + 0 := hm (4, 101, [(1, 5)]) (by decide)
  have m5 : M 4 228 = 1 * ρ 4 + 0 := hm (4, 228, [(1, 4)]) (by decide)
  have m6 : M 91 990 = 1 * ρ 6 + 0 := hm (91, 990, [(1, 6)]) (by decide)
  have m7 : M 91 27 = 1 * ρ 7 + 0 := hm (91, 27, [(1, 7)]) (by decide)
  have m8 : M 91 26 = 1 * ρ 8 + 0 := hm (91, 26, [(1, 8)]) (by decide)
  simp only [h0] at m0
  have qxSB := hI.2.2.2.2.2.2.2.2.2.2.2.2.2.2.2.2.2.2.2.2.2.2.2.2.2.2.2.2.2.2.2.2.2.1
  obtain ⟨u1, u2, u3, u4, u5, u6, u7, u8, v1, v2⟩ := gx_xSB hI (by omega)

  have hv : M 92 (M 4 222).toNat = ρ 6 := by rw [show (M 4 222).toNat = (M 91 27).toNat by omega, ← xs_hr hI (by omega)]; omega
  have e2 := ten_on (g := M 92) (lo := 48) (hi := 57) (n := (M 4 101).toNat) (p := (M 4 222).toNat) (by omega) (by omega)
  have e3 := ten_b (M 92) 48 57 (n := (M 4 101).toNat) (p := (M 4 222).toNat + 1) (by omega)
  have iu : tNu (M 92) (M 4 221).toNat ((M 4 222 - M 4 221).toNat + 1) = (if M 4 224 * 10 + ρ 6 - 48 ≤ 1000000 then M 4 224 * 10 + ρ 6 - 48 else 1000000) := by
    show (if tNu (M 92) (M 4 221).toNat (M 4 222 - M 4 221).toNat * 10 + M 92 ((M 4 221).toNat + (M 4 222 - M 4 221).toNat) - 48 ≤ 1000000 then _ else _) = _
    rw [← u7, show (M 4 221).toNat + (M 4 222 - M 4 221).toNat = (M 4 222).toNat by omega, hv]
  have ir : tNr (M 92) (M 4 221).toNat ((M 4 222 - M 4 221).toNat + 1) = (if 99999 < M 4 228 then M 4 228 else 10 * M 4 228 + ρ 6 - 48) := by
    show (if 99999 < tNr (M 92) (M 4 221).toNat (M 4 222 - M 4 221).toNat then _ else 10 * _ + M 92 ((M 4 221).toNat + (M 4 222 - M 4 221).toNat) - 48) = _
    rw [← v1, show (M 4 221).toNat + (M 4 222 - M 4 221).toNat = (M 4 222).toNat by omega, hv]
  refine ⟨fun a => cond (Nat.blt a 9) (ρ a) (([(if M 4 224 * 10 + ρ 6 - 48 ≤ 1000000 then M 4 224 * 10 + ρ 6 - 48 else 1000000)] : List Int).getD (a - 9) 0), fun a ha => ?_, fun f h => ?_, ?_⟩
  · show cond (Nat.blt a 9) (ρ a) _ = ρ a
    rw [show Nat.blt a 9 = true from Nat.ble_eq_true_of_le ha]; rfl
  · have h : f ∈ ([[(-1, 0), (-1, 2), (1, 3)]] : List qF) := h
    simp only [List.mem_cons, List.not_mem_nil, or_false] at h
    rcases h with rfl
    · show 0 ≤ -1 * ρ 0 + (-1 * ρ 2 + (1 * ρ 3 + 0))
      (try rw [h0]); omega
  · show sI (sU (sU M 4 222 (1 * ρ 0 + (1 * ρ 2 + 0))) 4 224 (1 * ((if M 4 224 * 10 + ρ 6 - 48 ≤ 1000000 then M 4 224 * 10 + ρ 6 - 48 else 1000000)) + 0))
    obtain ⟨W, hW⟩ : ∃ W, W = (sU (sU M 4 222 (1 * ρ 0 + (1 * ρ 2 + 0))) 4 224 (1 * ((if M 4 224 * 10 + ρ 6 - 48 ≤ 1000000 then M 4 224 * 10 + ρ 6 - 48 else 1000000)) + 0)) := ⟨_, rfl⟩
    rw [← hW]
    have base : sI0 W := by
      rw [hW]
      exact (si_u0 (si_u0 hI.1 (fun r hr => by cases hr)) (fun r hr => by cases hr))
    have k2 : XI2 W := by
      rw [hW]
      exact (xi2_u rfl (xi2_u rfl hI.2.1))
    have k3 : XI3 W := by
      rw [hW]
      exact (xi3_u rfl (xi3_u rfl hI.2.2.1))
    have kXA : XA W := by
      rw [hW]
      exact (uXA rfl (uXA rfl hI.2.2.2.1))
    have k_xN1 : xN1 W := by
      rw [hW]
      exact (uxN1 rfl (uxN1 rfl hI.2.2.2.2.1))
    have k_xN2 : xN2 W := by
      rw [hW]
      exact (uxN2 rfl (uxN2 rfl hI.2.2.2.2.2.1))
    have k_xN3 : xN3 W := by
      rw [hW]
      exact (uxN3 rfl (uxN3 rfl hI.2.2.2.2.2.2.1))
    have k_xN4 : xN4 W := by
      rw [hW]
      exact (uxN4 rfl (uxN4 rfl hI.2.2.2.2.2.2.2.1))
    have k_xN5 : xN5 W := by
      rw [hW]
      exact (uxN5 rfl (uxN5 rfl hI.2.2.2.2.2.2.2.2.1))
    have k_xN6 : xN6 W := by
      rw [hW]
      exact (uxN6 rfl (uxN6 rfl hI.2.2.2.2.2.2.2.2.2.1))
    have k_xH1 : xH1 W := by
      rw [hW]
      exact (uxH1 rfl (uxH1 rfl hI.2.2.2.2.2.2.2.2.2.2.1))
    have k_xK1 : xK1 W := by
      rw [hW]
      exact (uxK1 rfl (uxK1 rfl hI.2.2.2.2.2.2.2.2.2.2.2.1))
    have k_xC1 : xC1 W := by
      rw [hW]
      exact (uxC1 rfl (uxC1 rfl hI.2.2.2.2.2.2.2.2.2.2.2.2.1))
    have k_xRW : xRW W := by
      rw [hW]
      exact (uxRW rfl (uxRW rfl hI.2.2.2.2.2.2.2.2.2.2.2.2.2.1))
    have k_xWT : xWT W := by
      rw [hW]
      exact (uxWT rfl (uxWT rfl hI.2.2.2.2.2.2.2.2.2.2.2.2.2.2.1))
    have k_xCU : xCU W := by
      rw [hW]
      exact (uxCU rfl (uxCU rfl hI.2.2.2.2.2.2.2.2.2.2.2.2.2.2.2.1))
    have k_xG2 : xG2 W := by
      rw [hW]
      exact (uxG2 rfl (uxG2 rfl hI.2.2.2.2.2.2.2.2.2.2.2.2.2.2.2.2.1))
    have k_xG3 : xG3 W := by
      rw [hW]
      exact (uxG3 rfl (uxG3 rfl hI.2.2.2.2.2.2.2.2.2.2.2.2.2.2.2.2.2.1))
    have k_xG4 : xG4 W := by
      rw [hW]
      exact (uxG4 rfl (uxG4 rfl hI.2.2.2.2.2.2.2.2.2.2.2.2.2.2.2.2.2.2.1))
    have k_xG5 : xG5 W := by
      rw [hW]
      exact (uxG5 rfl (uxG5 rfl hI.2.2.2.2.2.2.2.2.2.2.2.2.2.2.2.2.2.2.2.1))
    have k_xG6 : xG6 W := by
      rw [hW]
      exact (uxG6 rfl (uxG6 rfl hI.2.2.2.2.2.2.2.2.2.2.2.2.2.2.2.2.2.2.2.2.1))
    have k_xS1 : xS1 W := by
      rw [hW]
      exact (uxS1 rfl (uxS1 rfl hI.2.2.2.2.2.2.2.2.2.2.2.2.2.2.2.2.2.2.2.2.2.1))
    have k_xS2 : xS2 W := by
      rw [hW]
      exact (uxS2 rfl (uxS2 rfl hI.2.2.2.2.2.2.2.2.2.2.2.2.2.2.2.2.2.2.2.2.2.2.1))
    have k_xS3 : xS3 W := by
      rw [hW]
      exact (uxS3 rfl (uxS3 rfl hI.2.2.2.2.2.2.2.2.2.2.2.2.2.2.2.2.2.2.2.2.2.2.2.1))
    have k_xS4 : xS4 W := by
      rw [hW]
      exact (uxS4 rfl (uxS4 rfl hI.2.2.2.2.2.2.2.2.2.2.2.2.2.2.2.2.2.2.2.2.2.2.2.2.1))
    have k_xS5 : xS5 W := by
      rw [hW]
      exact (uxS5 rfl (uxS5 rfl hI.2.2.2.2.2.2.2.2.2.2.2.2.2.2.2.2.2.2.2.2.2.2.2.2.2.1))
    have k_xS6 : xS6 W := by
      rw [hW]
      exact (uxS6 rfl (uxS6 rfl hI.2.2.2.2.2.2.2.2.2.2.2.2.2.2.2.2.2.2.2.2.2.2.2.2.2.2.1))
    have k_xS7 : xS7 W := by
      rw [hW]
      exact (uxS7 rfl (uxS7 rfl hI.2.2.2.2.2.2.2.2.2.2.2.2.2.2.2.2.2.2.2.2.2.2.2.2.2.2.2.1))
    have k_xS8 : xS8 W := by
      rw [hW]
      exact (uxS8 rfl (uxS8 rfl hI.2.2.2.2.2.2.2.2.2.2.2.2.2.2.2.2.2.2.2.2.2.2.2.2.2.2.2.2.1))
    have k_xS9 : xS9 W := by
      rw [hW]
      exact (uxS9 rfl (uxS9 rfl hI.2.2.2.2.2.2.2.2.2.2.2.2.2.2.2.2.2.2.2.2.2.2.2.2.2.2.2.2.2.1))
    have k_xSA : xSA W := by
      rw [hW]
      exact (uxSA rfl (uxSA rfl hI.2.2.2.2.2.2.2.2.2.2.2.2.2.2.2.2.2.2.2.2.2.2.2.2.2.2.2.2.2.2.1))
    have k_xSG : xSG W := by
      rw [hW]
      exact (uxSG rfl (uxSG rfl hI.2.2.2.2.2.2.2.2.2.2.2.2.2.2.2.2.2.2.2.2.2.2.2.2.2.2.2.2.2.2.2.1))
    have k_xSF : xSF W := by
      rw [hW]
      exact (uxSF rfl (uxSF rfl hI.2.2.2.2.2.2.2.2.2.2.2.2.2.2.2.2.2.2.2.2.2.2.2.2.2.2.2.2.2.2.2.2.1))
    have k_xSB : xSB W := by
      have r4_220 : W 4 220 = M 4 220 := by rw [hW, sU_ne (fun z => by omega), sU_ne (fun z => by omega)]
      have r4_221 : W 4 221 = M 4 221 := by rw [hW, sU_ne (fun z => by omega), sU_ne (fun z => by omega)]
      have r4_222 : W 4 222 = 1 * ρ 0 + (1 * ρ 2 + 0) := by rw [hW, sU_ne (fun z => by omega), sU_at]
      have r4_223 : W 4 223 = M 4 223 := by rw [hW, sU_ne (fun z => by omega), sU_ne (fun z => by omega)]
      have r4_224 : W 4 224 = 1 * ((if M 4 224 * 10 + ρ 6 - 48 ≤ 1000000 then M 4 224 * 10 + ρ 6 - 48 else 1000000)) + 0 := by rw [hW, sU_at]
      have r4_225 : W 4 225 = M 4 225 := by rw [hW, sU_ne (fun z => by omega), sU_ne (fun z => by omega)]
      have r4_228 : W 4 228 = M 4 228 := by rw [hW, sU_ne (fun z => by omega), sU_ne (fun z => by omega)]
      have r4_229 : W 4 229 = M 4 229 := by rw [hW, sU_ne (fun z => by omega), sU_ne (fun z => by omega)]
      have r4_101 : W 4 101 = M 4 101 := by rw [hW, sU_ne (fun z => by omega), sU_ne (fun z => by omega)]
      have c92 : ∀ k, W 92 k = M 92 k := fun k => by rw [hW, sU_ne (fun z => by omega), sU_ne (fun z => by omega)]
      have e92 : W 92 = M 92 := funext c92
      intro h
      rw [r4_221, r4_222, r4_223, r4_224, r4_225, r4_228, r4_229, r4_101, e92]
      have s1 : (1 * ρ 0 + (1 * ρ 2 + 0)).toNat = (M 4 222).toNat + 1 := by rw [h0]; omega
      have s2 : (1 * ρ 0 + (1 * ρ 2 + 0) - M 4 221).toNat = (M 4 222 - M 4 221).toNat + 1 := by rw [h0]; omega
      rw [s1, s2, iu, ir]
      refine ⟨by omega, by rw [h0]; omega, by rw [h0]; omega, by omega, by omega, by omega, ?_, by omega, ?_, by omega⟩
      · (try rw [h0]); split <;> omega
      · (try rw [h0]); split <;> omega
    have k_xSC : xSC W := by
      rw [hW]
      exact (uxSC rfl (uxSC rfl hI.2.2.2.2.2.2.2.2.2.2.2.2.2.2.2.2.2.2.2.2.2.2.2.2.2.2.2.2.2.2.2.2.2.2.1))
    have k_xSD : xSD W := by
      rw [hW]
      exact (uxSD rfl (uxSD rfl hI.2.2.2.2.2.2.2.2.2.2.2.2.2.2.2.2.2.2.2.2.2.2.2.2.2.2.2.2.2.2.2.2.2.2.2.1))
    have k_xSE : xSE W := by
      rw [hW]
      exact (uxSE rfl (uxSE rfl hI.2.2.2.2.2.2.2.2.2.2.2.2.2.2.2.2.2.2.2.2.2.2.2.2.2.2.2.2.2.2.2.2.2.2.2.2.1))
    have k_xSW : xSW W := by
      rw [hW]
      exact (uxSW rfl (uxSW rfl hI.2.2.2.2.2.2.2.2.2.2.2.2.2.2.2.2.2.2.2.2.2.2.2.2.2.2.2.2.2.2.2.2.2.2.2.2.2.1))
    have k_xST : xST W := by
      rw [hW]
      exact (uxST rfl (uxST rfl hI.2.2.2.2.2.2.2.2.2.2.2.2.2.2.2.2.2.2.2.2.2.2.2.2.2.2.2.2.2.2.2.2.2.2.2.2.2.2.1))
    have k_xSP : xSP W := by
      rw [hW]
      exact (uxSP rfl (uxSP rfl hI.2.2.2.2.2.2.2.2.2.2.2.2.2.2.2.2.2.2.2.2.2.2.2.2.2.2.2.2.2.2.2.2.2.2.2.2.2.2.2.1))
    have k_xSL : xSL W := by
      rw [hW]
      exact (uxSL rfl (uxSL rfl hI.2.2.2.2.2.2.2.2.2.2.2.2.2.2.2.2.2.2.2.2.2.2.2.2.2.2.2.2.2.2.2.2.2.2.2.2.2.2.2.2.1))
    have k_xSM : xSM W := by
      rw [hW]
      exact (uxSM rfl (uxSM rfl hI.2.2.2.2.2.2.2.2.2.2.2.2.2.2.2.2.2.2.2.2.2.2.2.2.2.2.2.2.2.2.2.2.2.2.2.2.2.2.2.2.2.1))
    have k_xSI : xSI W := by
      rw [hW]
      exact (uxSI rfl (uxSI rfl hI.2.2.2.2.2.2.2.2.2.2.2.2.2.2.2.2.2.2.2.2.2.2.2.2.2.2.2.2.2.2.2.2.2.2.2.2.2.2.2.2.2.2))
    have k_XC : XC W := ⟨k_xS1, k_xS2, k_xS3, k_xS4, k_xS5, k_xS6, k_xS7, k_xS8, k_xS9, k_xSA, k_xSG, k_xSF, k_xSB, k_xSC, k_xSD, k_xSE, k_xSW, k_xST, k_xSP, k_xSL, k_xSM, k_xSI⟩
    have kXB : XB W := ⟨k_xN1, k_xN2, k_xN3, k_xN4, k_xN5, k_xN6, k_xH1, k_xK1, k_xC1, k_xRW, k_xWT, k_xCU, k_xG2, k_xG3, k_xG4, k_xG5, k_xG6, k_XC⟩
    exact ⟨base, k2, k3, kXA, kXB⟩
-- nStopE
def xr_232 : qRu := (8, [[(1, 2), (-1, 5)]], [(4, 220, [(1, 0)]), (4, 221, [(1, 1)]), (4, 222, [(1, 2)]), (4, 223, [(1, 3)]), (4, 101, [(1, 5)]), (4, 224, [(1, 4)]), (4, 225, [(1, 7)])], [], [], [[(-1, 2), (1, 3)], [(1, 2), (-1, 3)], [(1, 4), (-1, 7)], [(-1, 4), (1, 7)]])
theorem xo_232 : qRok xr_232 := by
  intro ρ M h0 hf hm hI
  have f0 := hf [(1, 2), (-1, 5)] (by decide)
  simp only [qD, h0] at f0
  have m0 : M 4 220 = 1 * ρ 0 + 0 := hm (4, 220, [(1, 0)]) (by decide)
  have m1 : M 4 221 = 1 * ρ 1 + 0 := hm (4, 221, [(1, 1)]) (by decide)
  have m2 : M 4 222 = 1 * ρ 2 + 0 := hm (4, 222, [(1, 2)]) (by decide)
  have m3 : M 4 223 = 1 * ρ 3 + 0 := hm (4, 223, [(1, 3)]) (by decide)
  have m4 : M 4 101 = 1 * ρ 5 + 0 := hm (4, 101, [(1, 5)]) (by decide)
  have m5 : M 4 224 = 1 * ρ 4 + 0 := hm (4, 224, [(1, 4)]) (by decide)
  have m6 : M 4 225 = 1 * ρ 7 + 0 := hm (4, 225, [(1, 7)]) (by decide)
  simp only [h0] at m0
  obtain ⟨u1, u2, u3, u4, u5, u6, u7, u8, v1, v2⟩ := gx_xSB hI (by omega)

  have e2 := ten_at (g := M 92) (lo := 48) (hi := 57) (n := (M 4 101).toNat) (p := (M 4 222).toNat) (by omega)

  have ee : M 4 223 = M 4 222 := by omega
  rw [ee] at u8 v2
  refine ⟨ρ, fun _ _ => rfl, fun f h => ?_, ?_⟩
  · have h : f ∈ ([[(-1, 2), (1, 3)], [(1, 2), (-1, 3)], [(1, 4), (-1, 7)], [(-1, 4), (1, 7)]] : List qF) := h
    simp only [List.mem_cons, List.not_mem_nil, or_false] at h
    rcases h with rfl | rfl | rfl | rfl
    · show 0 ≤ -1 * ρ 2 + (1 * ρ 3 + 0)
      (try rw [h0]); omega
    · show 0 ≤ 1 * ρ 2 + (-1 * ρ 3 + 0)
      (try rw [h0]); omega
    · show 0 ≤ 1 * ρ 4 + (-1 * ρ 7 + 0)
      (try rw [h0]); omega
    · show 0 ≤ -1 * ρ 4 + (1 * ρ 7 + 0)
      (try rw [h0]); omega
  · show sI M
    exact hI
-- nStopL
def xr_233 : qRu := (8, [[(-1, 0), (-1, 2), (1, 5)], [(47, 0), (-1, 6)]], [(4, 100, [(1, 0)]), (4, 220, [(1, 0)]), (4, 221, [(1, 1)]), (4, 222, [(1, 2)]), (4, 223, [(1, 3)]), (4, 101, [(1, 5)]), (1, 1002, [(1, 6)]), (4, 224, [(1, 4)]), (4, 225, [(1, 7)])], [], [], [[(-1, 2), (1, 3)], [(1, 2), (-1, 3)], [(1, 4), (-1, 7)], [(-1, 4), (1, 7)]])
theorem xo_233 : qRok xr_233 := by
  intro ρ M h0 hf hm hI
  have f0 := hf [(-1, 0), (-1, 2), (1, 5)] (by decide)
  have f1 := hf [(47, 0), (-1, 6)] (by decide)
  simp only [qD, h0] at f0 f1
  have m0 : M 4 100 = 1 * ρ 0 + 0 := hm (4, 100, [(1, 0)]) (by decide)
  have m1 : M 4 220 = 1 * ρ 0 + 0 := hm (4, 220, [(1, 0)]) (by decide)
  have m2 : M 4 221 = 1 * ρ 1 + 0 := hm (4, 221, [(1, 1)]) (by decide)
  have m3 : M 4 222 = 1 * ρ 2 + 0 := hm (4, 222, [(1, 2)]) (by decide)
  have m4 : M 4 223 = 1 * ρ 3 + 0 := hm (4, 223, [(1, 3)]) (by decide)
  have m5 : M 4 101 = 1 * ρ 5 + 0 := hm (4, 101, [(1, 5)]) (by decide)
  have m6 : M 1 (zIx ρ (1000 + 2)) = 1 * ρ 6 + 0 := hm (1, 1002, [(1, 6)]) (by decide)
  rw [zix_p] at m6
  have m7 : M 4 224 = 1 * ρ 4 + 0 := hm (4, 224, [(1, 4)]) (by decide)
  have m8 : M 4 225 = 1 * ρ 7 + 0 := hm (4, 225, [(1, 7)]) (by decide)
  simp only [h0] at m0 m1
  obtain ⟨u1, u2, u3, u4, u5, u6, u7, u8, v1, v2⟩ := gx_xSB hI (by omega)

  have hb := xs_by hI (by omega) (k := (ρ 2).toNat) (by omega)

  have e2 := ten_at (g := M 92) (lo := 48) (hi := 57) (n := (M 4 101).toNat) (p := (M 4 222).toNat) (by rw [show (M 4 222).toNat = (ρ 2).toNat by omega]; omega)

  have ee : M 4 223 = M 4 222 := by omega
  rw [ee] at u8 v2
  refine ⟨ρ, fun _ _ => rfl, fun f h => ?_, ?_⟩
  · have h : f ∈ ([[(-1, 2), (1, 3)], [(1, 2), (-1, 3)], [(1, 4), (-1, 7)], [(-1, 4), (1, 7)]] : List qF) := h
    simp only [List.mem_cons, List.not_mem_nil, or_false] at h
    rcases h with rfl | rfl | rfl | rfl
    · show 0 ≤ -1 * ρ 2 + (1 * ρ 3 + 0)
      (try rw [h0]); omega
    · show 0 ≤ 1 * ρ 2 + (-1 * ρ 3 + 0)
      (try rw [h0]); omega
    · show 0 ≤ 1 * ρ 4 + (-1 * ρ 7 + 0)
      (try rw [h0]); omega
    · show 0 ≤ -1 * ρ 4 + (1 * ρ 7 + 0)
      (try rw [h0]); omega
  · show sI M
    exact hI
-- nStopRL
def xr_234 : qRu := (10, [[(-1, 0), (-1, 2), (1, 5)], [(47, 0), (-1, 6)], [(-1, 2), (1, 8)], [(1, 2), (-1, 8)], [(-1, 5), (1, 9)], [(1, 5), (-1, 9)]], [(4, 220, [(1, 0)]), (4, 221, [(1, 1)]), (4, 222, [(1, 2)]), (4, 223, [(1, 3)]), (4, 101, [(1, 5)]), (91, 990, [(1, 6)]), (91, 27, [(1, 8)]), (91, 26, [(1, 9)])], [], [], [[(-1, 2), (1, 3)], [(1, 2), (-1, 3)]])
theorem xo_234 : qRok xr_234 := by
  intro ρ M h0 hf hm hI
  have f0 := hf [(-1, 0), (-1, 2), (1, 5)] (by decide)
  have f1 := hf [(47, 0), (-1, 6)] (by decide)
  have f2 := hf [(-1, 2), (1, 8)] (by decide)
  have f3 := hf [(1, 2), (-1, 8)] (by decide)
  have f4 := hf [(-1, 5), (1, 9)] (by decide)
  have f5 := hf [(1, 5), (-1, 9)] (by decide)
  simp only [qD, h0] at f0 f1 f2 f3 f4 f5
  have m0 : M 4 220 = 1 * ρ 0 + 0 := hm (4, 220, [(1, 0)]) (by decide)
  have m1 : M 4 221 = 1 * ρ 1 + 0 := hm (4, 221, [(1, 1)]) (by decide)
  have m2 : M 4 222 = 1 * ρ 2 + 0 := hm (4, 222, [(1, 2)]) (by decide)
  have m3 : M 4 223 = 1 * ρ 3 + 0 := hm (4, 223, [(1, 3)]) (by decide)
  have m4 : M 4 101 = 1 * ρ 5 + 0 := hm (4, 101, [(1, 5)]) (by decide)
  have m5 : M 91 990 = 1 * ρ 6 + 0 := hm (91, 990, [(1, 6)]) (by decide)
  have m6 : M 91 27 = 1 * ρ 8 + 0 := hm (91, 27, [(1, 8)]) (by decide)
  have m7 : M 91 26 = 1 * ρ 9 + 0 := hm (91, 26, [(1, 9)]) (by decide)
  simp only [h0] at m0
  obtain ⟨u1, u2, u3, u4, u5, u6, u7, u8, v1, v2⟩ := gx_xSB hI (by omega)

  have hh := xs_hr hI (by omega)

  have e2 := ten_at (g := M 92) (lo := 48) (hi := 57) (n := (M 4 101).toNat) (p := (M 4 222).toNat) (by rw [show (M 4 222).toNat = (M 91 27).toNat by omega, ← hh]; omega)
  refine ⟨ρ, fun _ _ => rfl, fun f h => ?_, ?_⟩
  · have h : f ∈ ([[(-1, 2), (1, 3)], [(1, 2), (-1, 3)]] : List qF) := h
    simp only [List.mem_cons, List.not_mem_nil, or_false] at h
    rcases h with rfl | rfl
    · show 0 ≤ -1 * ρ 2 + (1 * ρ 3 + 0)
      (try rw [h0]); omega
    · show 0 ≤ 1 * ρ 2 + (-1 * ρ 3 + 0)
      (try rw [h0]); omega
  · show sI M
    exact hI
-- nStopH
def xr_235 : qRu := (8, [[(-1, 0), (-1, 2), (1, 5)], [(-58, 0), (1, 6)]], [(4, 100, [(1, 0)]), (4, 220, [(1, 0)]), (4, 221, [(1, 1)]), (4, 222, [(1, 2)]), (4, 223, [(1, 3)]), (4, 101, [(1, 5)]), (1, 1002, [(1, 6)]), (4, 224, [(1, 4)]), (4, 225, [(1, 7)])], [], [], [[(-1, 2), (1, 3)], [(1, 2), (-1, 3)], [(1, 4), (-1, 7)], [(-1, 4), (1, 7)]])
theorem xo_235 : qRok xr_235 := by
  intro ρ M h0 hf hm hI
  have f0 := hf [(-1, 0), (-1, 2), (1, 5)] (by decide)
  have f1 := hf [(-58, 0), (1, 6)] (by decide)
  simp only [qD, h0] at f0 f1
  have m0 : M 4 100 = 1 * ρ 0 + 0 := hm (4, 100, [(1, 0)]) (by decide)
  have m1 : M 4 220 = 1 * ρ 0 + 0 := hm (4, 220, [(1, 0)]) (by decide)
  have m2 : M 4 221 = 1 * ρ 1 + 0 := hm (4, 221, [(1, 1)]) (by decide)
  have m3 : M 4 222 = 1 * ρ 2 + 0 := hm (4, 222, [(1, 2)]) (by decide)
  have m4 : M 4 223 = 1 * ρ 3 + 0 := hm (4, 223, [(1, 3)]) (by decide)
  have m5 : M 4 101 = 1 * ρ 5 + 0 := hm (4, 101, [(1, 5)]) (by decide)
  have m6 : M 1 (zIx ρ (1000 + 2)) = 1 * ρ 6 + 0 := hm (1, 1002, [(1, 6)]) (by decide)
  rw [zix_p] at m6
  have m7 : M 4 224 = 1 * ρ 4 + 0 := hm (4, 224, [(1, 4)]) (by decide)
  have m8 : M 4 225 = 1 * ρ 7 + 0 := hm (4, 225, [(1, 7)]) (by decide)
  simp only [h0] at m0 m1
  obtain ⟨u1, u2, u3, u4, u5, u6, u7, u8, v1, v2⟩ := gx_xSB hI (by omega)

  have hb := xs_by hI (by omega) (k := (ρ 2).toNat) (by omega)

  have e2 := ten_at (g := M 92) (lo := 48) (hi := 57) (n := (M 4 101).toNat) (p := (M 4 222).toNat) (by rw [show (M 4 222).toNat = (ρ 2).toNat by omega]; omega)

  have ee : M 4 223 = M 4 222 := by omega
  rw [ee] at u8 v2
  refine ⟨ρ, fun _ _ => rfl, fun f h => ?_, ?_⟩
  · have h : f ∈ ([[(-1, 2), (1, 3)], [(1, 2), (-1, 3)], [(1, 4), (-1, 7)], [(-1, 4), (1, 7)]] : List qF) := h
    simp only [List.mem_cons, List.not_mem_nil, or_false] at h
    rcases h with rfl | rfl | rfl | rfl
    · show 0 ≤ -1 * ρ 2 + (1 * ρ 3 + 0)
      (try rw [h0]); omega
    · show 0 ≤ 1 * ρ 2 + (-1 * ρ 3 + 0)
      (try rw [h0]); omega
    · show 0 ≤ 1 * ρ 4 + (-1 * ρ 7 + 0)
      (try rw [h0]); omega
    · show 0 ≤ -1 * ρ 4 + (1 * ρ 7 + 0)
      (try rw [h0]); omega
  · show sI M
    exact hI
-- nStopRH
def xr_236 : qRu := (10, [[(-1, 0), (-1, 2), (1, 5)], [(-58, 0), (1, 6)], [(-1, 2), (1, 8)], [(1, 2), (-1, 8)], [(-1, 5), (1, 9)], [(1, 5), (-1, 9)]], [(4, 220, [(1, 0)]), (4, 221, [(1, 1)]), (4, 222, [(1, 2)]), (4, 223, [(1, 3)]), (4, 101, [(1, 5)]), (91, 990, [(1, 6)]), (91, 27, [(1, 8)]), (91, 26, [(1, 9)])], [], [], [[(-1, 2), (1, 3)], [(1, 2), (-1, 3)]])
theorem xo_236 : qRok xr_236 := by
  intro ρ M h0 hf hm hI
  have f0 := hf [(-1, 0), (-1, 2), (1, 5)] (by decide)
  have f1 := hf [(-58, 0), (1, 6)] (by decide)
  have f2 := hf [(-1, 2), (1, 8)] (by decide)
  have f3 := hf [(1, 2), (-1, 8)] (by decide)
  have f4 := hf [(-1, 5), (1, 9)] (by decide)
  have f5 := hf [(1, 5), (-1, 9)] (by decide)
  simp only [qD, h0] at f0 f1 f2 f3 f4 f5
  have m0 : M 4 220 = 1 * ρ 0 + 0 := hm (4, 220, [(1, 0)]) (by decide)
  have m1 : M 4 221 = 1 * ρ 1 + 0 := hm (4, 221, [(1, 1)]) (by decide)
  have m2 : M 4 222 = 1 * ρ 2 + 0 := hm (4, 222, [(1, 2)]) (by decide)
  have m3 : M 4 223 = 1 * ρ 3 + 0 := hm (4, 223, [(1, 3)]) (by decide)
  have m4 : M 4 101 = 1 * ρ 5 + 0 := hm (4, 101, [(1, 5)]) (by decide)
  have m5 : M 91 990 = 1 * ρ 6 + 0 := hm (91, 990, [(1, 6)]) (by decide)
  have m6 : M 91 27 = 1 * ρ 8 + 0 := hm (91, 27, [(1, 8)]) (by decide)
  have m7 : M 91 26 = 1 * ρ 9 + 0 := hm (91, 26, [(1, 9)]) (by decide)
  simp only [h0] at m0
  obtain ⟨u1, u2, u3, u4, u5, u6, u7, u8, v1, v2⟩ := gx_xSB hI (by omega)

  have hh := xs_hr hI (by omega)

  have e2 := ten_at (g := M 92) (lo := 48) (hi := 57) (n := (M 4 101).toNat) (p := (M 4 222).toNat) (by rw [show (M 4 222).toNat = (M 91 27).toNat by omega, ← hh]; omega)
  refine ⟨ρ, fun _ _ => rfl, fun f h => ?_, ?_⟩
  · have h : f ∈ ([[(-1, 2), (1, 3)], [(1, 2), (-1, 3)]] : List qF) := h
    simp only [List.mem_cons, List.not_mem_nil, or_false] at h
    rcases h with rfl | rfl
    · show 0 ≤ -1 * ρ 2 + (1 * ρ 3 + 0)
      (try rw [h0]); omega
    · show 0 ≤ 1 * ρ 2 + (-1 * ρ 3 + 0)
      (try rw [h0]); omega
  · show sI M
    exact hI
-- nStopRE
def xr_237 : qRu := (6, [[(1, 2), (-1, 5)]], [(4, 220, [(1, 0)]), (4, 221, [(1, 1)]), (4, 222, [(1, 2)]), (4, 223, [(1, 3)]), (4, 101, [(1, 5)])], [], [], [[(-1, 2), (1, 3)], [(1, 2), (-1, 3)]])
theorem xo_237 : qRok xr_237 := by
  intro ρ M h0 hf hm hI
  have f0 := hf [(1, 2), (-1, 5)] (by decide)
  simp only [qD, h0] at f0
  have m0 : M 4 220 = 1 * ρ 0 + 0 := hm (4, 220, [(1, 0)]) (by decide)
  have m1 : M 4 221 = 1 * ρ 1 + 0 := hm (4, 221, [(1, 1)]) (by decide)
  have m2 : M 4 222 = 1 * ρ 2 + 0 := hm (4, 222, [(1, 2)]) (by decide)
  have m3 : M 4 223 = 1 * ρ 3 + 0 := hm (4, 223, [(1, 3)]) (by decide)
  have m4 : M 4 101 = 1 * ρ 5 + 0 := hm (4, 101, [(1, 5)]) (by decide)
  simp only [h0] at m0
  obtain ⟨u1, u2, u3, u4, u5, u6, u7, u8, v1, v2⟩ := gx_xSB hI (by omega)

  have e2 := ten_at (g := M 92) (lo := 48) (hi := 57) (n := (M 4 101).toNat) (p := (M 4 222).toNat) (by omega)
  refine ⟨ρ, fun _ _ => rfl, fun f h => ?_, ?_⟩
  · have h : f ∈ ([[(-1, 2), (1, 3)], [(1, 2), (-1, 3)]] : List qF) := h
    simp only [List.mem_cons, List.not_mem_nil, or_false] at h
    rcases h with rfl | rfl
    · show 0 ≤ -1 * ρ 2 + (1 * ρ 3 + 0)
      (try rw [h0]); omega
    · show 0 ≤ 1 * ρ 2 + (-1 * ρ 3 + 0)
      (try rw [h0]); omega
  · show sI M
    exact hI
-- nEqR
def xr_238 : qRu := (8, [[(1, 2), (-1, 3)], [(-1, 2), (1, 3)]], [(4, 220, [(1, 0)]), (4, 221, [(1, 1)]), (4, 222, [(1, 2)]), (4, 223, [(1, 3)]), (4, 101, [(1, 5)]), (4, 228, [(1, 6)]), (4, 229, [(1, 7)])], [], [], [[(1, 6), (-1, 7)], [(-1, 6), (1, 7)]])
theorem xo_238 : qRok xr_238 := by
  intro ρ M h0 hf hm hI
  have f0 := hf [(1, 2), (-1, 3)] (by decide)
  have f1 := hf [(-1, 2), (1, 3)] (by decide)
  simp only [qD, h0] at f0 f1
  have m0 : M 4 220 = 1 * ρ 0 + 0 := hm (4, 220, [(1, 0)]) (by decide)
  have m1 : M 4 221 = 1 * ρ 1 + 0 := hm (4, 221, [(1, 1)]) (by decide)
  have m2 : M 4 222 = 1 * ρ 2 + 0 := hm (4, 222, [(1, 2)]) (by decide)
  have m3 : M 4 223 = 1 * ρ 3 + 0 := hm (4, 223, [(1, 3)]) (by decide)
  have m4 : M 4 101 = 1 * ρ 5 + 0 := hm (4, 101, [(1, 5)]) (by decide)
  have m5 : M 4 228 = 1 * ρ 6 + 0 := hm (4, 228, [(1, 6)]) (by decide)
  have m6 : M 4 229 = 1 * ρ 7 + 0 := hm (4, 229, [(1, 7)]) (by decide)
  simp only [h0] at m0
  obtain ⟨u1, u2, u3, u4, u5, u6, u7, u8, v1, v2⟩ := gx_xSB hI (by omega)

  have ee : M 4 223 = M 4 222 := by omega
  rw [ee] at v2
  refine ⟨ρ, fun _ _ => rfl, fun f h => ?_, ?_⟩
  · have h : f ∈ ([[(1, 6), (-1, 7)], [(-1, 6), (1, 7)]] : List qF) := h
    simp only [List.mem_cons, List.not_mem_nil, or_false] at h
    rcases h with rfl | rfl
    · show 0 ≤ 1 * ρ 6 + (-1 * ρ 7 + 0)
      (try rw [h0]); omega
    · show 0 ≤ -1 * ρ 6 + (1 * ρ 7 + 0)
      (try rw [h0]); omega
  · show sI M
    exact hI
-- nTok_c
def xr_239 : qRu := (13, [[(-1, 0), (1, 5)], [(1, 1)], [(-1, 1), (1, 9)], [(1, 1), (-1, 9)], [(-1, 0), (-1, 1), (1, 10)]], [(4, 210, [(1, 0)]), (4, 211, [(1, 1)]), (4, 101, [(1, 2)]), (3, 46, [(1, 3)]), (3, 47, [(1, 4)]), (4, 100, [(1, 5)]), (3, 44, [(1, 6)]), (3, 45, [(1, 7)]), (4, 107, [(1, 8)]), (4, 220, [(1, 0)]), (4, 221, [(1, 9)]), (4, 223, [(1, 10)]), (4, 225, [(1, 11)]), (4, 229, [(1, 12)])], [], [], [[(-1, 1), (1, 3)], [(1, 1), (-1, 3)], [(1, 4), (-1, 10)], [(-1, 4), (1, 10)], [(-3, 0), (1, 6)], [(3, 0), (-1, 6)], [(1, 7), (-1, 11)], [(-1, 7), (1, 11)]])
theorem xo_239 : qRok xr_239 := by
  intro ρ M h0 hf hm hI
  have f0 := hf [(-1, 0), (1, 5)] (by decide)
  have f1 := hf [(1, 1)] (by decide)
  have f2 := hf [(-1, 1), (1, 9)] (by decide)
  have f3 := hf [(1, 1), (-1, 9)] (by decide)
  have f4 := hf [(-1, 0), (-1, 1), (1, 10)] (by decide)
  simp only [qD, h0] at f0 f1 f2 f3 f4
  have m0 : M 4 210 = 1 * ρ 0 + 0 := hm (4, 210, [(1, 0)]) (by decide)
  have m1 : M 4 211 = 1 * ρ 1 + 0 := hm (4, 211, [(1, 1)]) (by decide)
  have m2 : M 4 101 = 1 * ρ 2 + 0 := hm (4, 101, [(1, 2)]) (by decide)
  have m3 : M 3 46 = 1 * ρ 3 + 0 := hm (3, 46, [(1, 3)]) (by decide)
  have m4 : M 3 47 = 1 * ρ 4 + 0 := hm (3, 47, [(1, 4)]) (by decide)
  have m5 : M 4 100 = 1 * ρ 5 + 0 := hm (4, 100, [(1, 5)]) (by decide)
  have m6 : M 3 44 = 1 * ρ 6 + 0 := hm (3, 44, [(1, 6)]) (by decide)
  have m7 : M 3 45 = 1 * ρ 7 + 0 := hm (3, 45, [(1, 7)]) (by decide)
  have m8 : M 4 107 = 1 * ρ 8 + 0 := hm (4, 107, [(1, 8)]) (by decide)
  have m9 : M 4 220 = 1 * ρ 0 + 0 := hm (4, 220, [(1, 0)]) (by decide)
  have m10 : M 4 221 = 1 * ρ 9 + 0 := hm (4, 221, [(1, 9)]) (by decide)
  have m11 : M 4 223 = 1 * ρ 10 + 0 := hm (4, 223, [(1, 10)]) (by decide)
  have m12 : M 4 225 = 1 * ρ 11 + 0 := hm (4, 225, [(1, 11)]) (by decide)
  have m13 : M 4 229 = 1 * ρ 12 + 0 := hm (4, 229, [(1, 12)]) (by decide)
  simp only [h0] at m0 m9
  obtain ⟨u1, u2, _⟩ := gx_xS8 hI (by omega)

  obtain ⟨a1, a2, a3, a4, a5, a6, a7, a8, b1, b2⟩ := gx_xSB hI (by omega)
  have eq1 : (M 4 221).toNat = (M 4 211).toNat := by omega
  rw [eq1] at a6 a8 b2
  have hgt := ten_gt (g := M 92) (lo := 48) (hi := 57) (n := (M 4 101).toNat) (q := (M 4 211).toNat) (by omega)
  have el1 : (M 4 223 - M 4 221).toNat = tEn (M 92) 48 57 (M 4 101).toNat (M 4 211).toNat - (M 4 211).toNat := by omega
  rw [el1] at a8 b2

  obtain ⟨t1, t2, t3, t4, t5, t6⟩ := tk_of hI (by omega) (by omega) (by omega) (show tAt (M 92) (M 4 101).toNat (M 4 211).toNat (M 4 107) (M 4 108) = (3, M 4 225, ((M 4 211).toNat : Int), M 4 223, 2, M 4 229) from by
    unfold tAt
    rw [if_neg (by omega), if_neg (by omega), if_pos hgt.2, ← a8, ← b2, ← a6])
  refine ⟨ρ, fun _ _ => rfl, fun f h => ?_, ?_⟩
  · have h : f ∈ ([[(-1, 1), (1, 3)], [(1, 1), (-1, 3)], [(1, 4), (-1, 10)], [(-1, 4), (1, 10)], [(-3, 0), (1, 6)], [(3, 0), (-1, 6)], [(1, 7), (-1, 11)], [(-1, 7), (1, 11)]] : List qF) := h
    simp only [List.mem_cons, List.not_mem_nil, or_false] at h
    rcases h with rfl | rfl | rfl | rfl | rfl | rfl | rfl | rfl
    · show 0 ≤ -1 * ρ 1 + (1 * ρ 3 + 0)
      (try rw [h0]); omega
    · show 0 ≤ 1 * ρ 1 + (-1 * ρ 3 + 0)
      (try rw [h0]); omega
    · show 0 ≤ 1 * ρ 4 + (-1 * ρ 10 + 0)
      (try rw [h0]); omega
    · show 0 ≤ -1 * ρ 4 + (1 * ρ 10 + 0)
      (try rw [h0]); omega
    · show 0 ≤ -3 * ρ 0 + (1 * ρ 6 + 0)
      (try rw [h0]); omega
    · show 0 ≤ 3 * ρ 0 + (-1 * ρ 6 + 0)
      (try rw [h0]); omega
    · show 0 ≤ 1 * ρ 7 + (-1 * ρ 11 + 0)
      (try rw [h0]); omega
    · show 0 ≤ -1 * ρ 7 + (1 * ρ 11 + 0)
      (try rw [h0]); omega
  · show sI M
    exact hI
-- nTok_r
def xr_240 : qRu := (13, [[(-1, 0), (1, 5)], [(1, 1)], [(-1, 1), (1, 9)], [(1, 1), (-1, 9)], [(-1, 0), (-1, 1), (1, 10)]], [(4, 210, [(1, 0)]), (4, 211, [(1, 1)]), (4, 101, [(1, 2)]), (3, 46, [(1, 3)]), (3, 47, [(1, 4)]), (4, 100, [(1, 5)]), (3, 50, [(1, 6)]), (3, 51, [(1, 7)]), (4, 108, [(1, 8)]), (4, 220, [(1, 0)]), (4, 221, [(1, 9)]), (4, 223, [(1, 10)]), (4, 225, [(1, 11)]), (4, 229, [(1, 12)])], [], [], [[(-1, 1), (1, 3)], [(1, 1), (-1, 3)], [(1, 4), (-1, 10)], [(-1, 4), (1, 10)], [(-2, 0), (1, 6)], [(2, 0), (-1, 6)], [(1, 7), (-1, 12)], [(-1, 7), (1, 12)]])
theorem xo_240 : qRok xr_240 := by
  intro ρ M h0 hf hm hI
  have f0 := hf [(-1, 0), (1, 5)] (by decide)
  have f1 := hf [(1, 1)] (by decide)
  have f2 := hf [(-1, 1), (1, 9)] (by decide)
  have f3 := hf [(1, 1), (-1, 9)] (by decide)
  have f4 := hf [(-1, 0), (-1, 1), (1, 10)] (by decide)
  simp only [qD, h0] at f0 f1 f2 f3 f4
  have m0 : M 4 210 = 1 * ρ 0 + 0 := hm (4, 210, [(1, 0)]) (by decide)
  have m1 : M 4 211 = 1 * ρ 1 + 0 := hm (4, 211, [(1, 1)]) (by decide)
  have m2 : M 4 101 = 1 * ρ 2 + 0 := hm (4, 101, [(1, 2)]) (by decide)
  have m3 : M 3 46 = 1 * ρ 3 + 0 := hm (3, 46, [(1, 3)]) (by decide)
  have m4 : M 3 47 = 1 * ρ 4 + 0 := hm (3, 47, [(1, 4)]) (by decide)
  have m5 : M 4 100 = 1 * ρ 5 + 0 := hm (4, 100, [(1, 5)]) (by decide)
  have m6 : M 3 50 = 1 * ρ 6 + 0 := hm (3, 50, [(1, 6)]) (by decide)
  have m7 : M 3 51 = 1 * ρ 7 + 0 := hm (3, 51, [(1, 7)]) (by decide)
  have m8 : M 4 108 = 1 * ρ 8 + 0 := hm (4, 108, [(1, 8)]) (by decide)
  have m9 : M 4 220 = 1 * ρ 0 + 0 := hm (4, 220, [(1, 0)]) (by decide)
  have m10 : M 4 221 = 1 * ρ 9 + 0 := hm (4, 221, [(1, 9)]) (by decide)
  have m11 : M 4 223 = 1 * ρ 10 + 0 := hm (4, 223, [(1, 10)]) (by decide)
  have m12 : M 4 225 = 1 * ρ 11 + 0 := hm (4, 225, [(1, 11)]) (by decide)
  have m13 : M 4 229 = 1 * ρ 12 + 0 := hm (4, 229, [(1, 12)]) (by decide)
  simp only [h0] at m0 m9
  obtain ⟨u1, u2, _⟩ := gx_xS8 hI (by omega)

  obtain ⟨a1, a2, a3, a4, a5, a6, a7, a8, b1, b2⟩ := gx_xSB hI (by omega)
  have eq1 : (M 4 221).toNat = (M 4 211).toNat := by omega
  rw [eq1] at a6 a8 b2
  have hgt := ten_gt (g := M 92) (lo := 48) (hi := 57) (n := (M 4 101).toNat) (q := (M 4 211).toNat) (by omega)
  have el1 : (M 4 223 - M 4 221).toNat = tEn (M 92) 48 57 (M 4 101).toNat (M 4 211).toNat - (M 4 211).toNat := by omega
  rw [el1] at a8 b2

  obtain ⟨t1, t2, t3, t4, t5, t6⟩ := tk_of hI (by omega) (by omega) (by omega) (show tAt (M 92) (M 4 101).toNat (M 4 211).toNat (M 4 107) (M 4 108) = (3, M 4 225, ((M 4 211).toNat : Int), M 4 223, 2, M 4 229) from by
    unfold tAt
    rw [if_neg (by omega), if_neg (by omega), if_pos hgt.2, ← a8, ← b2, ← a6])
  refine ⟨ρ, fun _ _ => rfl, fun f h => ?_, ?_⟩
  · have h : f ∈ ([[(-1, 1), (1, 3)], [(1, 1), (-1, 3)], [(1, 4), (-1, 10)], [(-1, 4), (1, 10)], [(-2, 0), (1, 6)], [(2, 0), (-1, 6)], [(1, 7), (-1, 12)], [(-1, 7), (1, 12)]] : List qF) := h
    simp only [List.mem_cons, List.not_mem_nil, or_false] at h
    rcases h with rfl | rfl | rfl | rfl | rfl | rfl | rfl | rfl
    · show 0 ≤ -1 * ρ 1 + (1 * ρ 3 + 0)
      (try rw [h0]); omega
    · show 0 ≤ 1 * ρ 1 + (-1 * ρ 3 + 0)
      (try rw [h0]); omega
    · show 0 ≤ 1 * ρ 4 + (-1 * ρ 10 + 0)
      (try rw [h0]); omega
    · show 0 ≤ -1 * ρ 4 + (1 * ρ 10 + 0)
      (try rw [h0]); omega
    · show 0 ≤ -2 * ρ 0 + (1 * ρ 6 + 0)
      (try rw [h0]); omega
    · show 0 ≤ 2 * ρ 0 + (-1 * ρ 6 + 0)
      (try rw [h0]); omega
    · show 0 ≤ 1 * ρ 7 + (-1 * ρ 12 + 0)
      (try rw [h0]); omega
    · show 0 ≤ -1 * ρ 7 + (1 * ρ 12 + 0)
      (try rw [h0]); omega
  · show sI M
    exact hI
-- numOff
def xr_241 : qRu := (1, [], [], [], [(4, 220, [])], [])
theorem xo_241 : qRok xr_241 := by
  intro ρ M h0 hf hm hI
  refine ⟨ρ, fun _ _ => rfl, fun f h => ?_, ?_⟩
  · exact nomatch h
  · show sI (sU M 4 220 (0))
    obtain ⟨W, hW⟩ : ∃ W, W = (sU M 4 220 (0)) := ⟨_, rfl⟩
    rw [← hW]
    have base : sI0 W := by
      rw [hW]
      exact (si_u0 hI.1 (fun r hr => by cases hr))
    have k2 : XI2 W := by
      rw [hW]
      exact (xi2_u rfl hI.2.1)
    have k3 : XI3 W := by
      rw [hW]
      exact (xi3_u rfl hI.2.2.1)
    have kXA : XA W := by
      rw [hW]
      exact (uXA rfl hI.2.2.2.1)
    have k_xN1 : xN1 W := by
      rw [hW]
      exact (uxN1 rfl hI.2.2.2.2.1)
    have k_xN2 : xN2 W := by
      rw [hW]
      exact (uxN2 rfl hI.2.2.2.2.2.1)
    have k_xN3 : xN3 W := by
      rw [hW]
      exact (uxN3 rfl hI.2.2.2.2.2.2.1)
    have k_xN4 : xN4 W := by
      rw [hW]
      exact (uxN4 rfl hI.2.2.2.2.2.2.2.1)
    have k_xN5 : xN5 W := by
      rw [hW]
      exact (uxN5 rfl hI.2.2.2.2.2.2.2.2.1)
    have k_xN6 : xN6 W := by
      rw [hW]
      exact (uxN6 rfl hI.2.2.2.2.2.2.2.2.2.1)
    have k_xH1 : xH1 W := by
      rw [hW]
      exact (uxH1 rfl hI.2.2.2.2.2.2.2.2.2.2.1)
    have k_xK1 : xK1 W := by
      rw [hW]
      exact (uxK1 rfl hI.2.2.2.2.2.2.2.2.2.2.2.1)
    have k_xC1 : xC1 W := by
      rw [hW]
      exact (uxC1 rfl hI.2.2.2.2.2.2.2.2.2.2.2.2.1)
    have k_xRW : xRW W := by
      rw [hW]
      exact (uxRW rfl hI.2.2.2.2.2.2.2.2.2.2.2.2.2.1)
    have k_xWT : xWT W := by
      rw [hW]
      exact (uxWT rfl hI.2.2.2.2.2.2.2.2.2.2.2.2.2.2.1)
    have k_xCU : xCU W := by
      rw [hW]
      exact (uxCU rfl hI.2.2.2.2.2.2.2.2.2.2.2.2.2.2.2.1)
    have k_xG2 : xG2 W := by
      rw [hW]
      exact (uxG2 rfl hI.2.2.2.2.2.2.2.2.2.2.2.2.2.2.2.2.1)
    have k_xG3 : xG3 W := by
      rw [hW]
      exact (uxG3 rfl hI.2.2.2.2.2.2.2.2.2.2.2.2.2.2.2.2.2.1)
    have k_xG4 : xG4 W := by
      rw [hW]
      exact (uxG4 rfl hI.2.2.2.2.2.2.2.2.2.2.2.2.2.2.2.2.2.2.1)
    have k_xG5 : xG5 W := by
      rw [hW]
      exact (uxG5 rfl hI.2.2.2.2.2.2.2.2.2.2.2.2.2.2.2.2.2.2.2.1)
    have k_xG6 : xG6 W := by
      rw [hW]
      exact (uxG6 rfl hI.2.2.2.2.2.2.2.2.2.2.2.2.2.2.2.2.2.2.2.2.1)
    have k_xS1 : xS1 W := by
      rw [hW]
      exact (uxS1 rfl hI.2.2.2.2.2.2.2.2.2.2.2.2.2.2.2.2.2.2.2.2.2.1)
    have k_xS2 : xS2 W := by
      rw [hW]
      exact (uxS2 rfl hI.2.2.2.2.2.2.2.2.2.2.2.2.2.2.2.2.2.2.2.2.2.2.1)
    have k_xS3 : xS3 W := by
      rw [hW]
      exact (uxS3 rfl hI.2.2.2.2.2.2.2.2.2.2.2.2.2.2.2.2.2.2.2.2.2.2.2.1)
    have k_xS4 : xS4 W := by
      rw [hW]
      exact (uxS4 rfl hI.2.2.2.2.2.2.2.2.2.2.2.2.2.2.2.2.2.2.2.2.2.2.2.2.1)
    have k_xS5 : xS5 W := by
      rw [hW]
      exact (uxS5 rfl hI.2.2.2.2.2.2.2.2.2.2.2.2.2.2.2.2.2.2.2.2.2.2.2.2.2.1)
    have k_xS6 : xS6 W := by
      rw [hW]
      exact (uxS6 rfl hI.2.2.2.2.2.2.2.2.2.2.2.2.2.2.2.2.2.2.2.2.2.2.2.2.2.2.1)
    have k_xS7 : xS7 W := by
      rw [hW]
      exact (uxS7 rfl hI.2.2.2.2.2.2.2.2.2.2.2.2.2.2.2.2.2.2.2.2.2.2.2.2.2.2.2.1)
    have k_xS8 : xS8 W := by
      rw [hW]
      exact (uxS8 rfl hI.2.2.2.2.2.2.2.2.2.2.2.2.2.2.2.2.2.2.2.2.2.2.2.2.2.2.2.2.1)
    have k_xS9 : xS9 W := by
      rw [hW]
      exact (uxS9 rfl hI.2.2.2.2.2.2.2.2.2.2.2.2.2.2.2.2.2.2.2.2.2.2.2.2.2.2.2.2.2.1)
    have k_xSA : xSA W := by
      rw [hW]
      exact (uxSA rfl hI.2.2.2.2.2.2.2.2.2.2.2.2.2.2.2.2.2.2.2.2.2.2.2.2.2.2.2.2.2.2.1)
    have k_xSG : xSG W := by
      rw [hW]
      exact (uxSG rfl hI.2.2.2.2.2.2.2.2.2.2.2.2.2.2.2.2.2.2.2.2.2.2.2.2.2.2.2.2.2.2.2.1)
    have k_xSF : xSF W := by
      rw [hW]
      exact (uxSF rfl hI.2.2.2.2.2.2.2.2.2.2.2.2.2.2.2.2.2.2.2.2.2.2.2.2.2.2.2.2.2.2.2.2.1)
    have k_xSB : xSB W := by
      have r : W 4 220 = 0 := by rw [hW, sU_at]
      intro h
      rw [r] at h
      omega
    have k_xSC : xSC W := by
      rw [hW]
      exact (uxSC rfl hI.2.2.2.2.2.2.2.2.2.2.2.2.2.2.2.2.2.2.2.2.2.2.2.2.2.2.2.2.2.2.2.2.2.2.1)
    have k_xSD : xSD W := by
      rw [hW]
      exact (uxSD rfl hI.2.2.2.2.2.2.2.2.2.2.2.2.2.2.2.2.2.2.2.2.2.2.2.2.2.2.2.2.2.2.2.2.2.2.2.1)
    have k_xSE : xSE W := by
      rw [hW]
      exact (uxSE rfl hI.2.2.2.2.2.2.2.2.2.2.2.2.2.2.2.2.2.2.2.2.2.2.2.2.2.2.2.2.2.2.2.2.2.2.2.2.1)
    have k_xSW : xSW W := by
      rw [hW]
      exact (uxSW rfl hI.2.2.2.2.2.2.2.2.2.2.2.2.2.2.2.2.2.2.2.2.2.2.2.2.2.2.2.2.2.2.2.2.2.2.2.2.2.1)
    have k_xST : xST W := by
      rw [hW]
      exact (uxST rfl hI.2.2.2.2.2.2.2.2.2.2.2.2.2.2.2.2.2.2.2.2.2.2.2.2.2.2.2.2.2.2.2.2.2.2.2.2.2.2.1)
    have k_xSP : xSP W := by
      rw [hW]
      exact (uxSP rfl hI.2.2.2.2.2.2.2.2.2.2.2.2.2.2.2.2.2.2.2.2.2.2.2.2.2.2.2.2.2.2.2.2.2.2.2.2.2.2.2.1)
    have k_xSL : xSL W := by
      rw [hW]
      exact (uxSL rfl hI.2.2.2.2.2.2.2.2.2.2.2.2.2.2.2.2.2.2.2.2.2.2.2.2.2.2.2.2.2.2.2.2.2.2.2.2.2.2.2.2.1)
    have k_xSM : xSM W := by
      rw [hW]
      exact (uxSM rfl hI.2.2.2.2.2.2.2.2.2.2.2.2.2.2.2.2.2.2.2.2.2.2.2.2.2.2.2.2.2.2.2.2.2.2.2.2.2.2.2.2.2.1)
    have k_xSI : xSI W := by
      rw [hW]
      exact (uxSI rfl hI.2.2.2.2.2.2.2.2.2.2.2.2.2.2.2.2.2.2.2.2.2.2.2.2.2.2.2.2.2.2.2.2.2.2.2.2.2.2.2.2.2.2)
    have k_XC : XC W := ⟨k_xS1, k_xS2, k_xS3, k_xS4, k_xS5, k_xS6, k_xS7, k_xS8, k_xS9, k_xSA, k_xSG, k_xSF, k_xSB, k_xSC, k_xSD, k_xSE, k_xSW, k_xST, k_xSP, k_xSL, k_xSM, k_xSI⟩
    have kXB : XB W := ⟨k_xN1, k_xN2, k_xN3, k_xN4, k_xN5, k_xN6, k_xH1, k_xK1, k_xC1, k_xRW, k_xWT, k_xCU, k_xG2, k_xG3, k_xG4, k_xG5, k_xG6, k_XC⟩
    exact ⟨base, k2, k3, kXA, kXB⟩
-- mkPack0
def xr_242 : qRu := (7, [[(-1, 1), (1, 2)], [(1, 1), (-1, 2)], [(-1, 0), (1, 6)], [(26, 0), (-1, 6)]], [(4, 214, [(1, 0)]), (4, 215, [(1, 1)]), (4, 216, [(1, 2)]), (4, 217, [(1, 3)]), (4, 101, [(1, 5)]), (4, 235, [(1, 0)]), (4, 218, [(1, 4)]), (91, 249, [])], [], [(91, 240, [(1, 0)]), (91, 241, [(1, 6)]), (91, 242, [(25, 0)]), (91, 243, [(33554432, 6)]), (91, 246, [(1, 4)]), (91, 244, [(1, 4), (33554432, 6)]), (91, 245, []), (91, 247, [(33554432, 6)])], [])
theorem xo_242 : qRok xr_242 := by
  intro ρ M h0 hf hm hI
  have f0 := hf [(-1, 1), (1, 2)] (by decide)
  have f1 := hf [(1, 1), (-1, 2)] (by decide)
  have f2 := hf [(-1, 0), (1, 6)] (by decide)
  have f3 := hf [(26, 0), (-1, 6)] (by decide)
  simp only [qD, h0] at f0 f1 f2 f3
  have m0 : M 4 214 = 1 * ρ 0 + 0 := hm (4, 214, [(1, 0)]) (by decide)
  have m1 : M 4 215 = 1 * ρ 1 + 0 := hm (4, 215, [(1, 1)]) (by decide)
  have m2 : M 4 216 = 1 * ρ 2 + 0 := hm (4, 216, [(1, 2)]) (by decide)
  have m3 : M 4 217 = 1 * ρ 3 + 0 := hm (4, 217, [(1, 3)]) (by decide)
  have m4 : M 4 101 = 1 * ρ 5 + 0 := hm (4, 101, [(1, 5)]) (by decide)
  have m5 : M 4 235 = 1 * ρ 0 + 0 := hm (4, 235, [(1, 0)]) (by decide)
  have m6 : M 4 218 = 1 * ρ 4 + 0 := hm (4, 218, [(1, 4)]) (by decide)
  have m7 : M 91 249 = 0 := hm (91, 249, []) (by decide)
  simp only [h0] at m0 m5
  have qxSD := hI.2.2.2.2.2.2.2.2.2.2.2.2.2.2.2.2.2.2.2.2.2.2.2.2.2.2.2.2.2.2.2.2.2.2.2.1
  obtain ⟨u1, u2, u3, u4, u5, u6, u7⟩ := gx_xSA hI (by omega)

  have g1 := gx_xSG hI (by omega)
  rw [show (M 4 216 - M 4 215).toNat = 0 by omega] at g1
  have g2 : M 4 218 = 0 := g1
  have hl : ∀ i, i < 0 → 97 ≤ M 92 ((M 4 215).toNat + i) ∧ M 92 ((M 4 215).toNat + i) ≤ 122 := fun i hi => ten_all (n := (M 4 101).toNat) (q := (M 4 215).toNat) (by omega) (by omega)
  refine ⟨ρ, fun _ _ => rfl, fun f h => ?_, ?_⟩
  · exact nomatch h
  · show sI (sU (sU (sU (sU (sU (sU (sU (sU M 91 240 (1 * ρ 0 + 0)) 91 241 (1 * ρ 6 + 0)) 91 242 (25 * ρ 0 + 0)) 91 243 (33554432 * ρ 6 + 0)) 91 246 (1 * ρ 4 + 0)) 91 244 (1 * ρ 4 + (33554432 * ρ 6 + 0))) 91 245 (0)) 91 247 (33554432 * ρ 6 + 0))
    obtain ⟨W, hW⟩ : ∃ W, W = (sU (sU (sU (sU (sU (sU (sU (sU M 91 240 (1 * ρ 0 + 0)) 91 241 (1 * ρ 6 + 0)) 91 242 (25 * ρ 0 + 0)) 91 243 (33554432 * ρ 6 + 0)) 91 246 (1 * ρ 4 + 0)) 91 244 (1 * ρ 4 + (33554432 * ρ 6 + 0))) 91 245 (0)) 91 247 (33554432 * ρ 6 + 0)) := ⟨_, rfl⟩
    rw [← hW]
    have base : sI0 W := by
      rw [hW]
      exact (si_u0 (si_u0 (si_u0 (si_u0 (si_u0 (si_u0 (si_u0 (si_u0 hI.1 (fun r hr => by cases hr)) (fun r hr => by cases hr)) (fun r hr => by cases hr)) (fun r hr => by cases hr)) (fun r hr => by cases hr)) (fun r hr => by cases hr)) (fun r hr => by cases hr)) (fun r hr => by cases hr))
    have k2 : XI2 W := by
      rw [hW]
      exact (xi2_u rfl (xi2_u rfl (xi2_u rfl (xi2_u rfl (xi2_u rfl (xi2_u rfl (xi2_u rfl (xi2_u rfl hI.2.1))))))))
    have k3 : XI3 W := by
      rw [hW]
      exact (xi3_u rfl (xi3_u rfl (xi3_u rfl (xi3_u rfl (xi3_u rfl (xi3_u rfl (xi3_u rfl (xi3_u rfl hI.2.2.1))))))))
    have kXA : XA W := by
      rw [hW]
      exact (uXA rfl (uXA rfl (uXA rfl (uXA rfl (uXA rfl (uXA rfl (uXA rfl (uXA rfl hI.2.2.2.1))))))))
    have k_xN1 : xN1 W := by
      rw [hW]
      exact (uxN1 rfl (uxN1 rfl (uxN1 rfl (uxN1 rfl (uxN1 rfl (uxN1 rfl (uxN1 rfl (uxN1 rfl hI.2.2.2.2.1))))))))
    have k_xN2 : xN2 W := by
      rw [hW]
      exact (uxN2 rfl (uxN2 rfl (uxN2 rfl (uxN2 rfl (uxN2 rfl (uxN2 rfl (uxN2 rfl (uxN2 rfl hI.2.2.2.2.2.1))))))))
    have k_xN3 : xN3 W := by
      rw [hW]
      exact (uxN3 rfl (uxN3 rfl (uxN3 rfl (uxN3 rfl (uxN3 rfl (uxN3 rfl (uxN3 rfl (uxN3 rfl hI.2.2.2.2.2.2.1))))))))
    have k_xN4 : xN4 W := by
      rw [hW]
      exact (uxN4 rfl (uxN4 rfl (uxN4 rfl (uxN4 rfl (uxN4 rfl (uxN4 rfl (uxN4 rfl (uxN4 rfl hI.2.2.2.2.2.2.2.1))))))))
    have k_xN5 : xN5 W := by
      rw [hW]
      exact (uxN5 rfl (uxN5 rfl (uxN5 rfl (uxN5 rfl (uxN5 rfl (uxN5 rfl (uxN5 rfl (uxN5 rfl hI.2.2.2.2.2.2.2.2.1))))))))
    have k_xN6 : xN6 W := by
      rw [hW]
      exact (uxN6 rfl (uxN6 rfl (uxN6 rfl (uxN6 rfl (uxN6 rfl (uxN6 rfl (uxN6 rfl (uxN6 rfl hI.2.2.2.2.2.2.2.2.2.1))))))))
    have k_xH1 : xH1 W := by
      rw [hW]
      exact (uxH1 rfl (uxH1 rfl (uxH1 rfl (uxH1 rfl (uxH1 rfl (uxH1 rfl (uxH1 rfl (uxH1 rfl hI.2.2.2.2.2.2.2.2.2.2.1))))))))
    have k_xK1 : xK1 W := by
      rw [hW]
      exact (uxK1 rfl (uxK1 rfl (uxK1 rfl (uxK1 rfl (uxK1 rfl (uxK1 rfl (uxK1 rfl (uxK1 rfl hI.2.2.2.2.2.2.2.2.2.2.2.1))))))))
    have k_xC1 : xC1 W := by
      rw [hW]
      exact (uxC1 rfl (uxC1 rfl (uxC1 rfl (uxC1 rfl (uxC1 rfl (uxC1 rfl (uxC1 rfl (uxC1 rfl hI.2.2.2.2.2.2.2.2.2.2.2.2.1))))))))
    have k_xRW : xRW W := by
      rw [hW]
      exact (uxRW rfl (uxRW rfl (uxRW rfl (uxRW rfl (uxRW rfl (uxRW rfl (uxRW rfl (uxRW rfl hI.2.2.2.2.2.2.2.2.2.2.2.2.2.1))))))))
    have k_xWT : xWT W := by
      rw [hW]
      exact (uxWT rfl (uxWT rfl (uxWT rfl (uxWT rfl (uxWT rfl (uxWT rfl (uxWT rfl (uxWT rfl hI.2.2.2.2.2.2.2.2.2.2.2.2.2.2.1))))))))
    have k_xCU : xCU W := by
      rw [hW]
      exact (uxCU rfl (uxCU rfl (uxCU rfl (uxCU rfl (uxCU rfl (uxCU rfl (uxCU rfl (uxCU rfl hI.2.2.2.2.2.2.2.2.2.2.2.2.2.2.2.1))))))))
    have k_xG2 : xG2 W := by
      rw [hW]
      exact (uxG2 rfl (uxG2 rfl (uxG2 rfl (uxG2 rfl (uxG2 rfl (uxG2 rfl (uxG2 rfl (uxG2 rfl hI.2.2.2.2.2.2.2.2.2.2.2.2.2.2.2.2.1))))))))
    have k_xG3 : xG3 W := by
      rw [hW]
      exact (uxG3 rfl (uxG3 rfl (uxG3 rfl (uxG3 rfl (uxG3 rfl (uxG3 rfl (uxG3 rfl (uxG3 rfl hI.2.2.2.2.2.2.2.2.2.2.2.2.2.2.2.2.2.1))))))))
    have k_xG4 : xG4 W := by
      rw [hW]
      exact (uxG4 rfl (uxG4 rfl (uxG4 rfl (uxG4 rfl (uxG4 rfl (uxG4 rfl (uxG4 rfl (uxG4 rfl hI.2.2.2.2.2.2.2.2.2.2.2.2.2.2.2.2.2.2.1))))))))
    have k_xG5 : xG5 W := by
      rw [hW]
      exact (uxG5 rfl (uxG5 rfl (uxG5 rfl (uxG5 rfl (uxG5 rfl (uxG5 rfl (uxG5 rfl (uxG5 rfl hI.2.2.2.2.2.2.2.2.2.2.2.2.2.2.2.2.2.2.2.1))))))))
    have k_xG6 : xG6 W := by
      rw [hW]
      exact (uxG6 rfl (uxG6 rfl (uxG6 rfl (uxG6 rfl (uxG6 rfl (uxG6 rfl (uxG6 rfl (uxG6 rfl hI.2.2.2.2.2.2.2.2.2.2.2.2.2.2.2.2.2.2.2.2.1))))))))
    have k_xS1 : xS1 W := by
      rw [hW]
      exact (uxS1 rfl (uxS1 rfl (uxS1 rfl (uxS1 rfl (uxS1 rfl (uxS1 rfl (uxS1 rfl (uxS1 rfl hI.2.2.2.2.2.2.2.2.2.2.2.2.2.2.2.2.2.2.2.2.2.1))))))))
    have k_xS2 : xS2 W := by
      rw [hW]
      exact (uxS2 rfl (uxS2 rfl (uxS2 rfl (uxS2 rfl (uxS2 rfl (uxS2 rfl (uxS2 rfl (uxS2 rfl hI.2.2.2.2.2.2.2.2.2.2.2.2.2.2.2.2.2.2.2.2.2.2.1))))))))
    have k_xS3 : xS3 W := by
      rw [hW]
      exact (uxS3 rfl (uxS3 rfl (uxS3 rfl (uxS3 rfl (uxS3 rfl (uxS3 rfl (uxS3 rfl (uxS3 rfl hI.2.2.2.2.2.2.2.2.2.2.2.2.2.2.2.2.2.2.2.2.2.2.2.1))))))))
    have k_xS4 : xS4 W := by
      rw [hW]
      exact (uxS4 rfl (uxS4 rfl (uxS4 rfl (uxS4 rfl (uxS4 rfl (uxS4 rfl (uxS4 rfl (uxS4 rfl hI.2.2.2.2.2.2.2.2.2.2.2.2.2.2.2.2.2.2.2.2.2.2.2.2.1))))))))
    have k_xS5 : xS5 W := by
      rw [hW]
      exact (uxS5 rfl (uxS5 rfl (uxS5 rfl (uxS5 rfl (uxS5 rfl (uxS5 rfl (uxS5 rfl (uxS5 rfl hI.2.2.2.2.2.2.2.2.2.2.2.2.2.2.2.2.2.2.2.2.2.2.2.2.2.1))))))))
    have k_xS6 : xS6 W := by
      rw [hW]
      exact (uxS6 rfl (uxS6 rfl (uxS6 rfl (uxS6 rfl (uxS6 rfl (uxS6 rfl (uxS6 rfl (uxS6 rfl hI.2.2.2.2.2.2.2.2.2.2.2.2.2.2.2.2.2.2.2.2.2.2.2.2.2.2.1))))))))
    have k_xS7 : xS7 W := by
      rw [hW]
      exact (uxS7 rfl (uxS7 rfl (uxS7 rfl (uxS7 rfl (uxS7 rfl (uxS7 rfl (uxS7 rfl (uxS7 rfl hI.2.2.2.2.2.2.2.2.2.2.2.2.2.2.2.2.2.2.2.2.2.2.2.2.2.2.2.1))))))))
    have k_xS8 : xS8 W := by
      rw [hW]
      exact (uxS8 rfl (uxS8 rfl (uxS8 rfl (uxS8 rfl (uxS8 rfl (uxS8 rfl (uxS8 rfl (uxS8 rfl hI.2.2.2.2.2.2.2.2.2.2.2.2.2.2.2.2.2.2.2.2.2.2.2.2.2.2.2.2.1))))))))
    have k_xS9 : xS9 W := by
      rw [hW]
      exact (uxS9 rfl (uxS9 rfl (uxS9 rfl (uxS9 rfl (uxS9 rfl (uxS9 rfl (uxS9 rfl (uxS9 rfl hI.2.2.2.2.2.2.2.2.2.2.2.2.2.2.2.2.2.2.2.2.2.2.2.2.2.2.2.2.2.1))))))))
    have k_xSA : xSA W := by
      rw [hW]
      exact (uxSA rfl (uxSA rfl (uxSA rfl (uxSA rfl (uxSA rfl (uxSA rfl (uxSA rfl (uxSA rfl hI.2.2.2.2.2.2.2.2.2.2.2.2.2.2.2.2.2.2.2.2.2.2.2.2.2.2.2.2.2.2.1))))))))
    have k_xSG : xSG W := by
      rw [hW]
      exact (uxSG rfl (uxSG rfl (uxSG rfl (uxSG rfl (uxSG rfl (uxSG rfl (uxSG rfl (uxSG rfl hI.2.2.2.2.2.2.2.2.2.2.2.2.2.2.2.2.2.2.2.2.2.2.2.2.2.2.2.2.2.2.2.1))))))))
    have k_xSF : xSF W := by
      rw [hW]
      exact (uxSF rfl (uxSF rfl (uxSF rfl (uxSF rfl (uxSF rfl (uxSF rfl (uxSF rfl (uxSF rfl hI.2.2.2.2.2.2.2.2.2.2.2.2.2.2.2.2.2.2.2.2.2.2.2.2.2.2.2.2.2.2.2.2.1))))))))
    have k_xSB : xSB W := by
      rw [hW]
      exact (uxSB rfl (uxSB rfl (uxSB rfl (uxSB rfl (uxSB rfl (uxSB rfl (uxSB rfl (uxSB rfl hI.2.2.2.2.2.2.2.2.2.2.2.2.2.2.2.2.2.2.2.2.2.2.2.2.2.2.2.2.2.2.2.2.2.1))))))))
    have k_xSC : xSC W := by
      rw [hW]
      exact (uxSC rfl (uxSC rfl (uxSC rfl (uxSC rfl (uxSC rfl (uxSC rfl (uxSC rfl (uxSC rfl hI.2.2.2.2.2.2.2.2.2.2.2.2.2.2.2.2.2.2.2.2.2.2.2.2.2.2.2.2.2.2.2.2.2.2.1))))))))
    have k_xSD : xSD W := by
      have r91_240 : W 91 240 = 1 * ρ 0 + 0 := by rw [hW, sU_ne (fun z => by omega), sU_ne (fun z => by omega), sU_ne (fun z => by omega), sU_ne (fun z => by omega), sU_ne (fun z => by omega), sU_ne (fun z => by omega), sU_ne (fun z => by omega), sU_at]
      have r91_241 : W 91 241 = 1 * ρ 6 + 0 := by rw [hW, sU_ne (fun z => by omega), sU_ne (fun z => by omega), sU_ne (fun z => by omega), sU_ne (fun z => by omega), sU_ne (fun z => by omega), sU_ne (fun z => by omega), sU_at]
      have r91_242 : W 91 242 = 25 * ρ 0 + 0 := by rw [hW, sU_ne (fun z => by omega), sU_ne (fun z => by omega), sU_ne (fun z => by omega), sU_ne (fun z => by omega), sU_ne (fun z => by omega), sU_at]
      have r91_243 : W 91 243 = 33554432 * ρ 6 + 0 := by rw [hW, sU_ne (fun z => by omega), sU_ne (fun z => by omega), sU_ne (fun z => by omega), sU_ne (fun z => by omega), sU_at]
      have r91_244 : W 91 244 = 1 * ρ 4 + (33554432 * ρ 6 + 0) := by rw [hW, sU_ne (fun z => by omega), sU_ne (fun z => by omega), sU_at]
      have r91_245 : W 91 245 = 0 := by rw [hW, sU_ne (fun z => by omega), sU_at]
      have r91_246 : W 91 246 = 1 * ρ 4 + 0 := by rw [hW, sU_ne (fun z => by omega), sU_ne (fun z => by omega), sU_ne (fun z => by omega), sU_at]
      have r91_247 : W 91 247 = 33554432 * ρ 6 + 0 := by rw [hW, sU_at]
      intro h
      rw [r91_241, r91_242, r91_243, r91_244, r91_245, r91_246, r91_247]
      have hs := xsh_0 (l := ρ 6) (by omega) (by omega)
      have hz : xop 4 (1 * ρ 6 + 0) (25 * ρ 0 + 0) = 33554432 * ρ 6 + 0 := by
        rw [h0, show ((25 : Int) * 1 + 0) = 25 from rfl]; rw [show (1 * ρ 6 + 0 : Int) = ρ 6 by omega, hs]; omega
      refine ⟨hz.symm, ?_, ?_⟩
      · rw [show (1 * ρ 4 + 0 : Int) = (0) * 2 ^ 30 by omega, show (33554432 * ρ 6 + 0 : Int) = 33554432 * ρ 6 by omega, xor_add (by omega) (by omega) (by omega) (by omega)]
        omega
      · rw [show (33554432 * ρ 6 + 0 : Int) = 33554432 * ρ 6 by omega]
        exact xor_0 (by omega) (by omega)
    have k_xSE : xSE W := by
      have r : W 91 249 = 0 := by
        have e := m7
        rw [hW, sU_ne (fun z => by omega), sU_ne (fun z => by omega), sU_ne (fun z => by omega), sU_ne (fun z => by omega), sU_ne (fun z => by omega), sU_ne (fun z => by omega), sU_ne (fun z => by omega), sU_ne (fun z => by omega)]
        omega
      intro h
      rw [r] at h
      omega
    have k_xSW : xSW W := by
      rw [hW]
      exact (uxSW rfl (uxSW rfl (uxSW rfl (uxSW rfl (uxSW rfl (uxSW rfl (uxSW rfl (uxSW rfl hI.2.2.2.2.2.2.2.2.2.2.2.2.2.2.2.2.2.2.2.2.2.2.2.2.2.2.2.2.2.2.2.2.2.2.2.2.2.1))))))))
    have k_xST : xST W := by
      rw [hW]
      exact (uxST rfl (uxST rfl (uxST rfl (uxST rfl (uxST rfl (uxST rfl (uxST rfl (uxST rfl hI.2.2.2.2.2.2.2.2.2.2.2.2.2.2.2.2.2.2.2.2.2.2.2.2.2.2.2.2.2.2.2.2.2.2.2.2.2.2.1))))))))
    have k_xSP : xSP W := by
      rw [hW]
      exact (uxSP rfl (uxSP rfl (uxSP rfl (uxSP rfl (uxSP rfl (uxSP rfl (uxSP rfl (uxSP rfl hI.2.2.2.2.2.2.2.2.2.2.2.2.2.2.2.2.2.2.2.2.2.2.2.2.2.2.2.2.2.2.2.2.2.2.2.2.2.2.2.1))))))))
    have k_xSL : xSL W := by
      rw [hW]
      exact (uxSL rfl (uxSL rfl (uxSL rfl (uxSL rfl (uxSL rfl (uxSL rfl (uxSL rfl (uxSL rfl hI.2.2.2.2.2.2.2.2.2.2.2.2.2.2.2.2.2.2.2.2.2.2.2.2.2.2.2.2.2.2.2.2.2.2.2.2.2.2.2.2.1))))))))
    have k_xSM : xSM W := by
      rw [hW]
      exact (uxSM rfl (uxSM rfl (uxSM rfl (uxSM rfl (uxSM rfl (uxSM rfl (uxSM rfl (uxSM rfl hI.2.2.2.2.2.2.2.2.2.2.2.2.2.2.2.2.2.2.2.2.2.2.2.2.2.2.2.2.2.2.2.2.2.2.2.2.2.2.2.2.2.1))))))))
    have k_xSI : xSI W := by
      rw [hW]
      exact (uxSI rfl (uxSI rfl (uxSI rfl (uxSI rfl (uxSI rfl (uxSI rfl (uxSI rfl (uxSI rfl hI.2.2.2.2.2.2.2.2.2.2.2.2.2.2.2.2.2.2.2.2.2.2.2.2.2.2.2.2.2.2.2.2.2.2.2.2.2.2.2.2.2.2))))))))
    have k_XC : XC W := ⟨k_xS1, k_xS2, k_xS3, k_xS4, k_xS5, k_xS6, k_xS7, k_xS8, k_xS9, k_xSA, k_xSG, k_xSF, k_xSB, k_xSC, k_xSD, k_xSE, k_xSW, k_xST, k_xSP, k_xSL, k_xSM, k_xSI⟩
    have kXB : XB W := ⟨k_xN1, k_xN2, k_xN3, k_xN4, k_xN5, k_xN6, k_xH1, k_xK1, k_xC1, k_xRW, k_xWT, k_xCU, k_xG2, k_xG3, k_xG4, k_xG5, k_xG6, k_XC⟩
    exact ⟨base, k2, k3, kXA, kXB⟩
-- mkPack1
def xr_243 : qRu := (7, [[(-1, 0), (-1, 1), (1, 2)], [(1, 0), (1, 1), (-1, 2)], [(-1, 0), (1, 6)], [(26, 0), (-1, 6)]], [(4, 214, [(1, 0)]), (4, 215, [(1, 1)]), (4, 216, [(1, 2)]), (4, 217, [(1, 3)]), (4, 101, [(1, 5)]), (4, 235, [(1, 0)]), (4, 218, [(1, 4)]), (91, 249, [])], [], [(91, 240, [(1, 0)]), (91, 241, [(1, 6)]), (91, 242, [(20, 0)]), (91, 243, [(1048576, 6)]), (91, 246, [(1, 4)]), (91, 244, [(1, 4), (1048576, 6)]), (91, 245, []), (91, 247, [(1048576, 6)])], [])
theorem xo_243 : qRok xr_243 := by
  intro ρ M h0 hf hm hI
  have f0 := hf [(-1, 0), (-1, 1), (1, 2)] (by decide)
  have f1 := hf [(1, 0), (1, 1), (-1, 2)] (by decide)
  have f2 := hf [(-1, 0), (1, 6)] (by decide)
  have f3 := hf [(26, 0), (-1, 6)] (by decide)
  simp only [qD, h0] at f0 f1 f2 f3
  have m0 : M 4 214 = 1 * ρ 0 + 0 := hm (4, 214, [(1, 0)]) (by decide)
  have m1 : M 4 215 = 1 * ρ 1 + 0 := hm (4, 215, [(1, 1)]) (by decide)
  have m2 : M 4 216 = 1 * ρ 2 + 0 := hm (4, 216, [(1, 2)]) (by decide)
  have m3 : M 4 217 = 1 * ρ 3 + 0 := hm (4, 217, [(1, 3)]) (by decide)
  have m4 : M 4 101 = 1 * ρ 5 + 0 := hm (4, 101, [(1, 5)]) (by decide)
  have m5 : M 4 235 = 1 * ρ 0 + 0 := hm (4, 235, [(1, 0)]) (by decide)
  have m6 : M 4 218 = 1 * ρ 4 + 0 := hm (4, 218, [(1, 4)]) (by decide)
  have m7 : M 91 249 = 0 := hm (91, 249, []) (by decide)
  simp only [h0] at m0 m5
  have qxSD := hI.2.2.2.2.2.2.2.2.2.2.2.2.2.2.2.2.2.2.2.2.2.2.2.2.2.2.2.2.2.2.2.2.2.2.2.1
  obtain ⟨u1, u2, u3, u4, u5, u6, u7⟩ := gx_xSA hI (by omega)

  have g1 := gx_xSG hI (by omega)
  rw [show (M 4 216 - M 4 215).toNat = 1 by omega] at g1
  have g2 : M 4 218 = (0 + (M 92 ((M 4 215).toNat + 0) - 96) * 33554432) := g1
  have hl : ∀ i, i < 1 → 97 ≤ M 92 ((M 4 215).toNat + i) ∧ M 92 ((M 4 215).toNat + i) ≤ 122 := fun i hi => ten_all (n := (M 4 101).toNat) (q := (M 4 215).toNat) (by omega) (by omega)

  have d0 := hl 0 (by omega)
  refine ⟨ρ, fun _ _ => rfl, fun f h => ?_, ?_⟩
  · exact nomatch h
  · show sI (sU (sU (sU (sU (sU (sU (sU (sU M 91 240 (1 * ρ 0 + 0)) 91 241 (1 * ρ 6 + 0)) 91 242 (20 * ρ 0 + 0)) 91 243 (1048576 * ρ 6 + 0)) 91 246 (1 * ρ 4 + 0)) 91 244 (1 * ρ 4 + (1048576 * ρ 6 + 0))) 91 245 (0)) 91 247 (1048576 * ρ 6 + 0))
    obtain ⟨W, hW⟩ : ∃ W, W = (sU (sU (sU (sU (sU (sU (sU (sU M 91 240 (1 * ρ 0 + 0)) 91 241 (1 * ρ 6 + 0)) 91 242 (20 * ρ 0 + 0)) 91 243 (1048576 * ρ 6 + 0)) 91 246 (1 * ρ 4 + 0)) 91 244 (1 * ρ 4 + (1048576 * ρ 6 + 0))) 91 245 (0)) 91 247 (1048576 * ρ 6 + 0)) := ⟨_, rfl⟩
    rw [← hW]
    have base : sI0 W := by
      rw [hW]
      exact (si_u0 (si_u0 (si_u0 (si_u0 (si_u0 (si_u0 (si_u0 (si_u0 hI.1 (fun r hr => by cases hr)) (fun r hr => by cases hr)) (fun r hr => by cases hr)) (fun r hr => by cases hr)) (fun r hr => by cases hr)) (fun r hr => by cases hr)) (fun r hr => by cases hr)) (fun r hr => by cases hr))
    have k2 : XI2 W := by
      rw [hW]
      exact (xi2_u rfl (xi2_u rfl (xi2_u rfl (xi2_u rfl (xi2_u rfl (xi2_u rfl (xi2_u rfl (xi2_u rfl hI.2.1))))))))
    have k3 : XI3 W := by
      rw [hW]
      exact (xi3_u rfl (xi3_u rfl (xi3_u rfl (xi3_u rfl (xi3_u rfl (xi3_u rfl (xi3_u rfl (xi3_u rfl hI.2.2.1))))))))
    have kXA : XA W := by
      rw [hW]
      exact (uXA rfl (uXA rfl (uXA rfl (uXA rfl (uXA rfl (uXA rfl (uXA rfl (uXA rfl hI.2.2.2.1))))))))
    have k_xN1 : xN1 W := by
      rw [hW]
      exact (uxN1 rfl (uxN1 rfl (uxN1 rfl (uxN1 rfl (uxN1 rfl (uxN1 rfl (uxN1 rfl (uxN1 rfl hI.2.2.2.2.1))))))))
    have k_xN2 : xN2 W := by
      rw [hW]
      exact (uxN2 rfl (uxN2 rfl (uxN2 rfl (uxN2 rfl (uxN2 rfl (uxN2 rfl (uxN2 rfl (uxN2 rfl hI.2.2.2.2.2.1))))))))
    have k_xN3 : xN3 W := by
      rw [hW]
      exact (uxN3 rfl (uxN3 rfl (uxN3 rfl (uxN3 rfl (uxN3 rfl (uxN3 rfl (uxN3 rfl (uxN3 rfl hI.2.2.2.2.2.2.1))))))))
    have k_xN4 : xN4 W := by
      rw [hW]
      exact (uxN4 rfl (uxN4 rfl (uxN4 rfl (uxN4 rfl (uxN4 rfl (uxN4 rfl (uxN4 rfl (uxN4 rfl hI.2.2.2.2.2.2.2.1))))))))
    have k_xN5 : xN5 W := by
      rw [hW]
      exact (uxN5 rfl (uxN5 rfl (uxN5 rfl (uxN5 rfl (uxN5 rfl (uxN5 rfl (uxN5 rfl (uxN5 rfl hI.2.2.2.2.2.2.2.2.1))))))))
    have k_xN6 : xN6 W := by
      rw [hW]
      exact (uxN6 rfl (uxN6 rfl (uxN6 rfl (uxN6 rfl (uxN6 rfl (uxN6 rfl (uxN6 rfl (uxN6 rfl hI.2.2.2.2.2.2.2.2.2.1))))))))
    have k_xH1 : xH1 W := by
      rw [hW]
      exact (uxH1 rfl (uxH1 rfl (uxH1 rfl (uxH1 rfl (uxH1 rfl (uxH1 rfl (uxH1 rfl (uxH1 rfl hI.2.2.2.2.2.2.2.2.2.2.1))))))))
    have k_xK1 : xK1 W := by
      rw [hW]
      exact (uxK1 rfl (uxK1 rfl (uxK1 rfl (uxK1 rfl (uxK1 rfl (uxK1 rfl (uxK1 rfl (uxK1 rfl hI.2.2.2.2.2.2.2.2.2.2.2.1))))))))
    have k_xC1 : xC1 W := by
      rw [hW]
      exact (uxC1 rfl (uxC1 rfl (uxC1 rfl (uxC1 rfl (uxC1 rfl (uxC1 rfl (uxC1 rfl (uxC1 rfl hI.2.2.2.2.2.2.2.2.2.2.2.2.1))))))))
    have k_xRW : xRW W := by
      rw [hW]
      exact (uxRW rfl (uxRW rfl (uxRW rfl (uxRW rfl (uxRW rfl (uxRW rfl (uxRW rfl (uxRW rfl hI.2.2.2.2.2.2.2.2.2.2.2.2.2.1))))))))
    have k_xWT : xWT W := by
      rw [hW]
      exact (uxWT rfl (uxWT rfl (uxWT rfl (uxWT rfl (uxWT rfl (uxWT rfl (uxWT rfl (uxWT rfl hI.2.2.2.2.2.2.2.2.2.2.2.2.2.2.1))))))))
    have k_xCU : xCU W := by
      rw [hW]
      exact (uxCU rfl (uxCU rfl (uxCU rfl (uxCU rfl (uxCU rfl (uxCU rfl (uxCU rfl (uxCU rfl hI.2.2.2.2.2.2.2.2.2.2.2.2.2.2.2.1))))))))
    have k_xG2 : xG2 W := by
      rw [hW]
      exact (uxG2 rfl (uxG2 rfl (uxG2 rfl (uxG2 rfl (uxG2 rfl (uxG2 rfl (uxG2 rfl (uxG2 rfl hI.2.2.2.2.2.2.2.2.2.2.2.2.2.2.2.2.1))))))))
    have k_xG3 : xG3 W := by
      rw [hW]
      exact (uxG3 rfl (uxG3 rfl (uxG3 rfl (uxG3 rfl (uxG3 rfl (uxG3 rfl (uxG3 rfl (uxG3 rfl hI.2.2.2.2.2.2.2.2.2.2.2.2.2.2.2.2.2.1))))))))
    have k_xG4 : xG4 W := by
      rw [hW]
      exact (uxG4 rfl (uxG4 rfl (uxG4 rfl (uxG4 rfl (uxG4 rfl (uxG4 rfl (uxG4 rfl (uxG4 rfl hI.2.2.2.2.2.2.2.2.2.2.2.2.2.2.2.2.2.2.1))))))))
    have k_xG5 : xG5 W := by
      rw [hW]
      exact (uxG5 rfl (uxG5 rfl (uxG5 rfl (uxG5 rfl (uxG5 rfl (uxG5 rfl (uxG5 rfl (uxG5 rfl hI.2.2.2.2.2.2.2.2.2.2.2.2.2.2.2.2.2.2.2.1))))))))
    have k_xG6 : xG6 W := by
      rw [hW]
      exact (uxG6 rfl (uxG6 rfl (uxG6 rfl (uxG6 rfl (uxG6 rfl (uxG6 rfl (uxG6 rfl (uxG6 rfl hI.2.2.2.2.2.2.2.2.2.2.2.2.2.2.2.2.2.2.2.2.1))))))))
    have k_xS1 : xS1 W := by
      rw [hW]
      exact (uxS1 rfl (uxS1 rfl (uxS1 rfl (uxS1 rfl (uxS1 rfl (uxS1 rfl (uxS1 rfl (uxS1 rfl hI.2.2.2.2.2.2.2.2.2.2.2.2.2.2.2.2.2.2.2.2.2.1))))))))
    have k_xS2 : xS2 W := by
      rw [hW]
      exact (uxS2 rfl (uxS2 rfl (uxS2 rfl (uxS2 rfl (uxS2 rfl (uxS2 rfl (uxS2 rfl (uxS2 rfl hI.2.2.2.2.2.2.2.2.2.2.2.2.2.2.2.2.2.2.2.2.2.2.1))))))))
    have k_xS3 : xS3 W := by
      rw [hW]
      exact (uxS3 rfl (uxS3 rfl (uxS3 rfl (uxS3 rfl (uxS3 rfl (uxS3 rfl (uxS3 rfl (uxS3 rfl hI.2.2.2.2.2.2.2.2.2.2.2.2.2.2.2.2.2.2.2.2.2.2.2.1))))))))
    have k_xS4 : xS4 W := by
      rw [hW]
      exact (uxS4 rfl (uxS4 rfl (uxS4 rfl (uxS4 rfl (uxS4 rfl (uxS4 rfl (uxS4 rfl (uxS4 rfl hI.2.2.2.2.2.2.2.2.2.2.2.2.2.2.2.2.2.2.2.2.2.2.2.2.1))))))))
    have k_xS5 : xS5 W := by
      rw [hW]
      exact (uxS5 rfl (uxS5 rfl (uxS5 rfl (uxS5 rfl (uxS5 rfl (uxS5 rfl (uxS5 rfl (uxS5 rfl hI.2.2.2.2.2.2.2.2.2.2.2.2.2.2.2.2.2.2.2.2.2.2.2.2.2.1))))))))
    have k_xS6 : xS6 W := by
      rw [hW]
      exact (uxS6 rfl (uxS6 rfl (uxS6 rfl (uxS6 rfl (uxS6 rfl (uxS6 rfl (uxS6 rfl (uxS6 rfl hI.2.2.2.2.2.2.2.2.2.2.2.2.2.2.2.2.2.2.2.2.2.2.2.2.2.2.1))))))))
    have k_xS7 : xS7 W := by
      rw [hW]
      exact (uxS7 rfl (uxS7 rfl (uxS7 rfl (uxS7 rfl (uxS7 rfl (uxS7 rfl (uxS7 rfl (uxS7 rfl hI.2.2.2.2.2.2.2.2.2.2.2.2.2.2.2.2.2.2.2.2.2.2.2.2.2.2.2.1))))))))
    have k_xS8 : xS8 W := by
      rw [hW]
      exact (uxS8 rfl (uxS8 rfl (uxS8 rfl (uxS8 rfl (uxS8 rfl (uxS8 rfl (uxS8 rfl (uxS8 rfl hI.2.2.2.2.2.2.2.2.2.2.2.2.2.2.2.2.2.2.2.2.2.2.2.2.2.2.2.2.1))))))))
    have k_xS9 : xS9 W := by
      rw [hW]
      exact (uxS9 rfl (uxS9 rfl (uxS9 rfl (uxS9 rfl (uxS9 rfl (uxS9 rfl (uxS9 rfl (uxS9 rfl hI.2.2.2.2.2.2.2.2.2.2.2.2.2.2.2.2.2.2.2.2.2.2.2.2.2.2.2.2.2.1))))))))
    have k_xSA : xSA W := by
      rw [hW]
      exact (uxSA rfl (uxSA rfl (uxSA rfl (uxSA rfl (uxSA rfl (uxSA rfl (uxSA rfl (uxSA rfl hI.2.2.2.2.2.2.2.2.2.2.2.2.2.2.2.2.2.2.2.2.2.2.2.2.2.2.2.2.2.2.1))))))))
    have k_xSG : xSG W := by
      rw [hW]
      exact (uxSG rfl (uxSG rfl (uxSG rfl (uxSG rfl (uxSG rfl (uxSG rfl (uxSG rfl (uxSG rfl hI.2.2.2.2.2.2.2.2.2.2.2.2.2.2.2.2.2.2.2.2.2.2.2.2.2.2.2.2.2.2.2.1))))))))
    have k_xSF : xSF W := by
      rw [hW]
      exact (uxSF rfl (uxSF rfl (uxSF rfl (uxSF rfl (uxSF rfl (uxSF rfl (uxSF rfl (uxSF rfl hI.2.2.2.2.2.2.2.2.2.2.2.2.2.2.2.2.2.2.2.2.2.2.2.2.2.2.2.2.2.2.2.2.1))))))))
    have k_xSB : xSB W := by
      rw [hW]
      exact (uxSB rfl (uxSB rfl (uxSB rfl (uxSB rfl (uxSB rfl (uxSB rfl (uxSB rfl (uxSB rfl hI.2.2.2.2.2.2.2.2.2.2.2.2.2.2.2.2.2.2.2.2.2.2.2.2.2.2.2.2.2.2.2.2.2.1))))))))
    have k_xSC : xSC W := by
      rw [hW]
      exact (uxSC rfl (uxSC rfl (uxSC rfl (uxSC rfl (uxSC rfl (uxSC rfl (uxSC rfl (uxSC rfl hI.2.2.2.2.2.2.2.2.2.2.2.2.2.2.2.2.2.2.2.2.2.2.2.2.2.2.2.2.2.2.2.2.2.2.1))))))))
    have k_xSD : xSD W := by
      have r91_240 : W 91 240 = 1 * ρ 0 + 0 := by rw [hW, sU_ne (fun z => by omega), sU_ne (fun z => by omega), sU_ne (fun z => by omega), sU_ne (fun z => by omega), sU_ne (fun z => by omega), sU_ne (fun z => by omega), sU_ne (fun z => by omega), sU_at]
      have r91_241 : W 91 241 = 1 * ρ 6 + 0 := by rw [hW, sU_ne (fun z => by omega), sU_ne (fun z => by omega), sU_ne (fun z => by omega), sU_ne (fun z => by omega), sU_ne (fun z => by omega), sU_ne (fun z => by omega), sU_at]
      have r91_242 : W 91 242 = 20 * ρ 0 + 0 := by rw [hW, sU_ne (fun z => by omega), sU_ne (fun z => by omega), sU_ne (fun z => by omega), sU_ne (fun z => by omega), sU_ne (fun z => by omega), sU_at]
      have r91_243 : W 91 243 = 1048576 * ρ 6 + 0 := by rw [hW, sU_ne (fun z => by omega), sU_ne (fun z => by omega), sU_ne (fun z => by omega), sU_ne (fun z => by omega), sU_at]
      have r91_244 : W 91 244 = 1 * ρ 4 + (1048576 * ρ 6 + 0) := by rw [hW, sU_ne (fun z => by omega), sU_ne (fun z => by omega), sU_at]
      have r91_245 : W 91 245 = 0 := by rw [hW, sU_ne (fun z => by omega), sU_at]
      have r91_246 : W 91 246 = 1 * ρ 4 + 0 := by rw [hW, sU_ne (fun z => by omega), sU_ne (fun z => by omega), sU_ne (fun z => by omega), sU_at]
      have r91_247 : W 91 247 = 1048576 * ρ 6 + 0 := by rw [hW, sU_at]
      intro h
      rw [r91_241, r91_242, r91_243, r91_244, r91_245, r91_246, r91_247]
      have hs := xsh_1 (l := ρ 6) (by omega) (by omega)
      have hz : xop 4 (1 * ρ 6 + 0) (20 * ρ 0 + 0) = 1048576 * ρ 6 + 0 := by
        rw [h0, show ((20 : Int) * 1 + 0) = 20 from rfl]; rw [show (1 * ρ 6 + 0 : Int) = ρ 6 by omega, hs]; omega
      refine ⟨hz.symm, ?_, ?_⟩
      · rw [show (1 * ρ 4 + 0 : Int) = ((M 92 ((M 4 215).toNat + 0) - 96) * 1) * 2 ^ 25 by omega, show (1048576 * ρ 6 + 0 : Int) = 1048576 * ρ 6 by omega, xor_add (by omega) (by omega) (by omega) (by omega)]
        omega
      · rw [show (1048576 * ρ 6 + 0 : Int) = 1048576 * ρ 6 by omega]
        exact xor_0 (by omega) (by omega)
    have k_xSE : xSE W := by
      have r : W 91 249 = 0 := by
        have e := m7
        rw [hW, sU_ne (fun z => by omega), sU_ne (fun z => by omega), sU_ne (fun z => by omega), sU_ne (fun z => by omega), sU_ne (fun z => by omega), sU_ne (fun z => by omega), sU_ne (fun z => by omega), sU_ne (fun z => by omega)]
        omega
      intro h
      rw [r] at h
      omega
    have k_xSW : xSW W := by
      rw [hW]
      exact (uxSW rfl (uxSW rfl (uxSW rfl (uxSW rfl (uxSW rfl (uxSW rfl (uxSW rfl (uxSW rfl hI.2.2.2.2.2.2.2.2.2.2.2.2.2.2.2.2.2.2.2.2.2.2.2.2.2.2.2.2.2.2.2.2.2.2.2.2.2.1))))))))
    have k_xST : xST W := by
      rw [hW]
      exact (uxST rfl (uxST rfl (uxST rfl (uxST rfl (uxST rfl (uxST rfl (uxST rfl (uxST rfl hI.2.2.2.2.2.2.2.2.2.2.2.2.2.2.2.2.2.2.2.2.2.2.2.2.2.2.2.2.2.2.2.2.2.2.2.2.2.2.1))))))))
    have k_xSP : xSP W := by
      rw [hW]
      exact (uxSP rfl (uxSP rfl (uxSP rfl (uxSP rfl (uxSP rfl (uxSP rfl (uxSP rfl (uxSP rfl hI.2.2.2.2.2.2.2.2.2.2.2.2.2.2.2.2.2.2.2.2.2.2.2.2.2.2.2.2.2.2.2.2.2.2.2.2.2.2.2.1))))))))
    have k_xSL : xSL W := by
      rw [hW]
      exact (uxSL rfl (uxSL rfl (uxSL rfl (uxSL rfl (uxSL rfl (uxSL rfl (uxSL rfl (uxSL rfl hI.2.2.2.2.2.2.2.2.2.2.2.2.2.2.2.2.2.2.2.2.2.2.2.2.2.2.2.2.2.2.2.2.2.2.2.2.2.2.2.2.1))))))))
    have k_xSM : xSM W := by
      rw [hW]
      exact (uxSM rfl (uxSM rfl (uxSM rfl (uxSM rfl (uxSM rfl (uxSM rfl (uxSM rfl (uxSM rfl hI.2.2.2.2.2.2.2.2.2.2.2.2.2.2.2.2.2.2.2.2.2.2.2.2.2.2.2.2.2.2.2.2.2.2.2.2.2.2.2.2.2.1))))))))
    have k_xSI : xSI W := by
      rw [hW]
      exact (uxSI rfl (uxSI rfl (uxSI rfl (uxSI rfl (uxSI rfl (uxSI rfl (uxSI rfl (uxSI rfl hI.2.2.2.2.2.2.2.2.2.2.2.2.2.2.2.2.2.2.2.2.2.2.2.2.2.2.2.2.2.2.2.2.2.2.2.2.2.2.2.2.2.2))))))))
    have k_XC : XC W := ⟨k_xS1, k_xS2, k_xS3, k_xS4, k_xS5, k_xS6, k_xS7, k_xS8, k_xS9, k_xSA, k_xSG, k_xSF, k_xSB, k_xSC, k_xSD, k_xSE, k_xSW, k_xST, k_xSP, k_xSL, k_xSM, k_xSI⟩
    have kXB : XB W := ⟨k_xN1, k_xN2, k_xN3, k_xN4, k_xN5, k_xN6, k_xH1, k_xK1, k_xC1, k_xRW, k_xWT, k_xCU, k_xG2, k_xG3, k_xG4, k_xG5, k_xG6, k_XC⟩
    exact ⟨base, k2, k3, kXA, kXB⟩
-- mkPack2
def xr_244 : qRu := (7, [[(-2, 0), (-1, 1), (1, 2)], [(2, 0), (1, 1), (-1, 2)], [(-1, 0), (1, 6)], [(26, 0), (-1, 6)]], [(4, 214, [(1, 0)]), (4, 215, [(1, 1)]), (4, 216, [(1, 2)]), (4, 217, [(1, 3)]), (4, 101, [(1, 5)]), (4, 235, [(1, 0)]), (4, 218, [(1, 4)]), (91, 249, [])], [], [(91, 240, [(1, 0)]), (91, 241, [(1, 6)]), (91, 242, [(15, 0)]), (91, 243, [(32768, 6)]), (91, 246, [(1, 4)]), (91, 244, [(1, 4), (32768, 6)]), (91, 245, []), (91, 247, [(32768, 6)])], [])
theorem xo_244 : qRok xr_244 := by
  intro ρ M h0 hf hm hI
  have f0 := hf [(-2, 0), (-1, 1), (1, 2)] (by decide)
  have f1 := hf [(2, 0), (1, 1), (-1, 2)] (by decide)
  have f2 := hf [(-1, 0), (1, 6)] (by decide)
  have f3 := hf [(26, 0), (-1, 6)] (by decide)
  simp only [qD, h0] at f0 f1 f2 f3
  have m0 : M 4 214 = 1 * ρ 0 + 0 := hm (4, 214, [(1, 0)]) (by decide)
  have m1 : M 4 215 = 1 * ρ 1 + 0 := hm (4, 215, [(1, 1)]) (by decide)
  have m2 : M 4 216 = 1 * ρ 2 + 0 := hm (4, 216, [(1, 2)]) (by decide)
  have m3 : M 4 217 = 1 * ρ 3 + 0 := hm (4, 217, [(1, 3)]) (by decide)
  have m4 : M 4 101 = 1 * ρ 5 + 0 := hm (4, 101, [(1, 5)]) (by decide)
  have m5 : M 4 235 = 1 * ρ 0 + 0 := hm (4, 235, [(1, 0)]) (by decide)
  have m6 : M 4 218 = 1 * ρ 4 + 0 := hm (4, 218, [(1, 4)]) (by decide)
  have m7 : M 91 249 = 0 := hm (91, 249, []) (by decide)
  simp only [h0] at m0 m5
  have qxSD := hI.2.2.2.2.2.2.2.2.2.2.2.2.2.2.2.2.2.2.2.2.2.2.2.2.2.2.2.2.2.2.2.2.2.2.2.1
  obtain ⟨u1, u2, u3, u4, u5, u6, u7⟩ := gx_xSA hI (by omega)

  have g1 := gx_xSG hI (by omega)
  rw [show (M 4 216 - M 4 215).toNat = 2 by omega] at g1
  have g2 : M 4 218 = ((0 + (M 92 ((M 4 215).toNat + 0) - 96) * 33554432) + (M 92 ((M 4 215).toNat + 1) - 96) * 1048576) := g1
  have hl : ∀ i, i < 2 → 97 ≤ M 92 ((M 4 215).toNat + i) ∧ M 92 ((M 4 215).toNat + i) ≤ 122 := fun i hi => ten_all (n := (M 4 101).toNat) (q := (M 4 215).toNat) (by omega) (by omega)

  have d0 := hl 0 (by omega)

  have d1 := hl 1 (by omega)
  refine ⟨ρ, fun _ _ => rfl, fun f h => ?_, ?_⟩
  · exact nomatch h
  · show sI (sU (sU (sU (sU (sU (sU (sU (sU M 91 240 (1 * ρ 0 + 0)) 91 241 (1 * ρ 6 + 0)) 91 242 (15 * ρ 0 + 0)) 91 243 (32768 * ρ 6 + 0)) 91 246 (1 * ρ 4 + 0)) 91 244 (1 * ρ 4 + (32768 * ρ 6 + 0))) 91 245 (0)) 91 247 (32768 * ρ 6 + 0))
    obtain ⟨W, hW⟩ : ∃ W, W = (sU (sU (sU (sU (sU (sU (sU (sU M 91 240 (1 * ρ 0 + 0)) 91 241 (1 * ρ 6 + 0)) 91 242 (15 * ρ 0 + 0)) 91 243 (32768 * ρ 6 + 0)) 91 246 (1 * ρ 4 + 0)) 91 244 (1 * ρ 4 + (32768 * ρ 6 + 0))) 91 245 (0)) 91 247 (32768 * ρ 6 + 0)) := ⟨_, rfl⟩
    rw [← hW]
    have base : sI0 W := by
      rw [hW]
      exact (si_u0 (si_u0 (si_u0 (si_u0 (si_u0 (si_u0 (si_u0 (si_u0 hI.1 (fun r hr => by cases hr)) (fun r hr => by cases hr)) (fun r hr => by cases hr)) (fun r hr => by cases hr)) (fun r hr => by cases hr)) (fun r hr => by cases hr)) (fun r hr => by cases hr)) (fun r hr => by cases hr))
    have k2 : XI2 W := by
      rw [hW]
      exact (xi2_u rfl (xi2_u rfl (xi2_u rfl (xi2_u rfl (xi2_u rfl (xi2_u rfl (xi2_u rfl (xi2_u rfl hI.2.1))))))))
    have k3 : XI3 W := by
      rw [hW]
      exact (xi3_u rfl (xi3_u rfl (xi3_u rfl (xi3_u rfl (xi3_u rfl (xi3_u rfl (xi3_u rfl (xi3_u rfl hI.2.2.1))))))))
    have kXA : XA W := by
      rw [hW]
      exact (uXA rfl (uXA rfl (uXA rfl (uXA rfl (uXA rfl (uXA rfl (uXA rfl (uXA rfl hI.2.2.2.1))))))))
    have k_xN1 : xN1 W := by
      rw [hW]
      exact (uxN1 rfl (uxN1 rfl (uxN1 rfl (uxN1 rfl (uxN1 rfl (uxN1 rfl (uxN1 rfl (uxN1 rfl hI.2.2.2.2.1))))))))
    have k_xN2 : xN2 W := by
      rw [hW]
      exact (uxN2 rfl (uxN2 rfl (uxN2 rfl (uxN2 rfl (uxN2 rfl (uxN2 rfl (uxN2 rfl (uxN2 rfl hI.2.2.2.2.2.1))))))))
    have k_xN3 : xN3 W := by
      rw [hW]
      exact (uxN3 rfl (uxN3 rfl (uxN3 rfl (uxN3 rfl (uxN3 rfl (uxN3 rfl (uxN3 rfl (uxN3 rfl hI.2.2.2.2.2.2.1))))))))
    have k_xN4 : xN4 W := by
      rw [hW]
      exact (uxN4 rfl (uxN4 rfl (uxN4 rfl (uxN4 rfl (uxN4 rfl (uxN4 rfl (uxN4 rfl (uxN4 rfl hI.2.2.2.2.2.2.2.1))))))))
    have k_xN5 : xN5 W := by
      rw [hW]
      exact (uxN5 rfl (uxN5 rfl (uxN5 rfl (uxN5 rfl (uxN5 rfl (uxN5 rfl (uxN5 rfl (uxN5 rfl hI.2.2.2.2.2.2.2.2.1))))))))
    have k_xN6 : xN6 W := by
      rw [hW]
      exact (uxN6 rfl (uxN6 rfl (uxN6 rfl (uxN6 rfl (uxN6 rfl (uxN6 rfl (uxN6 rfl (uxN6 rfl hI.2.2.2.2.2.2.2.2.2.1))))))))
    have k_xH1 : xH1 W := by
      rw [hW]
      exact (uxH1 rfl (uxH1 rfl (uxH1 rfl (uxH1 rfl (uxH1 rfl (uxH1 rfl (uxH1 rfl (uxH1 rfl hI.2.2.2.2.2.2.2.2.2.2.1))))))))
    have k_xK1 : xK1 W := by
      rw [hW]
      exact (uxK1 rfl (uxK1 rfl (uxK1 rfl (uxK1 rfl (uxK1 rfl (uxK1 rfl (uxK1 rfl (uxK1 rfl hI.2.2.2.2.2.2.2.2.2.2.2.1))))))))
    have k_xC1 : xC1 W := by
      rw [hW]
      exact (uxC1 rfl (uxC1 rfl (uxC1 rfl (uxC1 rfl (uxC1 rfl (uxC1 rfl (uxC1 rfl (uxC1 rfl hI.2.2.2.2.2.2.2.2.2.2.2.2.1))))))))
    have k_xRW : xRW W := by
      rw [hW]
      exact (uxRW rfl (uxRW rfl (uxRW rfl (uxRW rfl (uxRW rfl (uxRW rfl (uxRW rfl (uxRW rfl hI.2.2.2.2.2.2.2.2.2.2.2.2.2.1))))))))
    have k_xWT : xWT W := by
      rw [hW]
      exact (uxWT rfl (uxWT rfl (uxWT rfl (uxWT rfl (uxWT rfl (uxWT rfl (uxWT rfl (uxWT rfl hI.2.2.2.2.2.2.2.2.2.2.2.2.2.2.1))))))))
    have k_xCU : xCU W := by
      rw [hW]
      exact (uxCU rfl (uxCU rfl (uxCU rfl (uxCU rfl (uxCU rfl (uxCU rfl (uxCU rfl (uxCU rfl hI.2.2.2.2.2.2.2.2.2.2.2.2.2.2.2.1))))))))
    have k_xG2 : xG2 W := by
      rw [hW]
      exact (uxG2 rfl (uxG2 rfl (uxG2 rfl (uxG2 rfl (uxG2 rfl (uxG2 rfl (uxG2 rfl (uxG2 rfl hI.2.2.2.2.2.2.2.2.2.2.2.2.2.2.2.2.1))))))))
    have k_xG3 : xG3 W := by
      rw [hW]
      exact (uxG3 rfl (uxG3 rfl (uxG3 rfl (uxG3 rfl (uxG3 rfl (uxG3 rfl (uxG3 rfl (uxG3 rfl hI.2.2.2.2.2.2.2.2.2.2.2.2.2.2.2.2.2.1))))))))
    have k_xG4 : xG4 W := by
      rw [hW]
      exact (uxG4 rfl (uxG4 rfl (uxG4 rfl (uxG4 rfl (uxG4 rfl (uxG4 rfl (uxG4 rfl (uxG4 rfl hI.2.2.2.2.2.2.2.2.2.2.2.2.2.2.2.2.2.2.1))))))))
    have k_xG5 : xG5 W := by
      rw [hW]
      exact (uxG5 rfl (uxG5 rfl (uxG5 rfl (uxG5 rfl (uxG5 rfl (uxG5 rfl (uxG5 rfl (uxG5 rfl hI.2.2.2.2.2.2.2.2.2.2.2.2.2.2.2.2.2.2.2.1))))))))
    have k_xG6 : xG6 W := by
      rw [hW]
      exact (uxG6 rfl (uxG6 rfl (uxG6 rfl (uxG6 rfl (uxG6 rfl (uxG6 rfl (uxG6 rfl (uxG6 rfl hI.2.2.2.2.2.2.2.2.2.2.2.2.2.2.2.2.2.2.2.2.1))))))))
    have k_xS1 : xS1 W := by
      rw [hW]
      exact (uxS1 rfl (uxS1 rfl (uxS1 rfl (uxS1 rfl (uxS1 rfl (uxS1 rfl (uxS1 rfl (uxS1 rfl hI.2.2.2.2.2.2.2.2.2.2.2.2.2.2.2.2.2.2.2.2.2.1))))))))
    have k_xS2 : xS2 W := by
      rw [hW]
      exact (uxS2 rfl (uxS2 rfl (uxS2 rfl (uxS2 rfl (uxS2 rfl (uxS2 rfl (uxS2 rfl (uxS2 rfl hI.2.2.2.2.2.2.2.2.2.2.2.2.2.2.2.2.2.2.2.2.2.2.1))))))))
    have k_xS3 : xS3 W := by
      rw [hW]
      exact (uxS3 rfl (uxS3 rfl (uxS3 rfl (uxS3 rfl (uxS3 rfl (uxS3 rfl (uxS3 rfl (uxS3 rfl hI.2.2.2.2.2.2.2.2.2.2.2.2.2.2.2.2.2.2.2.2.2.2.2.1))))))))
    have k_xS4 : xS4 W := by
      rw [hW]
      exact (uxS4 rfl (uxS4 rfl (uxS4 rfl (uxS4 rfl (uxS4 rfl (uxS4 rfl (uxS4 rfl (uxS4 rfl hI.2.2.2.2.2.2.2.2.2.2.2.2.2.2.2.2.2.2.2.2.2.2.2.2.1))))))))
    have k_xS5 : xS5 W := by
      rw [hW]
      exact (uxS5 rfl (uxS5 rfl (uxS5 rfl (uxS5 rfl (uxS5 rfl (uxS5 rfl (uxS5 rfl (uxS5 rfl hI.2.2.2.2.2.2.2.2.2.2.2.2.2.2.2.2.2.2.2.2.2.2.2.2.2.1))))))))
    have k_xS6 : xS6 W := by
      rw [hW]
      exact (uxS6 rfl (uxS6 rfl (uxS6 rfl (uxS6 rfl (uxS6 rfl (uxS6 rfl (uxS6 rfl (uxS6 rfl hI.2.2.2.2.2.2.2.2.2.2.2.2.2.2.2.2.2.2.2.2.2.2.2.2.2.2.1))))))))
    have k_xS7 : xS7 W := by
      rw [hW]
      exact (uxS7 rfl (uxS7 rfl (uxS7 rfl (uxS7 rfl (uxS7 rfl (uxS7 rfl (uxS7 rfl (uxS7 rfl hI.2.2.2.2.2.2.2.2.2.2.2.2.2.2.2.2.2.2.2.2.2.2.2.2.2.2.2.1))))))))
    have k_xS8 : xS8 W := by
      rw [hW]
      exact (uxS8 rfl (uxS8 rfl (uxS8 rfl (uxS8 rfl (uxS8 rfl (uxS8 rfl (uxS8 rfl (uxS8 rfl hI.2.2.2.2.2.2.2.2.2.2.2.2.2.2.2.2.2.2.2.2.2.2.2.2.2.2.2.2.1))))))))
    have k_xS9 : xS9 W := by
      rw [hW]
      exact (uxS9 rfl (uxS9 rfl (uxS9 rfl (uxS9 rfl (uxS9 rfl (uxS9 rfl (uxS9 rfl (uxS9 rfl hI.2.2.2.2.2.2.2.2.2.2.2.2.2.2.2.2.2.2.2.2.2.2.2.2.2.2.2.2.2.1))))))))
    have k_xSA : xSA W := by
      rw [hW]
      exact (uxSA rfl (uxSA rfl (uxSA rfl (uxSA rfl (uxSA rfl (uxSA rfl (uxSA rfl (uxSA rfl hI.2.2.2.2.2.2.2.2.2.2.2.2.2.2.2.2.2.2.2.2.2.2.2.2.2.2.2.2.2.2.1))))))))
    have k_xSG : xSG W := by
      rw [hW]
      exact (uxSG rfl (uxSG rfl (uxSG rfl (uxSG rfl (uxSG rfl (uxSG rfl (uxSG rfl (uxSG rfl hI.2.2.2.2.2.2.2.2.2.2.2.2.2.2.2.2.2.2.2.2.2.2.2.2.2.2.2.2.2.2.2.1))))))))
    have k_xSF : xSF W := by
      rw [hW]
      exact (uxSF rfl (uxSF rfl (uxSF rfl (uxSF rfl (uxSF rfl (uxSF rfl (uxSF rfl (uxSF rfl hI.2.2.2.2.2.2.2.2.2.2.2.2.2.2.2.2.2.2.2.2.2.2.2.2.2.2.2.2.2.2.2.2.1))))))))
    have k_xSB : xSB W := by
      rw [hW]
      exact (uxSB rfl (uxSB rfl (uxSB rfl (uxSB rfl (uxSB rfl (uxSB rfl (uxSB rfl (uxSB rfl hI.2.2.2.2.2.2.2.2.2.2.2.2.2.2.2.2.2.2.2.2.2.2.2.2.2.2.2.2.2.2.2.2.2.1))))))))
    have k_xSC : xSC W := by
      rw [hW]
      exact (uxSC rfl (uxSC rfl (uxSC rfl (uxSC rfl (uxSC rfl (uxSC rfl (uxSC rfl (uxSC rfl hI.2.2.2.2.2.2.2.2.2.2.2.2.2.2.2.2.2.2.2.2.2.2.2.2.2.2.2.2.2.2.2.2.2.2.1))))))))
    have k_xSD : xSD W := by
      have r91_240 : W 91 240 = 1 * ρ 0 + 0 := by rw [hW, sU_ne (fun z => by omega), sU_ne (fun z => by omega), sU_ne (fun z => by omega), sU_ne (fun z => by omega), sU_ne (fun z => by omega), sU_ne (fun z => by omega), sU_ne (fun z => by omega), sU_at]
      have r91_241 : W 91 241 = 1 * ρ 6 + 0 := by rw [hW, sU_ne (fun z => by omega), sU_ne (fun z => by omega), sU_ne (fun z => by omega), sU_ne (fun z => by omega), sU_ne (fun z => by omega), sU_ne (fun z => by omega), sU_at]
      have r91_242 : W 91 242 = 15 * ρ 0 + 0 := by rw [hW, sU_ne (fun z => by omega), sU_ne (fun z => by omega), sU_ne (fun z => by omega), sU_ne (fun z => by omega), sU_ne (fun z => by omega), sU_at]
      have r91_243 : W 91 243 = 32768 * ρ 6 + 0 := by rw [hW, sU_ne (fun z => by omega), sU_ne (fun z => by omega), sU_ne (fun z => by omega), sU_ne (fun z => by omega), sU_at]
      have r91_244 : W 91 244 = 1 * ρ 4 + (32768 * ρ 6 + 0) := by rw [hW, sU_ne (fun z => by omega), sU_ne (fun z => by omega), sU_at]
      have r91_245 : W 91 245 = 0 := by rw [hW, sU_ne (fun z => by omega), sU_at]
      have r91_246 : W 91 246 = 1 * ρ 4 + 0 := by rw [hW, sU_ne (fun z => by omega), sU_ne (fun z => by omega), sU_ne (fun z => by omega), sU_at]
      have r91_247 : W 91 247 = 32768 * ρ 6 + 0 := by rw [hW, sU_at]
      intro h
      rw [r91_241, r91_242, r91_243, r91_244, r91_245, r91_246, r91_247]
      have hs := xsh_2 (l := ρ 6) (by omega) (by omega)
      have hz : xop 4 (1 * ρ 6 + 0) (15 * ρ 0 + 0) = 32768 * ρ 6 + 0 := by
        rw [h0, show ((15 : Int) * 1 + 0) = 15 from rfl]; rw [show (1 * ρ 6 + 0 : Int) = ρ 6 by omega, hs]; omega
      refine ⟨hz.symm, ?_, ?_⟩
      · rw [show (1 * ρ 4 + 0 : Int) = ((M 92 ((M 4 215).toNat + 0) - 96) * 32 + (M 92 ((M 4 215).toNat + 1) - 96) * 1) * 2 ^ 20 by omega, show (32768 * ρ 6 + 0 : Int) = 32768 * ρ 6 by omega, xor_add (by omega) (by omega) (by omega) (by omega)]
        omega
      · rw [show (32768 * ρ 6 + 0 : Int) = 32768 * ρ 6 by omega]
        exact xor_0 (by omega) (by omega)
    have k_xSE : xSE W := by
      have r : W 91 249 = 0 := by
        have e := m7
        rw [hW, sU_ne (fun z => by omega), sU_ne (fun z => by omega), sU_ne (fun z => by omega), sU_ne (fun z => by omega), sU_ne (fun z => by omega), sU_ne (fun z => by omega), sU_ne (fun z => by omega), sU_ne (fun z => by omega)]
        omega
      intro h
      rw [r] at h
      omega
    have k_xSW : xSW W := by
      rw [hW]
      exact (uxSW rfl (uxSW rfl (uxSW rfl (uxSW rfl (uxSW rfl (uxSW rfl (uxSW rfl (uxSW rfl hI.2.2.2.2.2.2.2.2.2.2.2.2.2.2.2.2.2.2.2.2.2.2.2.2.2.2.2.2.2.2.2.2.2.2.2.2.2.1))))))))
    have k_xST : xST W := by
      rw [hW]
      exact (uxST rfl (uxST rfl (uxST rfl (uxST rfl (uxST rfl (uxST rfl (uxST rfl (uxST rfl hI.2.2.2.2.2.2.2.2.2.2.2.2.2.2.2.2.2.2.2.2.2.2.2.2.2.2.2.2.2.2.2.2.2.2.2.2.2.2.1))))))))
    have k_xSP : xSP W := by
      rw [hW]
      exact (uxSP rfl (uxSP rfl (uxSP rfl (uxSP rfl (uxSP rfl (uxSP rfl (uxSP rfl (uxSP rfl hI.2.2.2.2.2.2.2.2.2.2.2.2.2.2.2.2.2.2.2.2.2.2.2.2.2.2.2.2.2.2.2.2.2.2.2.2.2.2.2.1))))))))
    have k_xSL : xSL W := by
      rw [hW]
      exact (uxSL rfl (uxSL rfl (uxSL rfl (uxSL rfl (uxSL rfl (uxSL rfl (uxSL rfl (uxSL rfl hI.2.2.2.2.2.2.2.2.2.2.2.2.2.2.2.2.2.2.2.2.2.2.2.2.2.2.2.2.2.2.2.2.2.2.2.2.2.2.2.2.1))))))))
    have k_xSM : xSM W := by
      rw [hW]
      exact (uxSM rfl (uxSM rfl (uxSM rfl (uxSM rfl (uxSM rfl (uxSM rfl (uxSM rfl (uxSM rfl hI.2.2.2.2.2.2.2.2.2.2.2.2.2.2.2.2.2.2.2.2.2.2.2.2.2.2.2.2.2.2.2.2.2.2.2.2.2.2.2.2.2.1))))))))
    have k_xSI : xSI W := by
      rw [hW]
      exact (uxSI rfl (uxSI rfl (uxSI rfl (uxSI rfl (uxSI rfl (uxSI rfl (uxSI rfl (uxSI rfl hI.2.2.2.2.2.2.2.2.2.2.2.2.2.2.2.2.2.2.2.2.2.2.2.2.2.2.2.2.2.2.2.2.2.2.2.2.2.2.2.2.2.2))))))))
    have k_XC : XC W := ⟨k_xS1, k_xS2, k_xS3, k_xS4, k_xS5, k_xS6, k_xS7, k_xS8, k_xS9, k_xSA, k_xSG, k_xSF, k_xSB, k_xSC, k_xSD, k_xSE, k_xSW, k_xST, k_xSP, k_xSL, k_xSM, k_xSI⟩
    have kXB : XB W := ⟨k_xN1, k_xN2, k_xN3, k_xN4, k_xN5, k_xN6, k_xH1, k_xK1, k_xC1, k_xRW, k_xWT, k_xCU, k_xG2, k_xG3, k_xG4, k_xG5, k_xG6, k_XC⟩
    exact ⟨base, k2, k3, kXA, kXB⟩
-- mkPack3
def xr_245 : qRu := (7, [[(-3, 0), (-1, 1), (1, 2)], [(3, 0), (1, 1), (-1, 2)], [(-1, 0), (1, 6)], [(26, 0), (-1, 6)]], [(4, 214, [(1, 0)]), (4, 215, [(1, 1)]), (4, 216, [(1, 2)]), (4, 217, [(1, 3)]), (4, 101, [(1, 5)]), (4, 235, [(1, 0)]), (4, 218, [(1, 4)]), (91, 249, [])], [], [(91, 240, [(1, 0)]), (91, 241, [(1, 6)]), (91, 242, [(10, 0)]), (91, 243, [(1024, 6)]), (91, 246, [(1, 4)]), (91, 244, [(1, 4), (1024, 6)]), (91, 245, []), (91, 247, [(1024, 6)])], [])
theorem xo_245 : qRok xr_245 := by
  intro ρ M h0 hf hm hI
  have f0 := hf [(-3, 0), (-1, 1), (1, 2)] (by decide)
  have f1 := hf [(3, 0), (1, 1), (-1, 2)] (by decide)
  have f2 := hf [(-1, 0), (1, 6)] (by decide)
  have f3 := hf [(26, 0), (-1, 6)] (by decide)
  simp only [qD, h0] at f0 f1 f2 f3
  have m0 : M 4 214 = 1 * ρ 0 + 0 := hm (4, 214, [(1, 0)]) (by decide)
  have m1 : M 4 215 = 1 * ρ 1 + 0 := hm (4, 215, [(1, 1)]) (by decide)
  have m2 : M 4 216 = 1 * ρ 2 + 0 := hm (4, 216, [(1, 2)]) (by decide)
  have m3 : M 4 217 = 1 * ρ 3 + 0 := hm (4, 217, [(1, 3)]) (by decide)
  have m4 : M 4 101 = 1 * ρ 5 + 0 := hm (4, 101, [(1, 5)]) (by decide)
  have m5 : M 4 235 = 1 * ρ 0 + 0 := hm (4, 235, [(1, 0)]) (by decide)
  have m6 : M 4 218 = 1 * ρ 4 + 0 := hm (4, 218, [(1, 4)]) (by decide)
  have m7 : M 91 249 = 0 := hm (91, 249, []) (by decide)
  simp only [h0] at m0 m5
  have qxSD := hI.2.2.2.2.2.2.2.2.2.2.2.2.2.2.2.2.2.2.2.2.2.2.2.2.2.2.2.2.2.2.2.2.2.2.2.1
  obtain ⟨u1, u2, u3, u4, u5, u6, u7⟩ := gx_xSA hI (by omega)

  have g1 := gx_xSG hI (by omega)
  rw [show (M 4 216 - M 4 215).toNat = 3 by omega] at g1
  have g2 : M 4 218 = (((0 + (M 92 ((M 4 215).toNat + 0) - 96) * 33554432) + (M 92 ((M 4 215).toNat + 1) - 96) * 1048576) + (M 92 ((M 4 215).toNat + 2) - 96) * 32768) := g1
  have hl : ∀ i, i < 3 → 97 ≤ M 92 ((M 4 215).toNat + i) ∧ M 92 ((M 4 215).toNat + i) ≤ 122 := fun i hi => ten_all (n := (M 4 101).toNat) (q := (M 4 215).toNat) (by omega) (by omega)

  have d0 := hl 0 (by omega)

  have d1 := hl 1 (by omega)

  have d2 := hl 2 (by omega)
  refine ⟨ρ, fun _ _ => rfl, fun f h => ?_, ?_⟩
  · exact nomatch h
  · show sI (sU (sU (sU (sU (sU (sU (sU (sU M 91 240 (1 * ρ 0 + 0)) 91 241 (1 * ρ 6 + 0)) 91 242 (10 * ρ 0 + 0)) 91 243 (1024 * ρ 6 + 0)) 91 246 (1 * ρ 4 + 0)) 91 244 (1 * ρ 4 + (1024 * ρ 6 + 0))) 91 245 (0)) 91 247 (1024 * ρ 6 + 0))
    obtain ⟨W, hW⟩ : ∃ W, W = (sU (sU (sU (sU (sU (sU (sU (sU M 91 240 (1 * ρ 0 + 0)) 91 241 (1 * ρ 6 + 0)) 91 242 (10 * ρ 0 + 0)) 91 243 (1024 * ρ 6 + 0)) 91 246 (1 * ρ 4 + 0)) 91 244 (1 * ρ 4 + (1024 * ρ 6 + 0))) 91 245 (0)) 91 247 (1024 * ρ 6 + 0)) := ⟨_, rfl⟩
    rw [← hW]
    have base : sI0 W := by
      rw [hW]
      exact (si_u0 (si_u0 (si_u0 (si_u0 (si_u0 (si_u0 (si_u0 (si_u0 hI.1 (fun r hr => by cases hr)) (fun r hr => by cases hr)) (fun r hr => by cases hr)) (fun r hr => by cases hr)) (fun r hr => by cases hr)) (fun r hr => by cases hr)) (fun r hr => by cases hr)) (fun r hr => by cases hr))
    have k2 : XI2 W := by
      rw [hW]
      exact (xi2_u rfl (xi2_u rfl (xi2_u rfl (xi2_u rfl (xi2_u rfl (xi2_u rfl (xi2_u rfl (xi2_u rfl hI.2.1))))))))
    have k3 : XI3 W := by
      rw [hW]
      exact (xi3_u rfl (xi3_u rfl (xi3_u rfl (xi3_u rfl (xi3_u rfl (xi3_u rfl (xi3_u rfl (xi3_u rfl hI.2.2.1))))))))
    have kXA : XA W := by
      rw [hW]
      exact (uXA rfl (uXA rfl (uXA rfl (uXA rfl (uXA rfl (uXA rfl (uXA rfl (uXA rfl hI.2.2.2.1))))))))
    have k_xN1 : xN1 W := by
      rw [hW]
      exact (uxN1 rfl (uxN1 rfl (uxN1 rfl (uxN1 rfl (uxN1 rfl (uxN1 rfl (uxN1 rfl (uxN1 rfl hI.2.2.2.2.1))))))))
    have k_xN2 : xN2 W := by
      rw [hW]
      exact (uxN2 rfl (uxN2 rfl (uxN2 rfl (uxN2 rfl (uxN2 rfl (uxN2 rfl (uxN2 rfl (uxN2 rfl hI.2.2.2.2.2.1))))))))
    have k_xN3 : xN3 W := by
      rw [hW]
      exact (uxN3 rfl (uxN3 rfl (uxN3 rfl (uxN3 rfl (uxN3 rfl (uxN3 rfl (uxN3 rfl (uxN3 rfl hI.2.2.2.2.2.2.1))))))))
    have k_xN4 : xN4 W := by
      rw [hW]
      exact (uxN4 rfl (uxN4 rfl (uxN4 rfl (uxN4 rfl (uxN4 rfl (uxN4 rfl (uxN4 rfl (uxN4 rfl hI.2.2.2.2.2.2.2.1))))))))
    have k_xN5 : xN5 W := by
      rw [hW]
      exact (uxN5 rfl (uxN5 rfl (uxN5 rfl (uxN5 rfl (uxN5 rfl (uxN5 rfl (uxN5 rfl (uxN5 rfl hI.2.2.2.2.2.2.2.2.1))))))))
    have k_xN6 : xN6 W := by
      rw [hW]
      exact (uxN6 rfl (uxN6 rfl (uxN6 rfl (uxN6 rfl (uxN6 rfl (uxN6 rfl (uxN6 rfl (uxN6 rfl hI.2.2.2.2.2.2.2.2.2.1))))))))
    have k_xH1 : xH1 W := by
      rw [hW]
      exact (uxH1 rfl (uxH1 rfl (uxH1 rfl (uxH1 rfl (uxH1 rfl (uxH1 rfl (uxH1 rfl (uxH1 rfl hI.2.2.2.2.2.2.2.2.2.2.1))))))))
    have k_xK1 : xK1 W := by
      rw [hW]
      exact (uxK1 rfl (uxK1 rfl (uxK1 rfl (uxK1 rfl (uxK1 rfl (uxK1 rfl (uxK1 rfl (uxK1 rfl hI.2.2.2.2.2.2.2.2.2.2.2.1))))))))
    have k_xC1 : xC1 W := by
      rw [hW]
      exact (uxC1 rfl (uxC1 rfl (uxC1 rfl (uxC1 rfl (uxC1 rfl (uxC1 rfl (uxC1 rfl (uxC1 rfl hI.2.2.2.2.2.2.2.2.2.2.2.2.1))))))))
    have k_xRW : xRW W := by
      rw [hW]
      exact (uxRW rfl (uxRW rfl (uxRW rfl (uxRW rfl (uxRW rfl (uxRW rfl (uxRW rfl (uxRW rfl hI.2.2.2.2.2.2.2.2.2.2.2.2.2.1))))))))
    have k_xWT : xWT W := by
      rw [hW]
      exact (uxWT rfl (uxWT rfl (uxWT rfl (uxWT rfl (uxWT rfl (uxWT rfl (uxWT rfl (uxWT rfl hI.2.2.2.2.2.2.2.2.2.2.2.2.2.2.1))))))))
    have k_xCU : xCU W := by
      rw [hW]
      exact (uxCU rfl (uxCU rfl (uxCU rfl (uxCU rfl (uxCU rfl (uxCU rfl (uxCU rfl (uxCU rfl hI.2.2.2.2.2.2.2.2.2.2.2.2.2.2.2.1))))))))
    have k_xG2 : xG2 W := by
      rw [hW]
      exact (uxG2 rfl (uxG2 rfl (uxG2 rfl (uxG2 rfl (uxG2 rfl (uxG2 rfl (uxG2 rfl (uxG2 rfl hI.2.2.2.2.2.2.2.2.2.2.2.2.2.2.2.2.1))))))))
    have k_xG3 : xG3 W := by
      rw [hW]
      exact (uxG3 rfl (uxG3 rfl (uxG3 rfl (uxG3 rfl (uxG3 rfl (uxG3 rfl (uxG3 rfl (uxG3 rfl hI.2.2.2.2.2.2.2.2.2.2.2.2.2.2.2.2.2.1))))))))
    have k_xG4 : xG4 W := by
      rw [hW]
      exact (uxG4 rfl (uxG4 rfl (uxG4 rfl (uxG4 rfl (uxG4 rfl (uxG4 rfl (uxG4 rfl (uxG4 rfl hI.2.2.2.2.2.2.2.2.2.2.2.2.2.2.2.2.2.2.1))))))))
    have k_xG5 : xG5 W := by
      rw [hW]
      exact (uxG5 rfl (uxG5 rfl (uxG5 rfl (uxG5 rfl (uxG5 rfl (uxG5 rfl (uxG5 rfl (uxG5 rfl hI.2.2.2.2.2.2.2.2.2.2.2.2.2.2.2.2.2.2.2.1))))))))
    have k_xG6 : xG6 W := by
      rw [hW]
      exact (uxG6 rfl (uxG6 rfl (uxG6 rfl (uxG6 rfl (uxG6 rfl (uxG6 rfl (uxG6 rfl (uxG6 rfl hI.2.2.2.2.2.2.2.2.2.2.2.2.2.2.2.2.2.2.2.2.1))))))))
    have k_xS1 : xS1 W := by
      rw [hW]
      exact (uxS1 rfl (uxS1 rfl (uxS1 rfl (uxS1 rfl (uxS1 rfl (uxS1 rfl (uxS1 rfl (uxS1 rfl hI.2.2.2.2.2.2.2.2.2.2.2.2.2.2.2.2.2.2.2.2.2.1))))))))
    have k_xS2 : xS2 W := by
      rw [hW]
      exact (uxS2 rfl (uxS2 rfl (uxS2 rfl (uxS2 rfl (uxS2 rfl (uxS2 rfl (uxS2 rfl (uxS2 rfl hI.2.2.2.2.2.2.2.2.2.2.2.2.2.2.2.2.2.2.2.2.2.2.1))))))))
    have k_xS3 : xS3 W := by
      rw [hW]
      exact (uxS3 rfl (uxS3 rfl (uxS3 rfl (uxS3 rfl (uxS3 rfl (uxS3 rfl (uxS3 rfl (uxS3 rfl hI.2.2.2.2.2.2.2.2.2.2.2.2.2.2.2.2.2.2.2.2.2.2.2.1))))))))
    have k_xS4 : xS4 W := by
      rw [hW]
      exact (uxS4 rfl (uxS4 rfl (uxS4 rfl (uxS4 rfl (uxS4 rfl (uxS4 rfl (uxS4 rfl (uxS4 rfl hI.2.2.2.2.2.2.2.2.2.2.2.2.2.2.2.2.2.2.2.2.2.2.2.2.1))))))))
    have k_xS5 : xS5 W := by
      rw [hW]
      exact (uxS5 rfl (uxS5 rfl (uxS5 rfl (uxS5 rfl (uxS5 rfl (uxS5 rfl (uxS5 rfl (uxS5 rfl hI.2.2.2.2.2.2.2.2.2.2.2.2.2.2.2.2.2.2.2.2.2.2.2.2.2.1))))))))
    have k_xS6 : xS6 W := by
      rw [hW]
      exact (uxS6 rfl (uxS6 rfl (uxS6 rfl (uxS6 rfl (uxS6 rfl (uxS6 rfl (uxS6 rfl (uxS6 rfl hI.2.2.2.2.2.2.2.2.2.2.2.2.2.2.2.2.2.2.2.2.2.2.2.2.2.2.1))))))))
    have k_xS7 : xS7 W := by
      rw [hW]
      exact (uxS7 rfl (uxS7 rfl (uxS7 rfl (uxS7 rfl (uxS7 rfl (uxS7 rfl (uxS7 rfl (uxS7 rfl hI.2.2.2.2.2.2.2.2.2.2.2.2.2.2.2.2.2.2.2.2.2.2.2.2.2.2.2.1))))))))
    have k_xS8 : xS8 W := by
      rw [hW]
      exact (uxS8 rfl (uxS8 rfl (uxS8 rfl (uxS8 rfl (uxS8 rfl (uxS8 rfl (uxS8 rfl (uxS8 rfl hI.2.2.2.2.2.2.2.2.2.2.2.2.2.2.2.2.2.2.2.2.2.2.2.2.2.2.2.2.1))))))))
    have k_xS9 : xS9 W := by
      rw [hW]
      exact (uxS9 rfl (uxS9 rfl (uxS9 rfl (uxS9 rfl (uxS9 rfl (uxS9 rfl (uxS9 rfl (uxS9 rfl hI.2.2.2.2.2.2.2.2.2.2.2.2.2.2.2.2.2.2.2.2.2.2.2.2.2.2.2.2.2.1))))))))
    have k_xSA : xSA W := by
      rw [hW]
      exact (uxSA rfl (uxSA rfl (uxSA rfl (uxSA rfl (uxSA rfl (uxSA rfl (uxSA rfl (uxSA rfl hI.2.2.2.2.2.2.2.2.2.2.2.2.2.2.2.2.2.2.2.2.2.2.2.2.2.2.2.2.2.2.1))))))))
    have k_xSG : xSG W := by
      rw [hW]
      exact (uxSG rfl (uxSG rfl (uxSG rfl (uxSG rfl (uxSG rfl (uxSG rfl (uxSG rfl (uxSG rfl hI.2.2.2.2.2.2.2.2.2.2.2.2.2.2.2.2.2.2.2.2.2.2.2.2.2.2.2.2.2.2.2.1))))))))
    have k_xSF : xSF W := by
      rw [hW]
      exact (uxSF rfl (uxSF rfl (uxSF rfl (uxSF rfl (uxSF rfl (uxSF rfl (uxSF rfl (uxSF rfl hI.2.2.2.2.2.2.2.2.2.2.2.2.2.2.2.2.2.2.2.2.2.2.2.2.2.2.2.2.2.2.2.2.1))))))))
    have k_xSB : xSB W := by
      rw [hW]
      exact (uxSB rfl (uxSB rfl (uxSB rfl (uxSB rfl (uxSB rfl (uxSB rfl (uxSB rfl (uxSB rfl hI.2.2.2.2.2.2.2.2.2.2.2.2.2.2.2.2.2.2.2.2.2.2.2.2.2.2.2.2.2.2.2.2.2.1))))))))
    have k_xSC : xSC W := by
      rw [hW]
      exact (uxSC rfl (uxSC rfl (uxSC rfl (uxSC rfl (uxSC rfl (uxSC rfl (uxSC rfl (uxSC rfl hI.2.2.2.2.2.2.2.2.2.2.2.2.2.2.2.2.2.2.2.2.2.2.2.2.2.2.2.2.2.2.2.2.2.2.1))))))))
    have k_xSD : xSD W := by
      have r91_240 : W 91 240 = 1 * ρ 0 + 0 := by rw [hW, sU_ne (fun z => by omega), sU_ne (fun z => by omega), sU_ne (fun z => by omega), sU_ne (fun z => by omega), sU_ne (fun z => by omega), sU_ne (fun z => by omega), sU_ne (fun z => by omega), sU_at]
      have r91_241 : W 91 241 = 1 * ρ 6 + 0 := by rw [hW, sU_ne (fun z => by omega), sU_ne (fun z => by omega), sU_ne (fun z => by omega), sU_ne (fun z => by omega), sU_ne (fun z => by omega), sU_ne (fun z => by omega), sU_at]
      have r91_242 : W 91 242 = 10 * ρ 0 + 0 := by rw [hW, sU_ne (fun z => by omega), sU_ne (fun z => by omega), sU_ne (fun z => by omega), sU_ne (fun z => by omega), sU_ne (fun z => by omega), sU_at]
      have r91_243 : W 91 243 = 1024 * ρ 6 + 0 := by rw [hW, sU_ne (fun z => by omega), sU_ne (fun z => by omega), sU_ne (fun z => by omega), sU_ne (fun z => by omega), sU_at]
      have r91_244 : W 91 244 = 1 * ρ 4 + (1024 * ρ 6 + 0) := by rw [hW, sU_ne (fun z => by omega), sU_ne (fun z => by omega), sU_at]
      have r91_245 : W 91 245 = 0 := by rw [hW, sU_ne (fun z => by omega), sU_at]
      have r91_246 : W 91 246 = 1 * ρ 4 + 0 := by rw [hW, sU_ne (fun z => by omega), sU_ne (fun z => by omega), sU_ne (fun z => by omega), sU_at]
      have r91_247 : W 91 247 = 1024 * ρ 6 + 0 := by rw [hW, sU_at]
      intro h
      rw [r91_241, r91_242, r91_243, r91_244, r91_245, r91_246, r91_247]
      have hs := xsh_3 (l := ρ 6) (by omega) (by omega)
      have hz : xop 4 (1 * ρ 6 + 0) (10 * ρ 0 + 0) = 1024 * ρ 6 + 0 := by
        rw [h0, show ((10 : Int) * 1 + 0) = 10 from rfl]; rw [show (1 * ρ 6 + 0 : Int) = ρ 6 by omega, hs]; omega
      refine ⟨hz.symm, ?_, ?_⟩
      · rw [show (1 * ρ 4 + 0 : Int) = ((M 92 ((M 4 215).toNat + 0) - 96) * 1024 + (M 92 ((M 4 215).toNat + 1) - 96) * 32 + (M 92 ((M 4 215).toNat + 2) - 96) * 1) * 2 ^ 15 by omega, show (1024 * ρ 6 + 0 : Int) = 1024 * ρ 6 by omega, xor_add (by omega) (by omega) (by omega) (by omega)]
        omega
      · rw [show (1024 * ρ 6 + 0 : Int) = 1024 * ρ 6 by omega]
        exact xor_0 (by omega) (by omega)
    have k_xSE : xSE W := by
      have r : W 91 249 = 0 := by
        have e := m7
        rw [hW, sU_ne (fun z => by omega), sU_ne (fun z => by omega), sU_ne (fun z => by omega), sU_ne (fun z => by omega), sU_ne (fun z => by omega), sU_ne (fun z => by omega), sU_ne (fun z => by omega), sU_ne (fun z => by omega)]
        omega
      intro h
      rw [r] at h
      omega
    have k_xSW : xSW W := by
      rw [hW]
      exact (uxSW rfl (uxSW rfl (uxSW rfl (uxSW rfl (uxSW rfl (uxSW rfl (uxSW rfl (uxSW rfl hI.2.2.2.2.2.2.2.2.2.2.2.2.2.2.2.2.2.2.2.2.2.2.2.2.2.2.2.2.2.2.2.2.2.2.2.2.2.1))))))))
    have k_xST : xST W := by
      rw [hW]
      exact (uxST rfl (uxST rfl (uxST rfl (uxST rfl (uxST rfl (uxST rfl (uxST rfl (uxST rfl hI.2.2.2.2.2.2.2.2.2.2.2.2.2.2.2.2.2.2.2.2.2.2.2.2.2.2.2.2.2.2.2.2.2.2.2.2.2.2.1))))))))
    have k_xSP : xSP W := by
      rw [hW]
      exact (uxSP rfl (uxSP rfl (uxSP rfl (uxSP rfl (uxSP rfl (uxSP rfl (uxSP rfl (uxSP rfl hI.2.2.2.2.2.2.2.2.2.2.2.2.2.2.2.2.2.2.2.2.2.2.2.2.2.2.2.2.2.2.2.2.2.2.2.2.2.2.2.1))))))))
    have k_xSL : xSL W := by
      rw [hW]
      exact (uxSL rfl (uxSL rfl (uxSL rfl (uxSL rfl (uxSL rfl (uxSL rfl (uxSL rfl (uxSL rfl hI.2.2.2.2.2.2.2.2.2.2.2.2.2.2.2.2.2.2.2.2.2.2.2.2.2.2.2.2.2.2.2.2.2.2.2.2.2.2.2.2.1))))))))
    have k_xSM : xSM W := by
      rw [hW]
      exact (uxSM rfl (uxSM rfl (uxSM rfl (uxSM rfl (uxSM rfl (uxSM rfl (uxSM rfl (uxSM rfl hI.2.2.2.2.2.2.2.2.2.2.2.2.2.2.2.2.2.2.2.2.2.2.2.2.2.2.2.2.2.2.2.2.2.2.2.2.2.2.2.2.2.1))))))))
    have k_xSI : xSI W := by
      rw [hW]
      exact (uxSI rfl (uxSI rfl (uxSI rfl (uxSI rfl (uxSI rfl (uxSI rfl (uxSI rfl (uxSI rfl hI.2.2.2.2.2.2.2.2.2.2.2.2.2.2.2.2.2.2.2.2.2.2.2.2.2.2.2.2.2.2.2.2.2.2.2.2.2.2.2.2.2.2))))))))
    have k_XC : XC W := ⟨k_xS1, k_xS2, k_xS3, k_xS4, k_xS5, k_xS6, k_xS7, k_xS8, k_xS9, k_xSA, k_xSG, k_xSF, k_xSB, k_xSC, k_xSD, k_xSE, k_xSW, k_xST, k_xSP, k_xSL, k_xSM, k_xSI⟩
    have kXB : XB W := ⟨k_xN1, k_xN2, k_xN3, k_xN4, k_xN5, k_xN6, k_xH1, k_xK1, k_xC1, k_xRW, k_xWT, k_xCU, k_xG2, k_xG3, k_xG4, k_xG5, k_xG6, k_XC⟩
    exact ⟨base, k2, k3, kXA, kXB⟩
-- mkPack4
def xr_246 : qRu := (7, [[(-4, 0), (-1, 1), (1, 2)], [(4, 0), (1, 1), (-1, 2)], [(-1, 0), (1, 6)], [(26, 0), (-1, 6)]], [(4, 214, [(1, 0)]), (4, 215, [(1, 1)]), (4, 216, [(1, 2)]), (4, 217, [(1, 3)]), (4, 101, [(1, 5)]), (4, 235, [(1, 0)]), (4, 218, [(1, 4)]), (91, 249, [])], [], [(91, 240, [(1, 0)]), (91, 241, [(1, 6)]), (91, 242, [(5, 0)]), (91, 243, [(32, 6)]), (91, 246, [(1, 4)]), (91, 244, [(1, 4), (32, 6)]), (91, 245, []), (91, 247, [(32, 6)])], [])
theorem xo_246 : qRok xr_246 := by
  intro ρ M h0 hf hm hI
  have f0 := hf [(-4, 0), (-1, 1), (1, 2)] (by decide)
  have f1 := hf [(4, 0), (1, 1), (-1, 2)] (by decide)
  have f2 := hf [(-1, 0), (1, 6)] (by decide)
  have f3 := hf [(26, 0), (-1, 6)] (by decide)
  simp only [qD, h0] at f0 f1 f2 f3
  have m0 : M 4 214 = 1 * ρ 0 + 0 := hm (4, 214, [(1, 0)]) (by decide)
  have m1 : M 4 215 = 1 * ρ 1 + 0 := hm (4, 215, [(1, 1)]) (by decide)
  have m2 : M 4 216 = 1 * ρ 2 + 0 := hm (4, 216, [(1, 2)]) (by decide)
  have m3 : M 4 217 = 1 * ρ 3 + 0 := hm (4, 217, [(1, 3)]) (by decide)
  have m4 : M 4 101 = 1 * ρ 5 + 0 := hm (4, 101, [(1, 5)]) (by decide)
  have m5 : M 4 235 = 1 * ρ 0 + 0 := hm (4, 235, [(1, 0)]) (by decide)
  have m6 : M 4 218 = 1 * ρ 4 + 0 := hm (4, 218, [(1, 4)]) (by decide)
  have m7 : M 91 249 = 0 := hm (91, 249, []) (by decide)
  simp only [h0] at m0 m5
  have qxSD := hI.2.2.2.2.2.2.2.2.2.2.2.2.2.2.2.2.2.2.2.2.2.2.2.2.2.2.2.2.2.2.2.2.2.2.2.1
  obtain ⟨u1, u2, u3, u4, u5, u6, u7⟩ := gx_xSA hI (by omega)

  have g1 := gx_xSG hI (by omega)
  rw [show (M 4 216 - M 4 215).toNat = 4 by omega] at g1
  have g2 : M 4 218 = ((((0 + (M 92 ((M 4 215).toNat + 0) - 96) * 33554432) + (M 92 ((M 4 215).toNat + 1) - 96) * 1048576) + (M 92 ((M 4 215).toNat + 2) - 96) * 32768) + (M 92 ((M 4 215).toNat + 3) - 96) * 1024) := g1
  have hl : ∀ i, i < 4 → 97 ≤ M 92 ((M 4 215).toNat + i) ∧ M 92 ((M 4 215).toNat + i) ≤ 122 := fun i hi => ten_all (n := (M 4 101).toNat) (q := (M 4 215).toNat) (by omega) (by omega)

  have d0 := hl 0 (by omega)

  have d1 := hl 1 (by omega)

  have d2 := hl 2 (by omega)

  have d3 := hl 3 (by omega)
  refine ⟨ρ, fun _ _ => rfl, fun f h => ?_, ?_⟩
  · exact nomatch h
  · show sI (sU (sU (sU (sU (sU (sU (sU (sU M 91 240 (1 * ρ 0 + 0)) 91 241 (1 * ρ 6 + 0)) 91 242 (5 * ρ 0 + 0)) 91 243 (32 * ρ 6 + 0)) 91 246 (1 * ρ 4 + 0)) 91 244 (1 * ρ 4 + (32 * ρ 6 + 0))) 91 245 (0)) 91 247 (32 * ρ 6 + 0))
    obtain ⟨W, hW⟩ : ∃ W, W = (sU (sU (sU (sU (sU (sU (sU (sU M 91 240 (1 * ρ 0 + 0)) 91 241 (1 * ρ 6 + 0)) 91 242 (5 * ρ 0 + 0)) 91 243 (32 * ρ 6 + 0)) 91 246 (1 * ρ 4 + 0)) 91 244 (1 * ρ 4 + (32 * ρ 6 + 0))) 91 245 (0)) 91 247 (32 * ρ 6 + 0)) := ⟨_, rfl⟩
    rw [← hW]
    have base : sI0 W := by
      rw [hW]
      exact (si_u0 (si_u0 (si_u0 (si_u0 (si_u0 (si_u0 (si_u0 (si_u0 hI.1 (fun r hr => by cases hr)) (fun r hr => by cases hr)) (fun r hr => by cases hr)) (fun r hr => by cases hr)) (fun r hr => by cases hr)) (fun r hr => by cases hr)) (fun r hr => by cases hr)) (fun r hr => by cases hr))
    have k2 : XI2 W := by
      rw [hW]
      exact (xi2_u rfl (xi2_u rfl (xi2_u rfl (xi2_u rfl (xi2_u rfl (xi2_u rfl (xi2_u rfl (xi2_u rfl hI.2.1))))))))
    have k3 : XI3 W := by
      rw [hW]
      exact (xi3_u rfl (xi3_u rfl (xi3_u rfl (xi3_u rfl (xi3_u rfl (xi3_u rfl (xi3_u rfl (xi3_u rfl hI.2.2.1))))))))
    have kXA : XA W := by
      rw [hW]
      exact (uXA rfl (uXA rfl (uXA rfl (uXA rfl (uXA rfl (uXA rfl (uXA rfl (uXA rfl hI.2.2.2.1))))))))
    have k_xN1 : xN1 W := by
      rw [hW]
      exact (uxN1 rfl (uxN1 rfl (uxN1 rfl (uxN1 rfl (uxN1 rfl (uxN1 rfl (uxN1 rfl (uxN1 rfl hI.2.2.2.2.1))))))))
    have k_xN2 : xN2 W := by
      rw [hW]
      exact (uxN2 rfl (uxN2 rfl (uxN2 rfl (uxN2 rfl (uxN2 rfl (uxN2 rfl (uxN2 rfl (uxN2 rfl hI.2.2.2.2.2.1))))))))
    have k_xN3 : xN3 W := by
      rw [hW]
      exact (uxN3 rfl (uxN3 rfl (uxN3 rfl (uxN3 rfl (uxN3 rfl (uxN3 rfl (uxN3 rfl (uxN3 rfl hI.2.2.2.2.2.2.1))))))))
    have k_xN4 : xN4 W := by
      rw [hW]
      exact (uxN4 rfl (uxN4 rfl (uxN4 rfl (uxN4 rfl (uxN4 rfl (uxN4 rfl (uxN4 rfl (uxN4 rfl hI.2.2.2.2.2.2.2.1))))))))
    have k_xN5 : xN5 W := by
      rw [hW]
      exact (uxN5 rfl (uxN5 rfl (uxN5 rfl (uxN5 rfl (uxN5 rfl (uxN5 rfl (uxN5 rfl (uxN5 rfl hI.2.2.2.2.2.2.2.2.1))))))))
    have k_xN6 : xN6 W := by
      rw [hW]
      exact (uxN6 rfl (uxN6 rfl (uxN6 rfl (uxN6 rfl (uxN6 rfl (uxN6 rfl (uxN6 rfl (uxN6 rfl hI.2.2.2.2.2.2.2.2.2.1))))))))
    have k_xH1 : xH1 W := by
      rw [hW]
      exact (uxH1 rfl (uxH1 rfl (uxH1 rfl (uxH1 rfl (uxH1 rfl (uxH1 rfl (uxH1 rfl (uxH1 rfl hI.2.2.2.2.2.2.2.2.2.2.1))))))))
    have k_xK1 : xK1 W := by
      rw [hW]
      exact (uxK1 rfl (uxK1 rfl (uxK1 rfl (uxK1 rfl (uxK1 rfl (uxK1 rfl (uxK1 rfl (uxK1 rfl hI.2.2.2.2.2.2.2.2.2.2.2.1))))))))
    have k_xC1 : xC1 W := by
      rw [hW]
      exact (uxC1 rfl (uxC1 rfl (uxC1 rfl (uxC1 rfl (uxC1 rfl (uxC1 rfl (uxC1 rfl (uxC1 rfl hI.2.2.2.2.2.2.2.2.2.2.2.2.1))))))))
    have k_xRW : xRW W := by
      rw [hW]
      exact (uxRW rfl (uxRW rfl (uxRW rfl (uxRW rfl (uxRW rfl (uxRW rfl (uxRW rfl (uxRW rfl hI.2.2.2.2.2.2.2.2.2.2.2.2.2.1))))))))
    have k_xWT : xWT W := by
      rw [hW]
      exact (uxWT rfl (uxWT rfl (uxWT rfl (uxWT rfl (uxWT rfl (uxWT rfl (uxWT rfl (uxWT rfl hI.2.2.2.2.2.2.2.2.2.2.2.2.2.2.1))))))))
    have k_xCU : xCU W := by
      rw [hW]
      exact (uxCU rfl (uxCU rfl (uxCU rfl (uxCU rfl (uxCU rfl (uxCU rfl (uxCU rfl (uxCU rfl hI.2.2.2.2.2.2.2.2.2.2.2.2.2.2.2.1))))))))
    have k_xG2 : xG2 W := by
      rw [hW]
      exact (uxG2 rfl (uxG2 rfl (uxG2 rfl (uxG2 rfl (uxG2 rfl (uxG2 rfl (uxG2 rfl (uxG2 rfl hI.2.2.2.2.2.2.2.2.2.2.2.2.2.2.2.2.1))))))))
    have k_xG3 : xG3 W := by
      rw [hW]
      exact (uxG3 rfl (uxG3 rfl (uxG3 rfl (uxG3 rfl (uxG3 rfl (uxG3 rfl (uxG3 rfl (uxG3 rfl hI.2.2.2.2.2.2.2.2.2.2.2.2.2.2.2.2.2.1))))))))
    have k_xG4 : xG4 W := by
      rw [hW]
      exact (uxG4 rfl (uxG4 rfl (uxG4 rfl (uxG4 rfl (uxG4 rfl (uxG4 rfl (uxG4 rfl (uxG4 rfl hI.2.2.2.2.2.2.2.2.2.2.2.2.2.2.2.2.2.2.1))))))))
    have k_xG5 : xG5 W := by
      rw [hW]
      exact (uxG5 rfl (uxG5 rfl (uxG5 rfl (uxG5 rfl (uxG5 rfl (uxG5 rfl (uxG5 rfl (uxG5 rfl hI.2.2.2.2.2.2.2.2.2.2.2.2.2.2.2.2.2.2.2.1))))))))
    have k_xG6 : xG6 W := by
      rw [hW]
      exact (uxG6 rfl (uxG6 rfl (uxG6 rfl (uxG6 rfl (uxG6 rfl (uxG6 rfl (uxG6 rfl (uxG6 rfl hI.2.2.2.2.2.2.2.2.2.2.2.2.2.2.2.2.2.2.2.2.1))))))))
    have k_xS1 : xS1 W := by
      rw [hW]
      exact (uxS1 rfl (uxS1 rfl (uxS1 rfl (uxS1 rfl (uxS1 rfl (uxS1 rfl (uxS1 rfl (uxS1 rfl hI.2.2.2.2.2.2.2.2.2.2.2.2.2.2.2.2.2.2.2.2.2.1))))))))
    have k_xS2 : xS2 W := by
      rw [hW]
      exact (uxS2 rfl (uxS2 rfl (uxS2 rfl (uxS2 rfl (uxS2 rfl (uxS2 rfl (uxS2 rfl (uxS2 rfl hI.2.2.2.2.2.2.2.2.2.2.2.2.2.2.2.2.2.2.2.2.2.2.1))))))))
    have k_xS3 : xS3 W := by
      rw [hW]
      exact (uxS3 rfl (uxS3 rfl (uxS3 rfl (uxS3 rfl (uxS3 rfl (uxS3 rfl (uxS3 rfl (uxS3 rfl hI.2.2.2.2.2.2.2.2.2.2.2.2.2.2.2.2.2.2.2.2.2.2.2.1))))))))
    have k_xS4 : xS4 W := by
      rw [hW]
      exact (uxS4 rfl (uxS4 rfl (uxS4 rfl (uxS4 rfl (uxS4 rfl (uxS4 rfl (uxS4 rfl (uxS4 rfl hI.2.2.2.2.2.2.2.2.2.2.2.2.2.2.2.2.2.2.2.2.2.2.2.2.1))))))))
    have k_xS5 : xS5 W := by
      rw [hW]
      exact (uxS5 rfl (uxS5 rfl (uxS5 rfl (uxS5 rfl (uxS5 rfl (uxS5 rfl (uxS5 rfl (uxS5 rfl hI.2.2.2.2.2.2.2.2.2.2.2.2.2.2.2.2.2.2.2.2.2.2.2.2.2.1))))))))
    have k_xS6 : xS6 W := by
      rw [hW]
      exact (uxS6 rfl (uxS6 rfl (uxS6 rfl (uxS6 rfl (uxS6 rfl (uxS6 rfl (uxS6 rfl (uxS6 rfl hI.2.2.2.2.2.2.2.2.2.2.2.2.2.2.2.2.2.2.2.2.2.2.2.2.2.2.1))))))))
    have k_xS7 : xS7 W := by
      rw [hW]
      exact (uxS7 rfl (uxS7 rfl (uxS7 rfl (uxS7 rfl (uxS7 rfl (uxS7 rfl (uxS7 rfl (uxS7 rfl hI.2.2.2.2.2.2.2.2.2.2.2.2.2.2.2.2.2.2.2.2.2.2.2.2.2.2.2.1))))))))
    have k_xS8 : xS8 W := by
      rw [hW]
      exact (uxS8 rfl (uxS8 rfl (uxS8 rfl (uxS8 rfl (uxS8 rfl (uxS8 rfl (uxS8 rfl (uxS8 rfl hI.2.2.2.2.2.2.2.2.2.2.2.2.2.2.2.2.2.2.2.2.2.2.2.2.2.2.2.2.1))))))))
    have k_xS9 : xS9 W := by
      rw [hW]
      exact (uxS9 rfl (uxS9 rfl (uxS9 rfl (uxS9 rfl (uxS9 rfl (uxS9 rfl (uxS9 rfl (uxS9 rfl hI.2.2.2.2.2.2.2.2.2.2.2.2.2.2.2.2.2.2.2.2.2.2.2.2.2.2.2.2.2.1))))))))
    have k_xSA : xSA W := by
      rw [hW]
      exact (uxSA rfl (uxSA rfl (uxSA rfl (uxSA rfl (uxSA rfl (uxSA rfl (uxSA rfl (uxSA rfl hI.2.2.2.2.2.2.2.2.2.2.2.2.2.2.2.2.2.2.2.2.2.2.2.2.2.2.2.2.2.2.1))))))))
    have k_xSG : xSG W := by
      rw [hW]
      exact (uxSG rfl (uxSG rfl (uxSG rfl (uxSG rfl (uxSG rfl (uxSG rfl (uxSG rfl (uxSG rfl hI.2.2.2.2.2.2.2.2.2.2.2.2.2.2.2.2.2.2.2.2.2.2.2.2.2.2.2.2.2.2.2.1))))))))
    have k_xSF : xSF W := by
      rw [hW]
      exact (uxSF rfl (uxSF rfl (uxSF rfl (uxSF rfl (uxSF rfl (uxSF rfl (uxSF rfl (uxSF rfl hI.2.2.2.2.2.2.2.2.2.2.2.2.2.2.2.2.2.2.2.2.2.2.2.2.2.2.2.2.2.2.2.2.1))))))))
    have k_xSB : xSB W := by
      rw [hW]
      exact (uxSB rfl (uxSB rfl (uxSB rfl (uxSB rfl (uxSB rfl (uxSB rfl (uxSB rfl (uxSB rfl hI.2.2.2.2.2.2.2.2.2.2.2.2.2.2.2.2.2.2.2.2.2.2.2.2.2.2.2.2.2.2.2.2.2.1))))))))
    have k_xSC : xSC W := by
      rw [hW]
      exact (uxSC rfl (uxSC rfl (uxSC rfl (uxSC rfl (uxSC rfl (uxSC rfl (uxSC rfl (uxSC rfl hI.2.2.2.2.2.2.2.2.2.2.2.2.2.2.2.2.2.2.2.2.2.2.2.2.2.2.2.2.2.2.2.2.2.2.1))))))))
    have k_xSD : xSD W := by
      have r91_240 : W 91 240 = 1 * ρ 0 + 0 := by rw [hW, sU_ne (fun z => by omega), sU_ne (fun z => by omega), sU_ne (fun z => by omega), sU_ne (fun z => by omega), sU_ne (fun z => by omega), sU_ne (fun z => by omega), sU_ne (fun z => by omega), sU_at]
      have r91_241 : W 91 241 = 1 * ρ 6 + 0 := by rw [hW, sU_ne (fun z => by omega), sU_ne (fun z => by omega), sU_ne (fun z => by omega), sU_ne (fun z => by omega), sU_ne (fun z => by omega), sU_ne (fun z => by omega), sU_at]
      have r91_242 : W 91 242 = 5 * ρ 0 + 0 := by rw [hW, sU_ne (fun z => by omega), sU_ne (fun z => by omega), sU_ne (fun z => by omega), sU_ne (fun z => by omega), sU_ne (fun z => by omega), sU_at]
      have r91_243 : W 91 243 = 32 * ρ 6 + 0 := by rw [hW, sU_ne (fun z => by omega), sU_ne (fun z => by omega), sU_ne (fun z => by omega), sU_ne (fun z => by omega), sU_at]
      have r91_244 : W 91 244 = 1 * ρ 4 + (32 * ρ 6 + 0) := by rw [hW, sU_ne (fun z => by omega), sU_ne (fun z => by omega), sU_at]
      have r91_245 : W 91 245 = 0 := by rw [hW, sU_ne (fun z => by omega), sU_at]
      have r91_246 : W 91 246 = 1 * ρ 4 + 0 := by rw [hW, sU_ne (fun z => by omega), sU_ne (fun z => by omega), sU_ne (fun z => by omega), sU_at]
      have r91_247 : W 91 247 = 32 * ρ 6 + 0 := by rw [hW, sU_at]
      intro h
      rw [r91_241, r91_242, r91_243, r91_244, r91_245, r91_246, r91_247]
      have hs := xsh_4 (l := ρ 6) (by omega) (by omega)
      have hz : xop 4 (1 * ρ 6 + 0) (5 * ρ 0 + 0) = 32 * ρ 6 + 0 := by
        rw [h0, show ((5 : Int) * 1 + 0) = 5 from rfl]; rw [show (1 * ρ 6 + 0 : Int) = ρ 6 by omega, hs]; omega
      refine ⟨hz.symm, ?_, ?_⟩
      · rw [show (1 * ρ 4 + 0 : Int) = ((M 92 ((M 4 215).toNat + 0) - 96) * 32768 + (M 92 ((M 4 215).toNat + 1) - 96) * 1024 + (M 92 ((M 4 215).toNat + 2) - 96) * 32 + (M 92 ((M 4 215).toNat + 3) - 96) * 1) * 2 ^ 10 by omega, show (32 * ρ 6 + 0 : Int) = 32 * ρ 6 by omega, xor_add (by omega) (by omega) (by omega) (by omega)]
        omega
      · rw [show (32 * ρ 6 + 0 : Int) = 32 * ρ 6 by omega]
        exact xor_0 (by omega) (by omega)
    have k_xSE : xSE W := by
      have r : W 91 249 = 0 := by
        have e := m7
        rw [hW, sU_ne (fun z => by omega), sU_ne (fun z => by omega), sU_ne (fun z => by omega), sU_ne (fun z => by omega), sU_ne (fun z => by omega), sU_ne (fun z => by omega), sU_ne (fun z => by omega), sU_ne (fun z => by omega)]
        omega
      intro h
      rw [r] at h
      omega
    have k_xSW : xSW W := by
      rw [hW]
      exact (uxSW rfl (uxSW rfl (uxSW rfl (uxSW rfl (uxSW rfl (uxSW rfl (uxSW rfl (uxSW rfl hI.2.2.2.2.2.2.2.2.2.2.2.2.2.2.2.2.2.2.2.2.2.2.2.2.2.2.2.2.2.2.2.2.2.2.2.2.2.1))))))))
    have k_xST : xST W := by
      rw [hW]
      exact (uxST rfl (uxST rfl (uxST rfl (uxST rfl (uxST rfl (uxST rfl (uxST rfl (uxST rfl hI.2.2.2.2.2.2.2.2.2.2.2.2.2.2.2.2.2.2.2.2.2.2.2.2.2.2.2.2.2.2.2.2.2.2.2.2.2.2.1))))))))
    have k_xSP : xSP W := by
      rw [hW]
      exact (uxSP rfl (uxSP rfl (uxSP rfl (uxSP rfl (uxSP rfl (uxSP rfl (uxSP rfl (uxSP rfl hI.2.2.2.2.2.2.2.2.2.2.2.2.2.2.2.2.2.2.2.2.2.2.2.2.2.2.2.2.2.2.2.2.2.2.2.2.2.2.2.1))))))))
    have k_xSL : xSL W := by
      rw [hW]
      exact (uxSL rfl (uxSL rfl (uxSL rfl (uxSL rfl (uxSL rfl (uxSL rfl (uxSL rfl (uxSL rfl hI.2.2.2.2.2.2.2.2.2.2.2.2.2.2.2.2.2.2.2.2.2.2.2.2.2.2.2.2.2.2.2.2.2.2.2.2.2.2.2.2.1))))))))
    have k_xSM : xSM W := by
      rw [hW]
      exact (uxSM rfl (uxSM rfl (uxSM rfl (uxSM rfl (uxSM rfl (uxSM rfl (uxSM rfl (uxSM rfl hI.2.2.2.2.2.2.2.2.2.2.2.2.2.2.2.2.2.2.2.2.2.2.2.2.2.2.2.2.2.2.2.2.2.2.2.2.2.2.2.2.2.1))))))))
    have k_xSI : xSI W := by
      rw [hW]
      exact (uxSI rfl (uxSI rfl (uxSI rfl (uxSI rfl (uxSI rfl (uxSI rfl (uxSI rfl (uxSI rfl hI.2.2.2.2.2.2.2.2.2.2.2.2.2.2.2.2.2.2.2.2.2.2.2.2.2.2.2.2.2.2.2.2.2.2.2.2.2.2.2.2.2.2))))))))
    have k_XC : XC W := ⟨k_xS1, k_xS2, k_xS3, k_xS4, k_xS5, k_xS6, k_xS7, k_xS8, k_xS9, k_xSA, k_xSG, k_xSF, k_xSB, k_xSC, k_xSD, k_xSE, k_xSW, k_xST, k_xSP, k_xSL, k_xSM, k_xSI⟩
    have kXB : XB W := ⟨k_xN1, k_xN2, k_xN3, k_xN4, k_xN5, k_xN6, k_xH1, k_xK1, k_xC1, k_xRW, k_xWT, k_xCU, k_xG2, k_xG3, k_xG4, k_xG5, k_xG6, k_XC⟩
    exact ⟨base, k2, k3, kXA, kXB⟩
-- mkPack5
def xr_247 : qRu := (7, [[(-5, 0), (-1, 1), (1, 2)], [(5, 0), (1, 1), (-1, 2)], [(-1, 0), (1, 6)], [(26, 0), (-1, 6)]], [(4, 214, [(1, 0)]), (4, 215, [(1, 1)]), (4, 216, [(1, 2)]), (4, 217, [(1, 3)]), (4, 101, [(1, 5)]), (4, 235, [(1, 0)]), (4, 218, [(1, 4)]), (91, 249, [])], [], [(91, 240, [(1, 0)]), (91, 241, [(1, 6)]), (91, 242, []), (91, 243, [(1, 6)]), (91, 246, [(1, 4)]), (91, 244, [(1, 4), (1, 6)]), (91, 245, []), (91, 247, [(1, 6)])], [])
theorem xo_247 : qRok xr_247 := by
  intro ρ M h0 hf hm hI
  have f0 := hf [(-5, 0), (-1, 1), (1, 2)] (by decide)
  have f1 := hf [(5, 0), (1, 1), (-1, 2)] (by decide)
  have f2 := hf [(-1, 0), (1, 6)] (by decide)
  have f3 := hf [(26, 0), (-1, 6)] (by decide)
  simp only [qD, h0] at f0 f1 f2 f3
  have m0 : M 4 214 = 1 * ρ 0 + 0 := hm (4, 214, [(1, 0)]) (by decide)
  have m1 : M 4 215 = 1 * ρ 1 + 0 := hm (4, 215, [(1, 1)]) (by decide)
  have m2 : M 4 216 = 1 * ρ 2 + 0 := hm (4, 216, [(1, 2)]) (by decide)
  have m3 : M 4 217 = 1 * ρ 3 + 0 := hm (4, 217, [(1, 3)]) (by decide)
  have m4 : M 4 101 = 1 * ρ 5 + 0 := hm (4, 101, [(1, 5)]) (by decide)
  have m5 : M 4 235 = 1 * ρ 0 + 0 := hm (4, 235, [(1, 0)]) (by decide)
  have m6 : M 4 218 = 1 * ρ 4 + 0 := hm (4, 218, [(1, 4)]) (by decide)
  have m7 : M 91 249 = 0 := hm (91, 249, []) (by decide)
  simp only [h0] at m0 m5
  have qxSD := hI.2.2.2.2.2.2.2.2.2.2.2.2.2.2.2.2.2.2.2.2.2.2.2.2.2.2.2.2.2.2.2.2.2.2.2.1
  obtain ⟨u1, u2, u3, u4, u5, u6, u7⟩ := gx_xSA hI (by omega)

  have g1 := gx_xSG hI (by omega)
  rw [show (M 4 216 - M 4 215).toNat = 5 by omega] at g1
  have g2 : M 4 218 = (((((0 + (M 92 ((M 4 215).toNat + 0) - 96) * 33554432) + (M 92 ((M 4 215).toNat + 1) - 96) * 1048576) + (M 92 ((M 4 215).toNat + 2) - 96) * 32768) + (M 92 ((M 4 215).toNat + 3) - 96) * 1024) + (M 92 ((M 4 215).toNat + 4) - 96) * 32) := g1
  have hl : ∀ i, i < 5 → 97 ≤ M 92 ((M 4 215).toNat + i) ∧ M 92 ((M 4 215).toNat + i) ≤ 122 := fun i hi => ten_all (n := (M 4 101).toNat) (q := (M 4 215).toNat) (by omega) (by omega)

  have d0 := hl 0 (by omega)

  have d1 := hl 1 (by omega)

  have d2 := hl 2 (by omega)

  have d3 := hl 3 (by omega)

  have d4 := hl 4 (by omega)
  refine ⟨ρ, fun _ _ => rfl, fun f h => ?_, ?_⟩
  · exact nomatch h
  · show sI (sU (sU (sU (sU (sU (sU (sU (sU M 91 240 (1 * ρ 0 + 0)) 91 241 (1 * ρ 6 + 0)) 91 242 (0)) 91 243 (1 * ρ 6 + 0)) 91 246 (1 * ρ 4 + 0)) 91 244 (1 * ρ 4 + (1 * ρ 6 + 0))) 91 245 (0)) 91 247 (1 * ρ 6 + 0))
    obtain ⟨W, hW⟩ : ∃ W, W = (sU (sU (sU (sU (sU (sU (sU (sU M 91 240 (1 * ρ 0 + 0)) 91 241 (1 * ρ 6 + 0)) 91 242 (0)) 91 243 (1 * ρ 6 + 0)) 91 246 (1 * ρ 4 + 0)) 91 244 (1 * ρ 4 + (1 * ρ 6 + 0))) 91 245 (0)) 91 247 (1 * ρ 6 + 0)) := ⟨_, rfl⟩
    rw [← hW]
    have base : sI0 W := by
      rw [hW]
      exact (si_u0 (si_u0 (si_u0 (si_u0 (si_u0 (si_u0 (si_u0 (si_u0 hI.1 (fun r hr => by cases hr)) (fun r hr => by cases hr)) (fun r hr => by cases hr)) (fun r hr => by cases hr)) (fun r hr => by cases hr)) (fun r hr => by cases hr)) (fun r hr => by cases hr)) (fun r hr => by cases hr))
    have k2 : XI2 W := by
      rw [hW]
      exact (xi2_u rfl (xi2_u rfl (xi2_u rfl (xi2_u rfl (xi2_u rfl (xi2_u rfl (xi2_u rfl (xi2_u rfl hI.2.1))))))))
    have k3 : XI3 W := by
      rw [hW]
      exact (xi3_u rfl (xi3_u rfl (xi3_u rfl (xi3_u rfl (xi3_u rfl (xi3_u rfl (xi3_u rfl (xi3_u rfl hI.2.2.1))))))))
    have kXA : XA W := by
      rw [hW]
      exact (uXA rfl (uXA rfl (uXA rfl (uXA rfl (uXA rfl (uXA rfl (uXA rfl (uXA rfl hI.2.2.2.1))))))))
    have k_xN1 : xN1 W := by
      rw [hW]
      exact (uxN1 rfl (uxN1 rfl (uxN1 rfl (uxN1 rfl (uxN1 rfl (uxN1 rfl (uxN1 rfl (uxN1 rfl hI.2.2.2.2.1))))))))
    have k_xN2 : xN2 W := by
      rw [hW]
      exact (uxN2 rfl (uxN2 rfl (uxN2 rfl (uxN2 rfl (uxN2 rfl (uxN2 rfl (uxN2 rfl (uxN2 rfl hI.2.2.2.2.2.1))))))))
    have k_xN3 : xN3 W := by
      rw [hW]
      exact (uxN3 rfl (uxN3 rfl (uxN3 rfl (uxN3 rfl (uxN3 rfl (uxN3 rfl (uxN3 rfl (uxN3 rfl hI.2.2.2.2.2.2.1))))))))
    have k_xN4 : xN4 W := by
      rw [hW]
      exact (uxN4 rfl (uxN4 rfl (uxN4 rfl (uxN4 rfl (uxN4 rfl (uxN4 rfl (uxN4 rfl (uxN4 rfl hI.2.2.2.2.2.2.2.1))))))))
    have k_xN5 : xN5 W := by
      rw [hW]
      exact (uxN5 rfl (uxN5 rfl (uxN5 rfl (uxN5 rfl (uxN5 rfl (uxN5 rfl (uxN5 rfl (uxN5 rfl hI.2.2.2.2.2.2.2.2.1))))))))
    have k_xN6 : xN6 W := by
      rw [hW]
      exact (uxN6 rfl (uxN6 rfl (uxN6 rfl (uxN6 rfl (uxN6 rfl (uxN6 rfl (uxN6 rfl (uxN6 rfl hI.2.2.2.2.2.2.2.2.2.1))))))))
    have k_xH1 : xH1 W := by
      rw [hW]
      exact (uxH1 rfl (uxH1 rfl (uxH1 rfl (uxH1 rfl (uxH1 rfl (uxH1 rfl (uxH1 rfl (uxH1 rfl hI.2.2.2.2.2.2.2.2.2.2.1))))))))
    have k_xK1 : xK1 W := by
      rw [hW]
      exact (uxK1 rfl (uxK1 rfl (uxK1 rfl (uxK1 rfl (uxK1 rfl (uxK1 rfl (uxK1 rfl (uxK1 rfl hI.2.2.2.2.2.2.2.2.2.2.2.1))))))))
    have k_xC1 : xC1 W := by
      rw [hW]
      exact (uxC1 rfl (uxC1 rfl (uxC1 rfl (uxC1 rfl (uxC1 rfl (uxC1 rfl (uxC1 rfl (uxC1 rfl hI.2.2.2.2.2.2.2.2.2.2.2.2.1))))))))
    have k_xRW : xRW W := by
      rw [hW]
      exact (uxRW rfl (uxRW rfl (uxRW rfl (uxRW rfl (uxRW rfl (uxRW rfl (uxRW rfl (uxRW rfl hI.2.2.2.2.2.2.2.2.2.2.2.2.2.1))))))))
    have k_xWT : xWT W := by
      rw [hW]
      exact (uxWT rfl (uxWT rfl (uxWT rfl (uxWT rfl (uxWT rfl (uxWT rfl (uxWT rfl (uxWT rfl hI.2.2.2.2.2.2.2.2.2.2.2.2.2.2.1))))))))
    have k_xCU : xCU W := by
      rw [hW]
      exact (uxCU rfl (uxCU rfl (uxCU rfl (uxCU rfl (uxCU rfl (uxCU rfl (uxCU rfl (uxCU rfl hI.2.2.2.2.2.2.2.2.2.2.2.2.2.2.2.1))))))))
    have k_xG2 : xG2 W := by
      rw [hW]
      exact (uxG2 rfl (uxG2 rfl (uxG2 rfl (uxG2 rfl (uxG2 rfl (uxG2 rfl (uxG2 rfl (uxG2 rfl hI.2.2.2.2.2.2.2.2.2.2.2.2.2.2.2.2.1))))))))
    have k_xG3 : xG3 W := by
      rw [hW]
      exact (uxG3 rfl (uxG3 rfl (uxG3 rfl (uxG3 rfl (uxG3 rfl (uxG3 rfl (uxG3 rfl (uxG3 rfl hI.2.2.2.2.2.2.2.2.2.2.2.2.2.2.2.2.2.1))))))))
    have k_xG4 : xG4 W := by
      rw [hW]
      exact (uxG4 rfl (uxG4 rfl (uxG4 rfl (uxG4 rfl (uxG4 rfl (uxG4 rfl (uxG4 rfl (uxG4 rfl hI.2.2.2.2.2.2.2.2.2.2.2.2.2.2.2.2.2.2.1))))))))
    have k_xG5 : xG5 W := by
      rw [hW]
      exact (uxG5 rfl (uxG5 rfl (uxG5 rfl (uxG5 rfl (uxG5 rfl (uxG5 rfl (uxG5 rfl (uxG5 rfl hI.2.2.2.2.2.2.2.2.2.2.2.2.2.2.2.2.2.2.2.1))))))))
    have k_xG6 : xG6 W := by
      rw [hW]
      exact (uxG6 rfl (uxG6 rfl (uxG6 rfl (uxG6 rfl (uxG6 rfl (uxG6 rfl (uxG6 rfl (uxG6 rfl hI.2.2.2.2.2.2.2.2.2.2.2.2.2.2.2.2.2.2.2.2.1))))))))
    have k_xS1 : xS1 W := by
      rw [hW]
      exact (uxS1 rfl (uxS1 rfl (uxS1 rfl (uxS1 rfl (uxS1 rfl (uxS1 rfl (uxS1 rfl (uxS1 rfl hI.2.2.2.2.2.2.2.2.2.2.2.2.2.2.2.2.2.2.2.2.2.1))))))))
    have k_xS2 : xS2 W := by
      rw [hW]
      exact (uxS2 rfl (uxS2 rfl (uxS2 rfl (uxS2 rfl (uxS2 rfl (uxS2 rfl (uxS2 rfl (uxS2 rfl hI.2.2.2.2.2.2.2.2.2.2.2.2.2.2.2.2.2.2.2.2.2.2.1))))))))
    have k_xS3 : xS3 W := by
      rw [hW]
      exact (uxS3 rfl (uxS3 rfl (uxS3 rfl (uxS3 rfl (uxS3 rfl (uxS3 rfl (uxS3 rfl (uxS3 rfl hI.2.2.2.2.2.2.2.2.2.2.2.2.2.2.2.2.2.2.2.2.2.2.2.1))))))))
    have k_xS4 : xS4 W := by
      rw [hW]
      exact (uxS4 rfl (uxS4 rfl (uxS4 rfl (uxS4 rfl (uxS4 rfl (uxS4 rfl (uxS4 rfl (uxS4 rfl hI.2.2.2.2.2.2.2.2.2.2.2.2.2.2.2.2.2.2.2.2.2.2.2.2.1))))))))
    have k_xS5 : xS5 W := by
      rw [hW]
      exact (uxS5 rfl (uxS5 rfl (uxS5 rfl (uxS5 rfl (uxS5 rfl (uxS5 rfl (uxS5 rfl (uxS5 rfl hI.2.2.2.2.2.2.2.2.2.2.2.2.2.2.2.2.2.2.2.2.2.2.2.2.2.1))))))))
    have k_xS6 : xS6 W := by
      rw [hW]
      exact (uxS6 rfl (uxS6 rfl (uxS6 rfl (uxS6 rfl (uxS6 rfl (uxS6 rfl (uxS6 rfl (uxS6 rfl hI.2.2.2.2.2.2.2.2.2.2.2.2.2.2.2.2.2.2.2.2.2.2.2.2.2.2.1))))))))
    have k_xS7 : xS7 W := by
      rw [hW]
      exact (uxS7 rfl (uxS7 rfl (uxS7 rfl (uxS7 rfl (uxS7 rfl (uxS7 rfl (uxS7 rfl (uxS7 rfl hI.2.2.2.2.2.2.2.2.2.2.2.2.2.2.2.2.2.2.2.2.2.2.2.2.2.2.2.1))))))))
    have k_xS8 : xS8 W := by
      rw [hW]
      exact (uxS8 rfl (uxS8 rfl (uxS8 rfl (uxS8 rfl (uxS8 rfl (uxS8 rfl (uxS8 rfl (uxS8 rfl hI.2.2.2.2.2.2.2.2.2.2.2.2.2.2.2.2.2.2.2.2.2.2.2.2.2.2.2.2.1))))))))
    have k_xS9 : xS9 W := by
      rw [hW]
      exact (uxS9 rfl (uxS9 rfl (uxS9 rfl (uxS9 rfl (uxS9 rfl (uxS9 rfl (uxS9 rfl (uxS9 rfl hI.2.2.2.2.2.2.2.2.2.2.2.2.2.2.2.2.2.2.2.2.2.2.2.2.2.2.2.2.2.1))))))))
    have k_xSA : xSA W := by
      rw [hW]
      exact (uxSA rfl (uxSA rfl (uxSA rfl (uxSA rfl (uxSA rfl (uxSA rfl (uxSA rfl (uxSA rfl hI.2.2.2.2.2.2.2.2.2.2.2.2.2.2.2.2.2.2.2.2.2.2.2.2.2.2.2.2.2.2.1))))))))
    have k_xSG : xSG W := by
      rw [hW]
      exact (uxSG rfl (uxSG rfl (uxSG rfl (uxSG rfl (uxSG rfl (uxSG rfl (uxSG rfl (uxSG rfl hI.2.2.2.2.2.2.2.2.2.2.2.2.2.2.2.2.2.2.2.2.2.2.2.2.2.2.2.2.2.2.2.1))))))))
    have k_xSF : xSF W := by
      rw [hW]
      exact (uxSF rfl (uxSF rfl (uxSF rfl (uxSF rfl (uxSF rfl (uxSF rfl (uxSF rfl (uxSF rfl hI.2.2.2.2.2.2.2.2.2.2.2.2.2.2.2.2.2.2.2.2.2.2.2.2.2.2.2.2.2.2.2.2.1))))))))
    have k_xSB : xSB W := by
      rw [hW]
      exact (uxSB rfl (uxSB rfl (uxSB rfl (uxSB rfl (uxSB rfl (uxSB rfl (uxSB rfl (uxSB rfl hI.2.2.2.2.2.2.2.2.2.2.2.2.2.2.2.2.2.2.2.2.2.2.2.2.2.2.2.2.2.2.2.2.2.1))))))))
    have k_xSC : xSC W := by
      rw [hW]
      exact (uxSC rfl (uxSC rfl (uxSC rfl (uxSC rfl (uxSC rfl (uxSC rfl (uxSC rfl (uxSC rfl hI.2.2.2.2.2.2.2.2.2.2.2.2.2.2.2.2.2.2.2.2.2.2.2.2.2.2.2.2.2.2.2.2.2.2.1))))))))
    have k_xSD : xSD W := by
      have r91_240 : W 91 240 = 1 * ρ 0 + 0 := by rw [hW, sU_ne (fun z => by omega), sU_ne (fun z => by omega), sU_ne (fun z => by omega), sU_ne (fun z => by omega), sU_ne (fun z => by omega), sU_ne (fun z => by omega), sU_ne (fun z => by omega), sU_at]
      have r91_241 : W 91 241 = 1 * ρ 6 + 0 := by rw [hW, sU_ne (fun z => by omega), sU_ne (fun z => by omega), sU_ne (fun z => by omega), sU_ne (fun z => by omega), sU_ne (fun z => by omega), sU_ne (fun z => by omega), sU_at]
      have r91_242 : W 91 242 = 0 := by rw [hW, sU_ne (fun z => by omega), sU_ne (fun z => by omega), sU_ne (fun z => by omega), sU_ne (fun z => by omega), sU_ne (fun z => by omega), sU_at]
      have r91_243 : W 91 243 = 1 * ρ 6 + 0 := by rw [hW, sU_ne (fun z => by omega), sU_ne (fun z => by omega), sU_ne (fun z => by omega), sU_ne (fun z => by omega), sU_at]
      have r91_244 : W 91 244 = 1 * ρ 4 + (1 * ρ 6 + 0) := by rw [hW, sU_ne (fun z => by omega), sU_ne (fun z => by omega), sU_at]
      have r91_245 : W 91 245 = 0 := by rw [hW, sU_ne (fun z => by omega), sU_at]
      have r91_246 : W 91 246 = 1 * ρ 4 + 0 := by rw [hW, sU_ne (fun z => by omega), sU_ne (fun z => by omega), sU_ne (fun z => by omega), sU_at]
      have r91_247 : W 91 247 = 1 * ρ 6 + 0 := by rw [hW, sU_at]
      intro h
      rw [r91_241, r91_242, r91_243, r91_244, r91_245, r91_246, r91_247]
      have hs := xsh_5 (l := ρ 6) (by omega) (by omega)
      have hz : xop 4 (1 * ρ 6 + 0) (0) = 1 * ρ 6 + 0 := by
        rw [show (1 * ρ 6 + 0 : Int) = ρ 6 by omega, hs]; omega
      refine ⟨hz.symm, ?_, ?_⟩
      · rw [show (1 * ρ 4 + 0 : Int) = ((M 92 ((M 4 215).toNat + 0) - 96) * 1048576 + (M 92 ((M 4 215).toNat + 1) - 96) * 32768 + (M 92 ((M 4 215).toNat + 2) - 96) * 1024 + (M 92 ((M 4 215).toNat + 3) - 96) * 32 + (M 92 ((M 4 215).toNat + 4) - 96) * 1) * 2 ^ 5 by omega, show (1 * ρ 6 + 0 : Int) = 1 * ρ 6 by omega, xor_add (by omega) (by omega) (by omega) (by omega)]
        omega
      · rw [show (1 * ρ 6 + 0 : Int) = 1 * ρ 6 by omega]
        exact xor_0 (by omega) (by omega)
    have k_xSE : xSE W := by
      have r : W 91 249 = 0 := by
        have e := m7
        rw [hW, sU_ne (fun z => by omega), sU_ne (fun z => by omega), sU_ne (fun z => by omega), sU_ne (fun z => by omega), sU_ne (fun z => by omega), sU_ne (fun z => by omega), sU_ne (fun z => by omega), sU_ne (fun z => by omega)]
        omega
      intro h
      rw [r] at h
      omega
    have k_xSW : xSW W := by
      rw [hW]
      exact (uxSW rfl (uxSW rfl (uxSW rfl (uxSW rfl (uxSW rfl (uxSW rfl (uxSW rfl (uxSW rfl hI.2.2.2.2.2.2.2.2.2.2.2.2.2.2.2.2.2.2.2.2.2.2.2.2.2.2.2.2.2.2.2.2.2.2.2.2.2.1))))))))
    have k_xST : xST W := by
      rw [hW]
      exact (uxST rfl (uxST rfl (uxST rfl (uxST rfl (uxST rfl (uxST rfl (uxST rfl (uxST rfl hI.2.2.2.2.2.2.2.2.2.2.2.2.2.2.2.2.2.2.2.2.2.2.2.2.2.2.2.2.2.2.2.2.2.2.2.2.2.2.1))))))))
    have k_xSP : xSP W := by
      rw [hW]
      exact (uxSP rfl (uxSP rfl (uxSP rfl (uxSP rfl (uxSP rfl (uxSP rfl (uxSP rfl (uxSP rfl hI.2.2.2.2.2.2.2.2.2.2.2.2.2.2.2.2.2.2.2.2.2.2.2.2.2.2.2.2.2.2.2.2.2.2.2.2.2.2.2.1))))))))
    have k_xSL : xSL W := by
      rw [hW]
      exact (uxSL rfl (uxSL rfl (uxSL rfl (uxSL rfl (uxSL rfl (uxSL rfl (uxSL rfl (uxSL rfl hI.2.2.2.2.2.2.2.2.2.2.2.2.2.2.2.2.2.2.2.2.2.2.2.2.2.2.2.2.2.2.2.2.2.2.2.2.2.2.2.2.1))))))))
    have k_xSM : xSM W := by
      rw [hW]
      exact (uxSM rfl (uxSM rfl (uxSM rfl (uxSM rfl (uxSM rfl (uxSM rfl (uxSM rfl (uxSM rfl hI.2.2.2.2.2.2.2.2.2.2.2.2.2.2.2.2.2.2.2.2.2.2.2.2.2.2.2.2.2.2.2.2.2.2.2.2.2.2.2.2.2.1))))))))
    have k_xSI : xSI W := by
      rw [hW]
      exact (uxSI rfl (uxSI rfl (uxSI rfl (uxSI rfl (uxSI rfl (uxSI rfl (uxSI rfl (uxSI rfl hI.2.2.2.2.2.2.2.2.2.2.2.2.2.2.2.2.2.2.2.2.2.2.2.2.2.2.2.2.2.2.2.2.2.2.2.2.2.2.2.2.2.2))))))))
    have k_XC : XC W := ⟨k_xS1, k_xS2, k_xS3, k_xS4, k_xS5, k_xS6, k_xS7, k_xS8, k_xS9, k_xSA, k_xSG, k_xSF, k_xSB, k_xSC, k_xSD, k_xSE, k_xSW, k_xST, k_xSP, k_xSL, k_xSM, k_xSI⟩
    have kXB : XB W := ⟨k_xN1, k_xN2, k_xN3, k_xN4, k_xN5, k_xN6, k_xH1, k_xK1, k_xC1, k_xRW, k_xWT, k_xCU, k_xG2, k_xG3, k_xG4, k_xG5, k_xG6, k_XC⟩
    exact ⟨base, k2, k3, kXA, kXB⟩
-- mkOff
def xr_248 : qRu := (1, [], [], [], [(91, 240, [])], [])
theorem xo_248 : qRok xr_248 := by
  intro ρ M h0 hf hm hI
  refine ⟨ρ, fun _ _ => rfl, fun f h => ?_, ?_⟩
  · exact nomatch h
  · show sI (sU M 91 240 (0))
    obtain ⟨W, hW⟩ : ∃ W, W = (sU M 91 240 (0)) := ⟨_, rfl⟩
    rw [← hW]
    have base : sI0 W := by
      rw [hW]
      exact (si_u0 hI.1 (fun r hr => by cases hr))
    have k2 : XI2 W := by
      rw [hW]
      exact (xi2_u rfl hI.2.1)
    have k3 : XI3 W := by
      rw [hW]
      exact (xi3_u rfl hI.2.2.1)
    have kXA : XA W := by
      rw [hW]
      exact (uXA rfl hI.2.2.2.1)
    have k_xN1 : xN1 W := by
      rw [hW]
      exact (uxN1 rfl hI.2.2.2.2.1)
    have k_xN2 : xN2 W := by
      rw [hW]
      exact (uxN2 rfl hI.2.2.2.2.2.1)
    have k_xN3 : xN3 W := by
      rw [hW]
      exact (uxN3 rfl hI.2.2.2.2.2.2.1)
    have k_xN4 : xN4 W := by
      rw [hW]
      exact (uxN4 rfl hI.2.2.2.2.2.2.2.1)
    have k_xN5 : xN5 W := by
      rw [hW]
      exact (uxN5 rfl hI.2.2.2.2.2.2.2.2.1)
    have k_xN6 : xN6 W := by
      rw [hW]
      exact (uxN6 rfl hI.2.2.2.2.2.2.2.2.2.1)
    have k_xH1 : xH1 W := by
      rw [hW]
      exact (uxH1 rfl hI.2.2.2.2.2.2.2.2.2.2.1)
    have k_xK1 : xK1 W := by
      rw [hW]
      exact (uxK1 rfl hI.2.2.2.2.2.2.2.2.2.2.2.1)
    have k_xC1 : xC1 W := by
      rw [hW]
      exact (uxC1 rfl hI.2.2.2.2.2.2.2.2.2.2.2.2.1)
    have k_xRW : xRW W := by
      rw [hW]
      exact (uxRW rfl hI.2.2.2.2.2.2.2.2.2.2.2.2.2.1)
    have k_xWT : xWT W := by
      rw [hW]
      exact (uxWT rfl hI.2.2.2.2.2.2.2.2.2.2.2.2.2.2.1)
    have k_xCU : xCU W := by
      rw [hW]
      exact (uxCU rfl hI.2.2.2.2.2.2.2.2.2.2.2.2.2.2.2.1)
    have k_xG2 : xG2 W := by
      rw [hW]
      exact (uxG2 rfl hI.2.2.2.2.2.2.2.2.2.2.2.2.2.2.2.2.1)
    have k_xG3 : xG3 W := by
      rw [hW]
      exact (uxG3 rfl hI.2.2.2.2.2.2.2.2.2.2.2.2.2.2.2.2.2.1)
    have k_xG4 : xG4 W := by
      rw [hW]
      exact (uxG4 rfl hI.2.2.2.2.2.2.2.2.2.2.2.2.2.2.2.2.2.2.1)
    have k_xG5 : xG5 W := by
      rw [hW]
      exact (uxG5 rfl hI.2.2.2.2.2.2.2.2.2.2.2.2.2.2.2.2.2.2.2.1)
    have k_xG6 : xG6 W := by
      rw [hW]
      exact (uxG6 rfl hI.2.2.2.2.2.2.2.2.2.2.2.2.2.2.2.2.2.2.2.2.1)
    have k_xS1 : xS1 W := by
      rw [hW]
      exact (uxS1 rfl hI.2.2.2.2.2.2.2.2.2.2.2.2.2.2.2.2.2.2.2.2.2.1)
    have k_xS2 : xS2 W := by
      rw [hW]
      exact (uxS2 rfl hI.2.2.2.2.2.2.2.2.2.2.2.2.2.2.2.2.2.2.2.2.2.2.1)
    have k_xS3 : xS3 W := by
      rw [hW]
      exact (uxS3 rfl hI.2.2.2.2.2.2.2.2.2.2.2.2.2.2.2.2.2.2.2.2.2.2.2.1)
    have k_xS4 : xS4 W := by
      rw [hW]
      exact (uxS4 rfl hI.2.2.2.2.2.2.2.2.2.2.2.2.2.2.2.2.2.2.2.2.2.2.2.2.1)
    have k_xS5 : xS5 W := by
      rw [hW]
      exact (uxS5 rfl hI.2.2.2.2.2.2.2.2.2.2.2.2.2.2.2.2.2.2.2.2.2.2.2.2.2.1)
    have k_xS6 : xS6 W := by
      rw [hW]
      exact (uxS6 rfl hI.2.2.2.2.2.2.2.2.2.2.2.2.2.2.2.2.2.2.2.2.2.2.2.2.2.2.1)
    have k_xS7 : xS7 W := by
      rw [hW]
      exact (uxS7 rfl hI.2.2.2.2.2.2.2.2.2.2.2.2.2.2.2.2.2.2.2.2.2.2.2.2.2.2.2.1)
    have k_xS8 : xS8 W := by
      rw [hW]
      exact (uxS8 rfl hI.2.2.2.2.2.2.2.2.2.2.2.2.2.2.2.2.2.2.2.2.2.2.2.2.2.2.2.2.1)
    have k_xS9 : xS9 W := by
      rw [hW]
      exact (uxS9 rfl hI.2.2.2.2.2.2.2.2.2.2.2.2.2.2.2.2.2.2.2.2.2.2.2.2.2.2.2.2.2.1)
    have k_xSA : xSA W := by
      rw [hW]
      exact (uxSA rfl hI.2.2.2.2.2.2.2.2.2.2.2.2.2.2.2.2.2.2.2.2.2.2.2.2.2.2.2.2.2.2.1)
    have k_xSG : xSG W := by
      rw [hW]
      exact (uxSG rfl hI.2.2.2.2.2.2.2.2.2.2.2.2.2.2.2.2.2.2.2.2.2.2.2.2.2.2.2.2.2.2.2.1)
    have k_xSF : xSF W := by
      rw [hW]
      exact (uxSF rfl hI.2.2.2.2.2.2.2.2.2.2.2.2.2.2.2.2.2.2.2.2.2.2.2.2.2.2.2.2.2.2.2.2.1)
    have k_xSB : xSB W := by
      rw [hW]
      exact (uxSB rfl hI.2.2.2.2.2.2.2.2.2.2.2.2.2.2.2.2.2.2.2.2.2.2.2.2.2.2.2.2.2.2.2.2.2.1)
    have k_xSC : xSC W := by
      rw [hW]
      exact (uxSC rfl hI.2.2.2.2.2.2.2.2.2.2.2.2.2.2.2.2.2.2.2.2.2.2.2.2.2.2.2.2.2.2.2.2.2.2.1)
    have k_xSD : xSD W := by
      have r : W 91 240 = 0 := by rw [hW, sU_at]
      intro h
      rw [r] at h
      omega
    have k_xSE : xSE W := by
      rw [hW]
      exact (uxSE rfl hI.2.2.2.2.2.2.2.2.2.2.2.2.2.2.2.2.2.2.2.2.2.2.2.2.2.2.2.2.2.2.2.2.2.2.2.2.1)
    have k_xSW : xSW W := by
      rw [hW]
      exact (uxSW rfl hI.2.2.2.2.2.2.2.2.2.2.2.2.2.2.2.2.2.2.2.2.2.2.2.2.2.2.2.2.2.2.2.2.2.2.2.2.2.1)
    have k_xST : xST W := by
      rw [hW]
      exact (uxST rfl hI.2.2.2.2.2.2.2.2.2.2.2.2.2.2.2.2.2.2.2.2.2.2.2.2.2.2.2.2.2.2.2.2.2.2.2.2.2.2.1)
    have k_xSP : xSP W := by
      rw [hW]
      exact (uxSP rfl hI.2.2.2.2.2.2.2.2.2.2.2.2.2.2.2.2.2.2.2.2.2.2.2.2.2.2.2.2.2.2.2.2.2.2.2.2.2.2.2.1)
    have k_xSL : xSL W := by
      rw [hW]
      exact (uxSL rfl hI.2.2.2.2.2.2.2.2.2.2.2.2.2.2.2.2.2.2.2.2.2.2.2.2.2.2.2.2.2.2.2.2.2.2.2.2.2.2.2.2.1)
    have k_xSM : xSM W := by
      rw [hW]
      exact (uxSM rfl hI.2.2.2.2.2.2.2.2.2.2.2.2.2.2.2.2.2.2.2.2.2.2.2.2.2.2.2.2.2.2.2.2.2.2.2.2.2.2.2.2.2.1)
    have k_xSI : xSI W := by
      rw [hW]
      exact (uxSI rfl hI.2.2.2.2.2.2.2.2.2.2.2.2.2.2.2.2.2.2.2.2.2.2.2.2.2.2.2.2.2.2.2.2.2.2.2.2.2.2.2.2.2.2)
    have k_XC : XC W := ⟨k_xS1, k_xS2, k_xS3, k_xS4, k_xS5, k_xS6, k_xS7, k_xS8, k_xS9, k_xSA, k_xSG, k_xSF, k_xSB, k_xSC, k_xSD, k_xSE, k_xSW, k_xST, k_xSP, k_xSL, k_xSM, k_xSI⟩
    have kXB : XB W := ⟨k_xN1, k_xN2, k_xN3, k_xN4, k_xN5, k_xN6, k_xH1, k_xK1, k_xC1, k_xRW, k_xWT, k_xCU, k_xG2, k_xG3, k_xG4, k_xG5, k_xG6, k_XC⟩
    exact ⟨base, k2, k3, kXA, kXB⟩
