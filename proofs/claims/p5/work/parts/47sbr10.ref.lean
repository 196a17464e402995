/-! RULES OF THE REFERENCE (wip/p3/xsf.py). -/
-- holeNo
def xr_627 : qRu := (1, [], [(4, 100, [])], [], [(4, 311, [(999, 0)])], [])
theorem xo_627 : qRok xr_627 := by
  intro ρ M h0 hf hm hI
  have m0 : M 4 100 = 0 := hm (4, 100, []) (by decide)
  refine ⟨ρ, fun _ _ => rfl, fun f h => ?_, ?_⟩
  · exact nomatch h
  · show sI (sU M 4 311 (999 * ρ 0 + 0))
    obtain ⟨W, hW⟩ : ∃ W, W = (sU M 4 311 (999 * ρ 0 + 0)) := ⟨_, rfl⟩
    rw [← hW]
    have base : sI0 W := by
      rw [hW]
      exact (si_u0 hI.1 (fun r hr => by cases hr))
    have k2 : XI2 W := by
      rw [hW]
      exact (xi2_u rfl hI.2.1)
    have k3 : XI3 W := by
      rw [hW]
      exact (xi3_u rfl hI.2.2.1)
    have kXA : XA W := by
      rw [hW]
      exact (uXA rfl hI.2.2.2.1)
    have k_xN1 : xN1 W := by
      rw [hW]
      exact (uxN1 rfl hI.2.2.2.2.1)
    have k_xN2 : xN2 W := by
      rw [hW]
      exact (uxN2 rfl hI.2.2.2.2.2.1)
    have k_xN3 : xN3 W := by
      rw [hW]
      exact (uxN3 rfl hI.2.2.2.2.2.2.1)
    have k_xN4 : xN4 W := by
      rw [hW]
      exact (uxN4 rfl hI.2.2.2.2.2.2.2.1)
    have k_xN5 : xN5 W := by
      rw [hW]
      exact (uxN5 rfl hI.2.2.2.2.2.2.2.2.1)
    have k_xN6 : xN6 W := by
      rw [hW]
      exact (uxN6 rfl hI.2.2.2.2.2.2.2.2.2.1)
    have k_xH1 : xH1 W := by
      rw [hW]
      exact (uxH1 rfl hI.2.2.2.2.2.2.2.2.2.2.1)
    have k_xK1 : xK1 W := by
      rw [hW]
      exact (uxK1 rfl hI.2.2.2.2.2.2.2.2.2.2.2.1)
    have k_xC1 : xC1 W := by
      rw [hW]
      exact (uxC1 rfl hI.2.2.2.2.2.2.2.2.2.2.2.2.1)
    have k_xRW : xRW W := by
      rw [hW]
      exact (uxRW rfl hI.2.2.2.2.2.2.2.2.2.2.2.2.2.1)
    have k_xWT : xWT W := by
      rw [hW]
      exact (uxWT rfl hI.2.2.2.2.2.2.2.2.2.2.2.2.2.2.1)
    have k_xCU : xCU W := by
      rw [hW]
      exact (uxCU rfl hI.2.2.2.2.2.2.2.2.2.2.2.2.2.2.2.1)
    have k_xG2 : xG2 W := by
      rw [hW]
      exact (uxG2 rfl hI.2.2.2.2.2.2.2.2.2.2.2.2.2.2.2.2.1)
    have k_xG3 : xG3 W := by
      rw [hW]
      exact (uxG3 rfl hI.2.2.2.2.2.2.2.2.2.2.2.2.2.2.2.2.2.1)
    have k_xG4 : xG4 W := by
      rw [hW]
      exact (uxG4 rfl hI.2.2.2.2.2.2.2.2.2.2.2.2.2.2.2.2.2.2.1)
    have k_xG5 : xG5 W := by
      rw [hW]
      exact (uxG5 rfl hI.2.2.2.2.2.2.2.2.2.2.2.2.2.2.2.2.2.2.2.1)
    have k_xG6 : xG6 W := by
      rw [hW]
      exact (uxG6 rfl hI.2.2.2.2.2.2.2.2.2.2.2.2.2.2.2.2.2.2.2.2.1)
    have k_xS1 : xS1 W := by
      rw [hW]
      exact (uxS1 rfl hI.2.2.2.2.2.2.2.2.2.2.2.2.2.2.2.2.2.2.2.2.2.1)
    have k_xS2 : xS2 W := by
      rw [hW]
      exact (uxS2 rfl hI.2.2.2.2.2.2.2.2.2.2.2.2.2.2.2.2.2.2.2.2.2.2.1)
    have k_xS3 : xS3 W := by
      rw [hW]
      exact (uxS3 rfl hI.2.2.2.2.2.2.2.2.2.2.2.2.2.2.2.2.2.2.2.2.2.2.2.1)
    have k_xS4 : xS4 W := by
      rw [hW]
      exact (uxS4 rfl hI.2.2.2.2.2.2.2.2.2.2.2.2.2.2.2.2.2.2.2.2.2.2.2.2.1)
    have k_xS5 : xS5 W := by
      rw [hW]
      exact (uxS5 rfl hI.2.2.2.2.2.2.2.2.2.2.2.2.2.2.2.2.2.2.2.2.2.2.2.2.2.1)
    have k_xS6 : xS6 W := by
      rw [hW]
      exact (uxS6 rfl hI.2.2.2.2.2.2.2.2.2.2.2.2.2.2.2.2.2.2.2.2.2.2.2.2.2.2.1)
    have k_xS7 : xS7 W := by
      rw [hW]
      exact (uxS7 rfl hI.2.2.2.2.2.2.2.2.2.2.2.2.2.2.2.2.2.2.2.2.2.2.2.2.2.2.2.1)
    have k_xS8 : xS8 W := by
      rw [hW]
      exact (uxS8 rfl hI.2.2.2.2.2.2.2.2.2.2.2.2.2.2.2.2.2.2.2.2.2.2.2.2.2.2.2.2.1)
    have k_xS9 : xS9 W := by
      rw [hW]
      exact (uxS9 rfl hI.2.2.2.2.2.2.2.2.2.2.2.2.2.2.2.2.2.2.2.2.2.2.2.2.2.2.2.2.2.1)
    have k_xSA : xSA W := by
      rw [hW]
      exact (uxSA rfl hI.2.2.2.2.2.2.2.2.2.2.2.2.2.2.2.2.2.2.2.2.2.2.2.2.2.2.2.2.2.2.1)
    have k_xSG : xSG W := by
      rw [hW]
      exact (uxSG rfl hI.2.2.2.2.2.2.2.2.2.2.2.2.2.2.2.2.2.2.2.2.2.2.2.2.2.2.2.2.2.2.2.1)
    have k_xSF : xSF W := by
      rw [hW]
      exact (uxSF rfl hI.2.2.2.2.2.2.2.2.2.2.2.2.2.2.2.2.2.2.2.2.2.2.2.2.2.2.2.2.2.2.2.2.1)
    have k_xSB : xSB W := by
      rw [hW]
      exact (uxSB rfl hI.2.2.2.2.2.2.2.2.2.2.2.2.2.2.2.2.2.2.2.2.2.2.2.2.2.2.2.2.2.2.2.2.2.1)
    have k_xSC : xSC W := by
      rw [hW]
      exact (uxSC rfl hI.2.2.2.2.2.2.2.2.2.2.2.2.2.2.2.2.2.2.2.2.2.2.2.2.2.2.2.2.2.2.2.2.2.2.1)
    have k_xSD : xSD W := by
      rw [hW]
      exact (uxSD rfl hI.2.2.2.2.2.2.2.2.2.2.2.2.2.2.2.2.2.2.2.2.2.2.2.2.2.2.2.2.2.2.2.2.2.2.2.1)
    have k_xSE : xSE W := by
      rw [hW]
      exact (uxSE rfl hI.2.2.2.2.2.2.2.2.2.2.2.2.2.2.2.2.2.2.2.2.2.2.2.2.2.2.2.2.2.2.2.2.2.2.2.2.1)
    have k_xSW : xSW W := by
      rw [hW]
      exact (uxSW rfl hI.2.2.2.2.2.2.2.2.2.2.2.2.2.2.2.2.2.2.2.2.2.2.2.2.2.2.2.2.2.2.2.2.2.2.2.2.2.1)
    have k_xST : xST W := by
      rw [hW]
      exact (uxST rfl hI.2.2.2.2.2.2.2.2.2.2.2.2.2.2.2.2.2.2.2.2.2.2.2.2.2.2.2.2.2.2.2.2.2.2.2.2.2.2.1)
    have k_xSP : xSP W := by
      rw [hW]
      exact (uxSP rfl hI.2.2.2.2.2.2.2.2.2.2.2.2.2.2.2.2.2.2.2.2.2.2.2.2.2.2.2.2.2.2.2.2.2.2.2.2.2.2.2.1)
    have k_xSL : xSL W := by
      rw [hW]
      exact (uxSL rfl hI.2.2.2.2.2.2.2.2.2.2.2.2.2.2.2.2.2.2.2.2.2.2.2.2.2.2.2.2.2.2.2.2.2.2.2.2.2.2.2.2.1)
    have k_xSM : xSM W := by
      rw [hW]
      exact (uxSM rfl hI.2.2.2.2.2.2.2.2.2.2.2.2.2.2.2.2.2.2.2.2.2.2.2.2.2.2.2.2.2.2.2.2.2.2.2.2.2.2.2.2.2.1)
    have k_xSI : xSI W := by
      rw [hW]
      exact (uxSI rfl hI.2.2.2.2.2.2.2.2.2.2.2.2.2.2.2.2.2.2.2.2.2.2.2.2.2.2.2.2.2.2.2.2.2.2.2.2.2.2.2.2.2.2.1)
    have k_xD3 : xD3 W := by
      have r : W 4 100 = 0 := by
        have e := m0
        rw [hW, sU_ne (fun z => by omega)]
        omega
      intro h
      rw [r] at h
      exact absurd rfl h
    have k_xDV : xDV W := by
      rw [hW]
      exact (uxDV rfl hI.2.2.2.2.2.2.2.2.2.2.2.2.2.2.2.2.2.2.2.2.2.2.2.2.2.2.2.2.2.2.2.2.2.2.2.2.2.2.2.2.2.2.2.2.1)
    have k_xDP : xDP W := by
      rw [hW]
      exact (uxDP rfl hI.2.2.2.2.2.2.2.2.2.2.2.2.2.2.2.2.2.2.2.2.2.2.2.2.2.2.2.2.2.2.2.2.2.2.2.2.2.2.2.2.2.2.2.2.2.1)
    have k_xDE : xDE W := by
      rw [hW]
      exact (uxDE rfl hI.2.2.2.2.2.2.2.2.2.2.2.2.2.2.2.2.2.2.2.2.2.2.2.2.2.2.2.2.2.2.2.2.2.2.2.2.2.2.2.2.2.2.2.2.2.2.1)
    have k_xQ5 : xQ5 W := by
      rw [hW]
      exact (uxQ5 rfl hI.2.2.2.2.2.2.2.2.2.2.2.2.2.2.2.2.2.2.2.2.2.2.2.2.2.2.2.2.2.2.2.2.2.2.2.2.2.2.2.2.2.2.2.2.2.2.2.1)
    have k_xQL : xQL W := by
      rw [hW]
      exact (uxQL rfl hI.2.2.2.2.2.2.2.2.2.2.2.2.2.2.2.2.2.2.2.2.2.2.2.2.2.2.2.2.2.2.2.2.2.2.2.2.2.2.2.2.2.2.2.2.2.2.2.2.1)
    have k_xQW : xQW W := by
      rw [hW]
      exact (uxQW rfl hI.2.2.2.2.2.2.2.2.2.2.2.2.2.2.2.2.2.2.2.2.2.2.2.2.2.2.2.2.2.2.2.2.2.2.2.2.2.2.2.2.2.2.2.2.2.2.2.2.2.1)
    have k_xQM : xQM W := by
      rw [hW]
      exact (uxQM rfl hI.2.2.2.2.2.2.2.2.2.2.2.2.2.2.2.2.2.2.2.2.2.2.2.2.2.2.2.2.2.2.2.2.2.2.2.2.2.2.2.2.2.2.2.2.2.2.2.2.2.2.1)
    have k_xQH : xQH W := by
      rw [hW]
      exact (uxQH rfl hI.2.2.2.2.2.2.2.2.2.2.2.2.2.2.2.2.2.2.2.2.2.2.2.2.2.2.2.2.2.2.2.2.2.2.2.2.2.2.2.2.2.2.2.2.2.2.2.2.2.2.2)
    have k_XC : XC W := ⟨k_xS1, k_xS2, k_xS3, k_xS4, k_xS5, k_xS6, k_xS7, k_xS8, k_xS9, k_xSA, k_xSG, k_xSF, k_xSB, k_xSC, k_xSD, k_xSE, k_xSW, k_xST, k_xSP, k_xSL, k_xSM, k_xSI, k_xD3, k_xDV, k_xDP, k_xDE, k_xQ5, k_xQL, k_xQW, k_xQM, k_xQH⟩
    have kXB : XB W := ⟨k_xN1, k_xN2, k_xN3, k_xN4, k_xN5, k_xN6, k_xH1, k_xK1, k_xC1, k_xRW, k_xWT, k_xCU, k_xG2, k_xG3, k_xG4, k_xG5, k_xG6, k_XC⟩
    exact ⟨base, k2, k3, kXA, kXB⟩
-- qSet5_0
def xr_628 : qRu := (2, [], [(4, 350, [])], [], [(4, 350, [(5, 0)]), (4, 351, []), (4, 352, []), (4, 353, [(1, 1)]), (4, 354, [(1, 2)])], [])
theorem xo_628 : qRok xr_628 := by
  intro ρ M h0 hf hm hI
  have m0 : M 4 350 = 0 := hm (4, 350, []) (by decide)
  have qxQ5 := hI.2.2.2.2.2.2.2.2.2.2.2.2.2.2.2.2.2.2.2.2.2.2.2.2.2.2.2.2.2.2.2.2.2.2.2.2.2.2.2.2.2.2.2.2.2.2.2.1
  refine ⟨fun a => cond (Nat.blt a 2) (ρ a) (([tFi (dNm M (0)) (1 * ρ 1 + 0) (dCn M (0)).toNat] : List Int).getD (a - 2) 0), fun a ha => ?_, fun f h => ?_, ?_⟩
  · show cond (Nat.blt a 2) (ρ a) _ = ρ a
    rw [show Nat.blt a 2 = true from Nat.ble_eq_true_of_le ha]; rfl
  · exact nomatch h
  · show sI (sU (sU (sU (sU (sU M 4 350 (5 * ρ 0 + 0)) 4 351 (0)) 4 352 (0)) 4 353 (1 * ρ 1 + 0)) 4 354 (1 * (tFi (dNm M (0)) (1 * ρ 1 + 0) (dCn M (0)).toNat) + 0))
    obtain ⟨W, hW⟩ : ∃ W, W = (sU (sU (sU (sU (sU M 4 350 (5 * ρ 0 + 0)) 4 351 (0)) 4 352 (0)) 4 353 (1 * ρ 1 + 0)) 4 354 (1 * (tFi (dNm M (0)) (1 * ρ 1 + 0) (dCn M (0)).toNat) + 0)) := ⟨_, rfl⟩
    rw [← hW]
    have base : sI0 W := by
      rw [hW]
      exact (si_u0 (si_u0 (si_u0 (si_u0 (si_u0 hI.1 (fun r hr => by cases hr)) (fun r hr => by cases hr)) (fun r hr => by cases hr)) (fun r hr => by cases hr)) (fun r hr => by cases hr))
    have k2 : XI2 W := by
      rw [hW]
      exact (xi2_u rfl (xi2_u rfl (xi2_u rfl (xi2_u rfl (xi2_u rfl hI.2.1)))))
    have k3 : XI3 W := by
      rw [hW]
      exact (xi3_u rfl (xi3_u rfl (xi3_u rfl (xi3_u rfl (xi3_u rfl hI.2.2.1)))))
    have kXA : XA W := by
      rw [hW]
      exact (uXA rfl (uXA rfl (uXA rfl (uXA rfl (uXA rfl hI.2.2.2.1)))))
    have k_xN1 : xN1 W := by
      rw [hW]
      exact (uxN1 rfl (uxN1 rfl (uxN1 rfl (uxN1 rfl (uxN1 rfl hI.2.2.2.2.1)))))
    have k_xN2 : xN2 W := by
      rw [hW]
      exact (uxN2 rfl (uxN2 rfl (uxN2 rfl (uxN2 rfl (uxN2 rfl hI.2.2.2.2.2.1)))))
    have k_xN3 : xN3 W := by
      rw [hW]
      exact (uxN3 rfl (uxN3 rfl (uxN3 rfl (uxN3 rfl (uxN3 rfl hI.2.2.2.2.2.2.1)))))
    have k_xN4 : xN4 W := by
      rw [hW]
      exact (uxN4 rfl (uxN4 rfl (uxN4 rfl (uxN4 rfl (uxN4 rfl hI.2.2.2.2.2.2.2.1)))))
    have k_xN5 : xN5 W := by
      rw [hW]
      exact (uxN5 rfl (uxN5 rfl (uxN5 rfl (uxN5 rfl (uxN5 rfl hI.2.2.2.2.2.2.2.2.1)))))
    have k_xN6 : xN6 W := by
      rw [hW]
      exact (uxN6 rfl (uxN6 rfl (uxN6 rfl (uxN6 rfl (uxN6 rfl hI.2.2.2.2.2.2.2.2.2.1)))))
    have k_xH1 : xH1 W := by
      rw [hW]
      exact (uxH1 rfl (uxH1 rfl (uxH1 rfl (uxH1 rfl (uxH1 rfl hI.2.2.2.2.2.2.2.2.2.2.1)))))
    have k_xK1 : xK1 W := by
      rw [hW]
      exact (uxK1 rfl (uxK1 rfl (uxK1 rfl (uxK1 rfl (uxK1 rfl hI.2.2.2.2.2.2.2.2.2.2.2.1)))))
    have k_xC1 : xC1 W := by
      rw [hW]
      exact (uxC1 rfl (uxC1 rfl (uxC1 rfl (uxC1 rfl (uxC1 rfl hI.2.2.2.2.2.2.2.2.2.2.2.2.1)))))
    have k_xRW : xRW W := by
      rw [hW]
      exact (uxRW rfl (uxRW rfl (uxRW rfl (uxRW rfl (uxRW rfl hI.2.2.2.2.2.2.2.2.2.2.2.2.2.1)))))
    have k_xWT : xWT W := by
      rw [hW]
      exact (uxWT rfl (uxWT rfl (uxWT rfl (uxWT rfl (uxWT rfl hI.2.2.2.2.2.2.2.2.2.2.2.2.2.2.1)))))
    have k_xCU : xCU W := by
      rw [hW]
      exact (uxCU rfl (uxCU rfl (uxCU rfl (uxCU rfl (uxCU rfl hI.2.2.2.2.2.2.2.2.2.2.2.2.2.2.2.1)))))
    have k_xG2 : xG2 W := by
      rw [hW]
      exact (uxG2 rfl (uxG2 rfl (uxG2 rfl (uxG2 rfl (uxG2 rfl hI.2.2.2.2.2.2.2.2.2.2.2.2.2.2.2.2.1)))))
    have k_xG3 : xG3 W := by
      rw [hW]
      exact (uxG3 rfl (uxG3 rfl (uxG3 rfl (uxG3 rfl (uxG3 rfl hI.2.2.2.2.2.2.2.2.2.2.2.2.2.2.2.2.2.1)))))
    have k_xG4 : xG4 W := by
      rw [hW]
      exact (uxG4 rfl (uxG4 rfl (uxG4 rfl (uxG4 rfl (uxG4 rfl hI.2.2.2.2.2.2.2.2.2.2.2.2.2.2.2.2.2.2.1)))))
    have k_xG5 : xG5 W := by
      rw [hW]
      exact (uxG5 rfl (uxG5 rfl (uxG5 rfl (uxG5 rfl (uxG5 rfl hI.2.2.2.2.2.2.2.2.2.2.2.2.2.2.2.2.2.2.2.1)))))
    have k_xG6 : xG6 W := by
      rw [hW]
      exact (uxG6 rfl (uxG6 rfl (uxG6 rfl (uxG6 rfl (uxG6 rfl hI.2.2.2.2.2.2.2.2.2.2.2.2.2.2.2.2.2.2.2.2.1)))))
    have k_xS1 : xS1 W := by
      rw [hW]
      exact (uxS1 rfl (uxS1 rfl (uxS1 rfl (uxS1 rfl (uxS1 rfl hI.2.2.2.2.2.2.2.2.2.2.2.2.2.2.2.2.2.2.2.2.2.1)))))
    have k_xS2 : xS2 W := by
      rw [hW]
      exact (uxS2 rfl (uxS2 rfl (uxS2 rfl (uxS2 rfl (uxS2 rfl hI.2.2.2.2.2.2.2.2.2.2.2.2.2.2.2.2.2.2.2.2.2.2.1)))))
    have k_xS3 : xS3 W := by
      rw [hW]
      exact (uxS3 rfl (uxS3 rfl (uxS3 rfl (uxS3 rfl (uxS3 rfl hI.2.2.2.2.2.2.2.2.2.2.2.2.2.2.2.2.2.2.2.2.2.2.2.1)))))
    have k_xS4 : xS4 W := by
      rw [hW]
      exact (uxS4 rfl (uxS4 rfl (uxS4 rfl (uxS4 rfl (uxS4 rfl hI.2.2.2.2.2.2.2.2.2.2.2.2.2.2.2.2.2.2.2.2.2.2.2.2.1)))))
    have k_xS5 : xS5 W := by
      rw [hW]
      exact (uxS5 rfl (uxS5 rfl (uxS5 rfl (uxS5 rfl (uxS5 rfl hI.2.2.2.2.2.2.2.2.2.2.2.2.2.2.2.2.2.2.2.2.2.2.2.2.2.1)))))
    have k_xS6 : xS6 W := by
      rw [hW]
      exact (uxS6 rfl (uxS6 rfl (uxS6 rfl (uxS6 rfl (uxS6 rfl hI.2.2.2.2.2.2.2.2.2.2.2.2.2.2.2.2.2.2.2.2.2.2.2.2.2.2.1)))))
    have k_xS7 : xS7 W := by
      rw [hW]
      exact (uxS7 rfl (uxS7 rfl (uxS7 rfl (uxS7 rfl (uxS7 rfl hI.2.2.2.2.2.2.2.2.2.2.2.2.2.2.2.2.2.2.2.2.2.2.2.2.2.2.2.1)))))
    have k_xS8 : xS8 W := by
      rw [hW]
      exact (uxS8 rfl (uxS8 rfl (uxS8 rfl (uxS8 rfl (uxS8 rfl hI.2.2.2.2.2.2.2.2.2.2.2.2.2.2.2.2.2.2.2.2.2.2.2.2.2.2.2.2.1)))))
    have k_xS9 : xS9 W := by
      rw [hW]
      exact (uxS9 rfl (uxS9 rfl (uxS9 rfl (uxS9 rfl (uxS9 rfl hI.2.2.2.2.2.2.2.2.2.2.2.2.2.2.2.2.2.2.2.2.2.2.2.2.2.2.2.2.2.1)))))
    have k_xSA : xSA W := by
      rw [hW]
      exact (uxSA rfl (uxSA rfl (uxSA rfl (uxSA rfl (uxSA rfl hI.2.2.2.2.2.2.2.2.2.2.2.2.2.2.2.2.2.2.2.2.2.2.2.2.2.2.2.2.2.2.1)))))
    have k_xSG : xSG W := by
      rw [hW]
      exact (uxSG rfl (uxSG rfl (uxSG rfl (uxSG rfl (uxSG rfl hI.2.2.2.2.2.2.2.2.2.2.2.2.2.2.2.2.2.2.2.2.2.2.2.2.2.2.2.2.2.2.2.1)))))
    have k_xSF : xSF W := by
      rw [hW]
      exact (uxSF rfl (uxSF rfl (uxSF rfl (uxSF rfl (uxSF rfl hI.2.2.2.2.2.2.2.2.2.2.2.2.2.2.2.2.2.2.2.2.2.2.2.2.2.2.2.2.2.2.2.2.1)))))
    have k_xSB : xSB W := by
      rw [hW]
      exact (uxSB rfl (uxSB rfl (uxSB rfl (uxSB rfl (uxSB rfl hI.2.2.2.2.2.2.2.2.2.2.2.2.2.2.2.2.2.2.2.2.2.2.2.2.2.2.2.2.2.2.2.2.2.1)))))
    have k_xSC : xSC W := by
      rw [hW]
      exact (uxSC rfl (uxSC rfl (uxSC rfl (uxSC rfl (uxSC rfl hI.2.2.2.2.2.2.2.2.2.2.2.2.2.2.2.2.2.2.2.2.2.2.2.2.2.2.2.2.2.2.2.2.2.2.1)))))
    have k_xSD : xSD W := by
      rw [hW]
      exact (uxSD rfl (uxSD rfl (uxSD rfl (uxSD rfl (uxSD rfl hI.2.2.2.2.2.2.2.2.2.2.2.2.2.2.2.2.2.2.2.2.2.2.2.2.2.2.2.2.2.2.2.2.2.2.2.1)))))
    have k_xSE : xSE W := by
      rw [hW]
      exact (uxSE rfl (uxSE rfl (uxSE rfl (uxSE rfl (uxSE rfl hI.2.2.2.2.2.2.2.2.2.2.2.2.2.2.2.2.2.2.2.2.2.2.2.2.2.2.2.2.2.2.2.2.2.2.2.2.1)))))
    have k_xSW : xSW W := by
      rw [hW]
      exact (uxSW rfl (uxSW rfl (uxSW rfl (uxSW rfl (uxSW rfl hI.2.2.2.2.2.2.2.2.2.2.2.2.2.2.2.2.2.2.2.2.2.2.2.2.2.2.2.2.2.2.2.2.2.2.2.2.2.1)))))
    have k_xST : xST W := by
      rw [hW]
      exact (uxST rfl (uxST rfl (uxST rfl (uxST rfl (uxST rfl hI.2.2.2.2.2.2.2.2.2.2.2.2.2.2.2.2.2.2.2.2.2.2.2.2.2.2.2.2.2.2.2.2.2.2.2.2.2.2.1)))))
    have k_xSP : xSP W := by
      rw [hW]
      exact (uxSP rfl (uxSP rfl (uxSP rfl (uxSP rfl (uxSP rfl hI.2.2.2.2.2.2.2.2.2.2.2.2.2.2.2.2.2.2.2.2.2.2.2.2.2.2.2.2.2.2.2.2.2.2.2.2.2.2.2.1)))))
    have k_xSL : xSL W := by
      rw [hW]
      exact (uxSL rfl (uxSL rfl (uxSL rfl (uxSL rfl (uxSL rfl hI.2.2.2.2.2.2.2.2.2.2.2.2.2.2.2.2.2.2.2.2.2.2.2.2.2.2.2.2.2.2.2.2.2.2.2.2.2.2.2.2.1)))))
    have k_xSM : xSM W := by
      rw [hW]
      exact (uxSM rfl (uxSM rfl (uxSM rfl (uxSM rfl (uxSM rfl hI.2.2.2.2.2.2.2.2.2.2.2.2.2.2.2.2.2.2.2.2.2.2.2.2.2.2.2.2.2.2.2.2.2.2.2.2.2.2.2.2.2.1)))))
    have k_xSI : xSI W := by
      rw [hW]
      exact (uxSI rfl (uxSI rfl (uxSI rfl (uxSI rfl (uxSI rfl hI.2.2.2.2.2.2.2.2.2.2.2.2.2.2.2.2.2.2.2.2.2.2.2.2.2.2.2.2.2.2.2.2.2.2.2.2.2.2.2.2.2.2.1)))))
    have k_xD3 : xD3 W := by
      rw [hW]
      exact (uxD3 rfl (uxD3 rfl (uxD3 rfl (uxD3 rfl (uxD3 rfl hI.2.2.2.2.2.2.2.2.2.2.2.2.2.2.2.2.2.2.2.2.2.2.2.2.2.2.2.2.2.2.2.2.2.2.2.2.2.2.2.2.2.2.2.1)))))
    have k_xDV : xDV W := by
      rw [hW]
      exact (uxDV rfl (uxDV rfl (uxDV rfl (uxDV rfl (uxDV rfl hI.2.2.2.2.2.2.2.2.2.2.2.2.2.2.2.2.2.2.2.2.2.2.2.2.2.2.2.2.2.2.2.2.2.2.2.2.2.2.2.2.2.2.2.2.1)))))
    have k_xDP : xDP W := by
      rw [hW]
      exact (uxDP rfl (uxDP rfl (uxDP rfl (uxDP rfl (uxDP rfl hI.2.2.2.2.2.2.2.2.2.2.2.2.2.2.2.2.2.2.2.2.2.2.2.2.2.2.2.2.2.2.2.2.2.2.2.2.2.2.2.2.2.2.2.2.2.1)))))
    have k_xDE : xDE W := by
      rw [hW]
      exact (uxDE rfl (uxDE rfl (uxDE rfl (uxDE rfl (uxDE rfl hI.2.2.2.2.2.2.2.2.2.2.2.2.2.2.2.2.2.2.2.2.2.2.2.2.2.2.2.2.2.2.2.2.2.2.2.2.2.2.2.2.2.2.2.2.2.2.1)))))
    have k_xQ5 : xQ5 W := by
      have r4_350 : W 4 350 = 5 * ρ 0 + 0 := by rw [hW, sU_ne (fun z => by omega), sU_ne (fun z => by omega), sU_ne (fun z => by omega), sU_ne (fun z => by omega), sU_at]
      have r4_351 : W 4 351 = 0 := by rw [hW, sU_ne (fun z => by omega), sU_ne (fun z => by omega), sU_ne (fun z => by omega), sU_at]
      have r4_352 : W 4 352 = 0 := by rw [hW, sU_ne (fun z => by omega), sU_ne (fun z => by omega), sU_at]
      have r4_353 : W 4 353 = 1 * ρ 1 + 0 := by rw [hW, sU_ne (fun z => by omega), sU_at]
      have r4_354 : W 4 354 = 1 * (tFi (dNm M (0)) (1 * ρ 1 + 0) (dCn M (0)).toNat) + 0 := by rw [hW, sU_at]
      have r93_0 : W 93 0 = M 93 0 := by rw [hW, sU_ne (fun z => by omega), sU_ne (fun z => by omega), sU_ne (fun z => by omega), sU_ne (fun z => by omega), sU_ne (fun z => by omega)]
      have r93_1 : W 93 1 = M 93 1 := by rw [hW, sU_ne (fun z => by omega), sU_ne (fun z => by omega), sU_ne (fun z => by omega), sU_ne (fun z => by omega), sU_ne (fun z => by omega)]
      have r93_2 : W 93 2 = M 93 2 := by rw [hW, sU_ne (fun z => by omega), sU_ne (fun z => by omega), sU_ne (fun z => by omega), sU_ne (fun z => by omega), sU_ne (fun z => by omega)]
      have c94 : ∀ k, W 94 k = M 94 k := fun k => by rw [hW, sU_ne (fun z => by omega), sU_ne (fun z => by omega), sU_ne (fun z => by omega), sU_ne (fun z => by omega), sU_ne (fun z => by omega)]
      have e94 : W 94 = M 94 := funext c94
      have c100 : ∀ k, W 100 k = M 100 k := fun k => by rw [hW, sU_ne (fun z => by omega), sU_ne (fun z => by omega), sU_ne (fun z => by omega), sU_ne (fun z => by omega), sU_ne (fun z => by omega)]
      have e100 : W 100 = M 100 := funext c100
      have c104 : ∀ k, W 104 k = M 104 k := fun k => by rw [hW, sU_ne (fun z => by omega), sU_ne (fun z => by omega), sU_ne (fun z => by omega), sU_ne (fun z => by omega), sU_ne (fun z => by omega)]
      have e104 : W 104 = M 104 := funext c104
      intro _
      have hn : ∀ w, dNm W w = dNm M w := fun w => funext fun j => by unfold dNm; rw [c94, c100, c104]
      have hc : ∀ w, dCn W w = dCn M w := fun w => by unfold dCn; rw [r93_0, r93_1, r93_2]
      rw [r4_354, r4_352, r4_353, r4_351, hn, hc]
      (try rw [h0])
      refine ⟨?_, Int.le_refl _, rfl⟩
      rw [show ∀ z : Int, 1 * z + 0 = z from fun z => by omega]
    have k_xQL : xQL W := by
      have r : W 4 350 = 5 := by rw [hW, sU_ne (fun z => by omega), sU_ne (fun z => by omega), sU_ne (fun z => by omega), sU_ne (fun z => by omega), sU_at]; rw [h0]; rfl
      intro h
      rw [r] at h
      omega
    have k_xQW : xQW W := by
      have r : W 4 350 = 5 := by rw [hW, sU_ne (fun z => by omega), sU_ne (fun z => by omega), sU_ne (fun z => by omega), sU_ne (fun z => by omega), sU_at]; rw [h0]; rfl
      intro h
      rw [r] at h
      omega
    have k_xQM : xQM W := by
      rw [hW]
      exact (uxQM rfl (uxQM rfl (uxQM rfl (uxQM rfl (uxQM rfl hI.2.2.2.2.2.2.2.2.2.2.2.2.2.2.2.2.2.2.2.2.2.2.2.2.2.2.2.2.2.2.2.2.2.2.2.2.2.2.2.2.2.2.2.2.2.2.2.2.2.2.1)))))
    have k_xQH : xQH W := by
      have r : W 4 350 = 5 := by rw [hW, sU_ne (fun z => by omega), sU_ne (fun z => by omega), sU_ne (fun z => by omega), sU_ne (fun z => by omega), sU_at]; rw [h0]; rfl
      intro h
      rw [r] at h
      omega
    have k_XC : XC W := ⟨k_xS1, k_xS2, k_xS3, k_xS4, k_xS5, k_xS6, k_xS7, k_xS8, k_xS9, k_xSA, k_xSG, k_xSF, k_xSB, k_xSC, k_xSD, k_xSE, k_xSW, k_xST, k_xSP, k_xSL, k_xSM, k_xSI, k_xD3, k_xDV, k_xDP, k_xDE, k_xQ5, k_xQL, k_xQW, k_xQM, k_xQH⟩
    have kXB : XB W := ⟨k_xN1, k_xN2, k_xN3, k_xN4, k_xN5, k_xN6, k_xH1, k_xK1, k_xC1, k_xRW, k_xWT, k_xCU, k_xG2, k_xG3, k_xG4, k_xG5, k_xG6, k_XC⟩
    exact ⟨base, k2, k3, kXA, kXB⟩
-- qMiss5_0L
def xr_629 : qRu := (6, [[(-1, 1), (1, 4)], [(1, 1), (-1, 4)], [(-1, 0), (1, 3), (-1, 5)]], [(4, 350, [(5, 0)]), (4, 351, [(1, 1)]), (4, 353, [(1, 3)]), (4, 352, []), (94, 1004, [(1, 5)])], [], [(4, 351, [(1, 0), (1, 1)])], [])
theorem xo_629 : qRok xr_629 := by
  intro ρ M h0 hf hm hI
  have f0 := hf [(-1, 1), (1, 4)] (by decide)
  have f1 := hf [(1, 1), (-1, 4)] (by decide)
  have f2 := hf [(-1, 0), (1, 3), (-1, 5)] (by decide)
  simp only [qD, h0] at f0 f1 f2
  have m0 : M 4 350 = 5 * ρ 0 + 0 := hm (4, 350, [(5, 0)]) (by decide)
  have m1 : M 4 351 = 1 * ρ 1 + 0 := hm (4, 351, [(1, 1)]) (by decide)
  have m2 : M 4 353 = 1 * ρ 3 + 0 := hm (4, 353, [(1, 3)]) (by decide)
  have m3 : M 4 352 = 0 := hm (4, 352, []) (by decide)
  have m4 : M 94 (zIx ρ (1000 + 4)) = 1 * ρ 5 + 0 := hm (94, 1004, [(1, 5)]) (by decide)
  rw [zix_p] at m4
  simp only [h0] at m0
  have qxQ5 := hI.2.2.2.2.2.2.2.2.2.2.2.2.2.2.2.2.2.2.2.2.2.2.2.2.2.2.2.2.2.2.2.2.2.2.2.2.2.2.2.2.2.2.2.2.2.2.2.1
  refine ⟨ρ, fun _ _ => rfl, fun f h => ?_, ?_⟩
  · exact nomatch h
  · show sI (sU M 4 351 (1 * ρ 0 + (1 * ρ 1 + 0)))
    obtain ⟨W, hW⟩ : ∃ W, W = (sU M 4 351 (1 * ρ 0 + (1 * ρ 1 + 0))) := ⟨_, rfl⟩
    rw [← hW]
    have base : sI0 W := by
      rw [hW]
      exact (si_u0 hI.1 (fun r hr => by cases hr))
    have k2 : XI2 W := by
      rw [hW]
      exact (xi2_u rfl hI.2.1)
    have k3 : XI3 W := by
      rw [hW]
      exact (xi3_u rfl hI.2.2.1)
    have kXA : XA W := by
      rw [hW]
      exact (uXA rfl hI.2.2.2.1)
    have k_xN1 : xN1 W := by
      rw [hW]
      exact (uxN1 rfl hI.2.2.2.2.1)
    have k_xN2 : xN2 W := by
      rw [hW]
      exact (uxN2 rfl hI.2.2.2.2.2.1)
    have k_xN3 : xN3 W := by
      rw [hW]
      exact (uxN3 rfl hI.2.2.2.2.2.2.1)
    have k_xN4 : xN4 W := by
      rw [hW]
      exact (uxN4 rfl hI.2.2.2.2.2.2.2.1)
    have k_xN5 : xN5 W := by
      rw [hW]
      exact (uxN5 rfl hI.2.2.2.2.2.2.2.2.1)
    have k_xN6 : xN6 W := by
      rw [hW]
      exact (uxN6 rfl hI.2.2.2.2.2.2.2.2.2.1)
    have k_xH1 : xH1 W := by
      rw [hW]
      exact (uxH1 rfl hI.2.2.2.2.2.2.2.2.2.2.1)
    have k_xK1 : xK1 W := by
      rw [hW]
      exact (uxK1 rfl hI.2.2.2.2.2.2.2.2.2.2.2.1)
    have k_xC1 : xC1 W := by
      rw [hW]
      exact (uxC1 rfl hI.2.2.2.2.2.2.2.2.2.2.2.2.1)
    have k_xRW : xRW W := by
      rw [hW]
      exact (uxRW rfl hI.2.2.2.2.2.2.2.2.2.2.2.2.2.1)
    have k_xWT : xWT W := by
      rw [hW]
      exact (uxWT rfl hI.2.2.2.2.2.2.2.2.2.2.2.2.2.2.1)
    have k_xCU : xCU W := by
      rw [hW]
      exact (uxCU rfl hI.2.2.2.2.2.2.2.2.2.2.2.2.2.2.2.1)
    have k_xG2 : xG2 W := by
      rw [hW]
      exact (uxG2 rfl hI.2.2.2.2.2.2.2.2.2.2.2.2.2.2.2.2.1)
    have k_xG3 : xG3 W := by
      rw [hW]
      exact (uxG3 rfl hI.2.2.2.2.2.2.2.2.2.2.2.2.2.2.2.2.2.1)
    have k_xG4 : xG4 W := by
      rw [hW]
      exact (uxG4 rfl hI.2.2.2.2.2.2.2.2.2.2.2.2.2.2.2.2.2.2.1)
    have k_xG5 : xG5 W := by
      rw [hW]
      exact (uxG5 rfl hI.2.2.2.2.2.2.2.2.2.2.2.2.2.2.2.2.2.2.2.1)
    have k_xG6 : xG6 W := by
      rw [hW]
      exact (uxG6 rfl hI.2.2.2.2.2.2.2.2.2.2.2.2.2.2.2.2.2.2.2.2.1)
    have k_xS1 : xS1 W := by
      rw [hW]
      exact (uxS1 rfl hI.2.2.2.2.2.2.2.2.2.2.2.2.2.2.2.2.2.2.2.2.2.1)
    have k_xS2 : xS2 W := by
      rw [hW]
      exact (uxS2 rfl hI.2.2.2.2.2.2.2.2.2.2.2.2.2.2.2.2.2.2.2.2.2.2.1)
    have k_xS3 : xS3 W := by
      rw [hW]
      exact (uxS3 rfl hI.2.2.2.2.2.2.2.2.2.2.2.2.2.2.2.2.2.2.2.2.2.2.2.1)
    have k_xS4 : xS4 W := by
      rw [hW]
      exact (uxS4 rfl hI.2.2.2.2.2.2.2.2.2.2.2.2.2.2.2.2.2.2.2.2.2.2.2.2.1)
    have k_xS5 : xS5 W := by
      rw [hW]
      exact (uxS5 rfl hI.2.2.2.2.2.2.2.2.2.2.2.2.2.2.2.2.2.2.2.2.2.2.2.2.2.1)
    have k_xS6 : xS6 W := by
      rw [hW]
      exact (uxS6 rfl hI.2.2.2.2.2.2.2.2.2.2.2.2.2.2.2.2.2.2.2.2.2.2.2.2.2.2.1)
    have k_xS7 : xS7 W := by
      rw [hW]
      exact (uxS7 rfl hI.2.2.2.2.2.2.2.2.2.2.2.2.2.2.2.2.2.2.2.2.2.2.2.2.2.2.2.1)
    have k_xS8 : xS8 W := by
      rw [hW]
      exact (uxS8 rfl hI.2.2.2.2.2.2.2.2.2.2.2.2.2.2.2.2.2.2.2.2.2.2.2.2.2.2.2.2.1)
    have k_xS9 : xS9 W := by
      rw [hW]
      exact (uxS9 rfl hI.2.2.2.2.2.2.2.2.2.2.2.2.2.2.2.2.2.2.2.2.2.2.2.2.2.2.2.2.2.1)
    have k_xSA : xSA W := by
      rw [hW]
      exact (uxSA rfl hI.2.2.2.2.2.2.2.2.2.2.2.2.2.2.2.2.2.2.2.2.2.2.2.2.2.2.2.2.2.2.1)
    have k_xSG : xSG W := by
      rw [hW]
      exact (uxSG rfl hI.2.2.2.2.2.2.2.2.2.2.2.2.2.2.2.2.2.2.2.2.2.2.2.2.2.2.2.2.2.2.2.1)
    have k_xSF : xSF W := by
      rw [hW]
      exact (uxSF rfl hI.2.2.2.2.2.2.2.2.2.2.2.2.2.2.2.2.2.2.2.2.2.2.2.2.2.2.2.2.2.2.2.2.1)
    have k_xSB : xSB W := by
      rw [hW]
      exact (uxSB rfl hI.2.2.2.2.2.2.2.2.2.2.2.2.2.2.2.2.2.2.2.2.2.2.2.2.2.2.2.2.2.2.2.2.2.1)
    have k_xSC : xSC W := by
      rw [hW]
      exact (uxSC rfl hI.2.2.2.2.2.2.2.2.2.2.2.2.2.2.2.2.2.2.2.2.2.2.2.2.2.2.2.2.2.2.2.2.2.2.1)
    have k_xSD : xSD W := by
      rw [hW]
      exact (uxSD rfl hI.2.2.2.2.2.2.2.2.2.2.2.2.2.2.2.2.2.2.2.2.2.2.2.2.2.2.2.2.2.2.2.2.2.2.2.1)
    have k_xSE : xSE W := by
      rw [hW]
      exact (uxSE rfl hI.2.2.2.2.2.2.2.2.2.2.2.2.2.2.2.2.2.2.2.2.2.2.2.2.2.2.2.2.2.2.2.2.2.2.2.2.1)
    have k_xSW : xSW W := by
      rw [hW]
      exact (uxSW rfl hI.2.2.2.2.2.2.2.2.2.2.2.2.2.2.2.2.2.2.2.2.2.2.2.2.2.2.2.2.2.2.2.2.2.2.2.2.2.1)
    have k_xST : xST W := by
      rw [hW]
      exact (uxST rfl hI.2.2.2.2.2.2.2.2.2.2.2.2.2.2.2.2.2.2.2.2.2.2.2.2.2.2.2.2.2.2.2.2.2.2.2.2.2.2.1)
    have k_xSP : xSP W := by
      rw [hW]
      exact (uxSP rfl hI.2.2.2.2.2.2.2.2.2.2.2.2.2.2.2.2.2.2.2.2.2.2.2.2.2.2.2.2.2.2.2.2.2.2.2.2.2.2.2.1)
    have k_xSL : xSL W := by
      rw [hW]
      exact (uxSL rfl hI.2.2.2.2.2.2.2.2.2.2.2.2.2.2.2.2.2.2.2.2.2.2.2.2.2.2.2.2.2.2.2.2.2.2.2.2.2.2.2.2.1)
    have k_xSM : xSM W := by
      rw [hW]
      exact (uxSM rfl hI.2.2.2.2.2.2.2.2.2.2.2.2.2.2.2.2.2.2.2.2.2.2.2.2.2.2.2.2.2.2.2.2.2.2.2.2.2.2.2.2.2.1)
    have k_xSI : xSI W := by
      rw [hW]
      exact (uxSI rfl hI.2.2.2.2.2.2.2.2.2.2.2.2.2.2.2.2.2.2.2.2.2.2.2.2.2.2.2.2.2.2.2.2.2.2.2.2.2.2.2.2.2.2.1)
    have k_xD3 : xD3 W := by
      rw [hW]
      exact (uxD3 rfl hI.2.2.2.2.2.2.2.2.2.2.2.2.2.2.2.2.2.2.2.2.2.2.2.2.2.2.2.2.2.2.2.2.2.2.2.2.2.2.2.2.2.2.2.1)
    have k_xDV : xDV W := by
      rw [hW]
      exact (uxDV rfl hI.2.2.2.2.2.2.2.2.2.2.2.2.2.2.2.2.2.2.2.2.2.2.2.2.2.2.2.2.2.2.2.2.2.2.2.2.2.2.2.2.2.2.2.2.1)
    have k_xDP : xDP W := by
      rw [hW]
      exact (uxDP rfl hI.2.2.2.2.2.2.2.2.2.2.2.2.2.2.2.2.2.2.2.2.2.2.2.2.2.2.2.2.2.2.2.2.2.2.2.2.2.2.2.2.2.2.2.2.2.1)
    have k_xDE : xDE W := by
      rw [hW]
      exact (uxDE rfl hI.2.2.2.2.2.2.2.2.2.2.2.2.2.2.2.2.2.2.2.2.2.2.2.2.2.2.2.2.2.2.2.2.2.2.2.2.2.2.2.2.2.2.2.2.2.2.1)
    have k_xQ5 : xQ5 W := by
      have r4_350 : W 4 350 = M 4 350 := by rw [hW, sU_ne (fun z => by omega)]
      have r4_351 : W 4 351 = 1 * ρ 0 + (1 * ρ 1 + 0) := by rw [hW, sU_at]
      have r4_352 : W 4 352 = M 4 352 := by rw [hW, sU_ne (fun z => by omega)]
      have r4_353 : W 4 353 = M 4 353 := by rw [hW, sU_ne (fun z => by omega)]
      have r4_354 : W 4 354 = M 4 354 := by rw [hW, sU_ne (fun z => by omega)]
      have r93_0 : W 93 0 = M 93 0 := by rw [hW, sU_ne (fun z => by omega)]
      have r93_1 : W 93 1 = M 93 1 := by rw [hW, sU_ne (fun z => by omega)]
      have r93_2 : W 93 2 = M 93 2 := by rw [hW, sU_ne (fun z => by omega)]
      have c94 : ∀ k, W 94 k = M 94 k := fun k => by rw [hW, sU_ne (fun z => by omega)]
      have e94 : W 94 = M 94 := funext c94
      have c100 : ∀ k, W 100 k = M 100 k := fun k => by rw [hW, sU_ne (fun z => by omega)]
      have e100 : W 100 = M 100 := funext c100
      have c104 : ∀ k, W 104 k = M 104 k := fun k => by rw [hW, sU_ne (fun z => by omega)]
      have e104 : W 104 = M 104 := funext c104
      intro _
      obtain ⟨b0, b1, b2⟩ := gx_xQ5 hI (by omega)
      have hn : ∀ w, dNm W w = dNm M w := fun w => funext fun j => by unfold dNm; rw [c94, c100, c104]
      have hc : ∀ w, dCn W w = dCn M w := fun w => by unfold dCn; rw [r93_0, r93_1, r93_2]
      rw [r4_354, r4_352, r4_353, r4_351, hn, hc]
      refine ⟨b0, by rw [h0]; omega, ?_⟩
      rw [show (1 * ρ 0 + (1 * ρ 1 + 0)).toNat = (M 4 351).toNat + 1 by rw [h0]; omega]
      refine tfi_no b2 ?_
      rw [show M 4 352 = 0 by omega]
      show M 94 (M 4 351).toNat ≠ M 4 353
      rw [show (M 4 351).toNat = (ρ 4).toNat by omega]
      omega
    have k_xQL : xQL W := by
      rw [hW]
      exact (uxQL rfl hI.2.2.2.2.2.2.2.2.2.2.2.2.2.2.2.2.2.2.2.2.2.2.2.2.2.2.2.2.2.2.2.2.2.2.2.2.2.2.2.2.2.2.2.2.2.2.2.2.1)
    have k_xQW : xQW W := by
      rw [hW]
      exact (uxQW rfl hI.2.2.2.2.2.2.2.2.2.2.2.2.2.2.2.2.2.2.2.2.2.2.2.2.2.2.2.2.2.2.2.2.2.2.2.2.2.2.2.2.2.2.2.2.2.2.2.2.2.1)
    have k_xQM : xQM W := by
      rw [hW]
      exact (uxQM rfl hI.2.2.2.2.2.2.2.2.2.2.2.2.2.2.2.2.2.2.2.2.2.2.2.2.2.2.2.2.2.2.2.2.2.2.2.2.2.2.2.2.2.2.2.2.2.2.2.2.2.2.1)
    have k_xQH : xQH W := by
      rw [hW]
      exact (uxQH rfl hI.2.2.2.2.2.2.2.2.2.2.2.2.2.2.2.2.2.2.2.2.2.2.2.2.2.2.2.2.2.2.2.2.2.2.2.2.2.2.2.2.2.2.2.2.2.2.2.2.2.2.2)
    have k_XC : XC W := ⟨k_xS1, k_xS2, k_xS3, k_xS4, k_xS5, k_xS6, k_xS7, k_xS8, k_xS9, k_xSA, k_xSG, k_xSF, k_xSB, k_xSC, k_xSD, k_xSE, k_xSW, k_xST, k_xSP, k_xSL, k_xSM, k_xSI, k_xD3, k_xDV, k_xDP, k_xDE, k_xQ5, k_xQL, k_xQW, k_xQM, k_xQH⟩
    have kXB : XB W := ⟨k_xN1, k_xN2, k_xN3, k_xN4, k_xN5, k_xN6, k_xH1, k_xK1, k_xC1, k_xRW, k_xWT, k_xCU, k_xG2, k_xG3, k_xG4, k_xG5, k_xG6, k_XC⟩
    exact ⟨base, k2, k3, kXA, kXB⟩
-- qMiss5_0H
def xr_630 : qRu := (6, [[(-1, 1), (1, 4)], [(1, 1), (-1, 4)], [(-1, 0), (-1, 3), (1, 5)]], [(4, 350, [(5, 0)]), (4, 351, [(1, 1)]), (4, 353, [(1, 3)]), (4, 352, []), (94, 1004, [(1, 5)])], [], [(4, 351, [(1, 0), (1, 1)])], [])
theorem xo_630 : qRok xr_630 := by
  intro ρ M h0 hf hm hI
  have f0 := hf [(-1, 1), (1, 4)] (by decide)
  have f1 := hf [(1, 1), (-1, 4)] (by decide)
  have f2 := hf [(-1, 0), (-1, 3), (1, 5)] (by decide)
  simp only [qD, h0] at f0 f1 f2
  have m0 : M 4 350 = 5 * ρ 0 + 0 := hm (4, 350, [(5, 0)]) (by decide)
  have m1 : M 4 351 = 1 * ρ 1 + 0 := hm (4, 351, [(1, 1)]) (by decide)
  have m2 : M 4 353 = 1 * ρ 3 + 0 := hm (4, 353, [(1, 3)]) (by decide)
  have m3 : M 4 352 = 0 := hm (4, 352, []) (by decide)
  have m4 : M 94 (zIx ρ (1000 + 4)) = 1 * ρ 5 + 0 := hm (94, 1004, [(1, 5)]) (by decide)
  rw [zix_p] at m4
  simp only [h0] at m0
  have qxQ5 := hI.2.2.2.2.2.2.2.2.2.2.2.2.2.2.2.2.2.2.2.2.2.2.2.2.2.2.2.2.2.2.2.2.2.2.2.2.2.2.2.2.2.2.2.2.2.2.2.1
  refine ⟨ρ, fun _ _ => rfl, fun f h => ?_, ?_⟩
  · exact nomatch h
  · show sI (sU M 4 351 (1 * ρ 0 + (1 * ρ 1 + 0)))
    obtain ⟨W, hW⟩ : ∃ W, W = (sU M 4 351 (1 * ρ 0 + (1 * ρ 1 + 0))) := ⟨_, rfl⟩
    rw [← hW]
    have base : sI0 W := by
      rw [hW]
      exact (si_u0 hI.1 (fun r hr => by cases hr))
    have k2 : XI2 W := by
      rw [hW]
      exact (xi2_u rfl hI.2.1)
    have k3 : XI3 W := by
      rw [hW]
      exact (xi3_u rfl hI.2.2.1)
    have kXA : XA W := by
      rw [hW]
      exact (uXA rfl hI.2.2.2.1)
    have k_xN1 : xN1 W := by
      rw [hW]
      exact (uxN1 rfl hI.2.2.2.2.1)
    have k_xN2 : xN2 W := by
      rw [hW]
      exact (uxN2 rfl hI.2.2.2.2.2.1)
    have k_xN3 : xN3 W := by
      rw [hW]
      exact (uxN3 rfl hI.2.2.2.2.2.2.1)
    have k_xN4 : xN4 W := by
      rw [hW]
      exact (uxN4 rfl hI.2.2.2.2.2.2.2.1)
    have k_xN5 : xN5 W := by
      rw [hW]
      exact (uxN5 rfl hI.2.2.2.2.2.2.2.2.1)
    have k_xN6 : xN6 W := by
      rw [hW]
      exact (uxN6 rfl hI.2.2.2.2.2.2.2.2.2.1)
    have k_xH1 : xH1 W := by
      rw [hW]
      exact (uxH1 rfl hI.2.2.2.2.2.2.2.2.2.2.1)
    have k_xK1 : xK1 W := by
      rw [hW]
      exact (uxK1 rfl hI.2.2.2.2.2.2.2.2.2.2.2.1)
    have k_xC1 : xC1 W := by
      rw [hW]
      exact (uxC1 rfl hI.2.2.2.2.2.2.2.2.2.2.2.2.1)
    have k_xRW : xRW W := by
      rw [hW]
      exact (uxRW rfl hI.2.2.2.2.2.2.2.2.2.2.2.2.2.1)
    have k_xWT : xWT W := by
      rw [hW]
      exact (uxWT rfl hI.2.2.2.2.2.2.2.2.2.2.2.2.2.2.1)
    have k_xCU : xCU W := by
      rw [hW]
      exact (uxCU rfl hI.2.2.2.2.2.2.2.2.2.2.2.2.2.2.2.1)
    have k_xG2 : xG2 W := by
      rw [hW]
      exact (uxG2 rfl hI.2.2.2.2.2.2.2.2.2.2.2.2.2.2.2.2.1)
    have k_xG3 : xG3 W := by
      rw [hW]
      exact (uxG3 rfl hI.2.2.2.2.2.2.2.2.2.2.2.2.2.2.2.2.2.1)
    have k_xG4 : xG4 W := by
      rw [hW]
      exact (uxG4 rfl hI.2.2.2.2.2.2.2.2.2.2.2.2.2.2.2.2.2.2.1)
    have k_xG5 : xG5 W := by
      rw [hW]
      exact (uxG5 rfl hI.2.2.2.2.2.2.2.2.2.2.2.2.2.2.2.2.2.2.2.1)
    have k_xG6 : xG6 W := by
      rw [hW]
      exact (uxG6 rfl hI.2.2.2.2.2.2.2.2.2.2.2.2.2.2.2.2.2.2.2.2.1)
    have k_xS1 : xS1 W := by
      rw [hW]
      exact (uxS1 rfl hI.2.2.2.2.2.2.2.2.2.2.2.2.2.2.2.2.2.2.2.2.2.1)
    have k_xS2 : xS2 W := by
      rw [hW]
      exact (uxS2 rfl hI.2.2.2.2.2.2.2.2.2.2.2.2.2.2.2.2.2.2.2.2.2.2.1)
    have k_xS3 : xS3 W := by
      rw [hW]
      exact (uxS3 rfl hI.2.2.2.2.2.2.2.2.2.2.2.2.2.2.2.2.2.2.2.2.2.2.2.1)
    have k_xS4 : xS4 W := by
      rw [hW]
      exact (uxS4 rfl hI.2.2.2.2.2.2.2.2.2.2.2.2.2.2.2.2.2.2.2.2.2.2.2.2.1)
    have k_xS5 : xS5 W := by
      rw [hW]
      exact (uxS5 rfl hI.2.2.2.2.2.2.2.2.2.2.2.2.2.2.2.2.2.2.2.2.2.2.2.2.2.1)
    have k_xS6 : xS6 W := by
      rw [hW]
      exact (uxS6 rfl hI.2.2.2.2.2.2.2.2.2.2.2.2.2.2.2.2.2.2.2.2.2.2.2.2.2.2.1)
    have k_xS7 : xS7 W := by
      rw [hW]
      exact (uxS7 rfl hI.2.2.2.2.2.2.2.2.2.2.2.2.2.2.2.2.2.2.2.2.2.2.2.2.2.2.2.1)
    have k_xS8 : xS8 W := by
      rw [hW]
      exact (uxS8 rfl hI.2.2.2.2.2.2.2.2.2.2.2.2.2.2.2.2.2.2.2.2.2.2.2.2.2.2.2.2.1)
    have k_xS9 : xS9 W := by
      rw [hW]
      exact (uxS9 rfl hI.2.2.2.2.2.2.2.2.2.2.2.2.2.2.2.2.2.2.2.2.2.2.2.2.2.2.2.2.2.1)
    have k_xSA : xSA W := by
      rw [hW]
      exact (uxSA rfl hI.2.2.2.2.2.2.2.2.2.2.2.2.2.2.2.2.2.2.2.2.2.2.2.2.2.2.2.2.2.2.1)
    have k_xSG : xSG W := by
      rw [hW]
      exact (uxSG rfl hI.2.2.2.2.2.2.2.2.2.2.2.2.2.2.2.2.2.2.2.2.2.2.2.2.2.2.2.2.2.2.2.1)
    have k_xSF : xSF W := by
      rw [hW]
      exact (uxSF rfl hI.2.2.2.2.2.2.2.2.2.2.2.2.2.2.2.2.2.2.2.2.2.2.2.2.2.2.2.2.2.2.2.2.1)
    have k_xSB : xSB W := by
      rw [hW]
      exact (uxSB rfl hI.2.2.2.2.2.2.2.2.2.2.2.2.2.2.2.2.2.2.2.2.2.2.2.2.2.2.2.2.2.2.2.2.2.1)
    have k_xSC : xSC W := by
      rw [hW]
      exact (uxSC rfl hI.2.2.2.2.2.2.2.2.2.2.2.2.2.2.2.2.2.2.2.2.2.2.2.2.2.2.2.2.2.2.2.2.2.2.1)
    have k_xSD : xSD W := by
      rw [hW]
      exact (uxSD rfl hI.2.2.2.2.2.2.2.2.2.2.2.2.2.2.2.2.2.2.2.2.2.2.2.2.2.2.2.2.2.2.2.2.2.2.2.1)
    have k_xSE : xSE W := by
      rw [hW]
      exact (uxSE rfl hI.2.2.2.2.2.2.2.2.2.2.2.2.2.2.2.2.2.2.2.2.2.2.2.2.2.2.2.2.2.2.2.2.2.2.2.2.1)
    have k_xSW : xSW W := by
      rw [hW]
      exact (uxSW rfl hI.2.2.2.2.2.2.2.2.2.2.2.2.2.2.2.2.2.2.2.2.2.2.2.2.2.2.2.2.2.2.2.2.2.2.2.2.2.1)
    have k_xST : xST W := by
      rw [hW]
      exact (uxST rfl hI.2.2.2.2.2.2.2.2.2.2.2.2.2.2.2.2.2.2.2.2.2.2.2.2.2.2.2.2.2.2.2.2.2.2.2.2.2.2.1)
    have k_xSP : xSP W := by
      rw [hW]
      exact (uxSP rfl hI.2.2.2.2.2.2.2.2.2.2.2.2.2.2.2.2.2.2.2.2.2.2.2.2.2.2.2.2.2.2.2.2.2.2.2.2.2.2.2.1)
    have k_xSL : xSL W := by
      rw [hW]
      exact (uxSL rfl hI.2.2.2.2.2.2.2.2.2.2.2.2.2.2.2.2.2.2.2.2.2.2.2.2.2.2.2.2.2.2.2.2.2.2.2.2.2.2.2.2.1)
    have k_xSM : xSM W := by
      rw [hW]
      exact (uxSM rfl hI.2.2.2.2.2.2.2.2.2.2.2.2.2.2.2.2.2.2.2.2.2.2.2.2.2.2.2.2.2.2.2.2.2.2.2.2.2.2.2.2.2.1)
    have k_xSI : xSI W := by
      rw [hW]
      exact (uxSI rfl hI.2.2.2.2.2.2.2.2.2.2.2.2.2.2.2.2.2.2.2.2.2.2.2.2.2.2.2.2.2.2.2.2.2.2.2.2.2.2.2.2.2.2.1)
    have k_xD3 : xD3 W := by
      rw [hW]
      exact (uxD3 rfl hI.2.2.2.2.2.2.2.2.2.2.2.2.2.2.2.2.2.2.2.2.2.2.2.2.2.2.2.2.2.2.2.2.2.2.2.2.2.2.2.2.2.2.2.1)
    have k_xDV : xDV W := by
      rw [hW]
      exact (uxDV rfl hI.2.2.2.2.2.2.2.2.2.2.2.2.2.2.2.2.2.2.2.2.2.2.2.2.2.2.2.2.2.2.2.2.2.2.2.2.2.2.2.2.2.2.2.2.1)
    have k_xDP : xDP W := by
      rw [hW]
      exact (uxDP rfl hI.2.2.2.2.2.2.2.2.2.2.2.2.2.2.2.2.2.2.2.2.2.2.2.2.2.2.2.2.2.2.2.2.2.2.2.2.2.2.2.2.2.2.2.2.2.1)
    have k_xDE : xDE W := by
      rw [hW]
      exact (uxDE rfl hI.2.2.2.2.2.2.2.2.2.2.2.2.2.2.2.2.2.2.2.2.2.2.2.2.2.2.2.2.2.2.2.2.2.2.2.2.2.2.2.2.2.2.2.2.2.2.1)
    have k_xQ5 : xQ5 W := by
      have r4_350 : W 4 350 = M 4 350 := by rw [hW, sU_ne (fun z => by omega)]
      have r4_351 : W 4 351 = 1 * ρ 0 + (1 * ρ 1 + 0) := by rw [hW, sU_at]
      have r4_352 : W 4 352 = M 4 352 := by rw [hW, sU_ne (fun z => by omega)]
      have r4_353 : W 4 353 = M 4 353 := by rw [hW, sU_ne (fun z => by omega)]
      have r4_354 : W 4 354 = M 4 354 := by rw [hW, sU_ne (fun z => by omega)]
      have r93_0 : W 93 0 = M 93 0 := by rw [hW, sU_ne (fun z => by omega)]
      have r93_1 : W 93 1 = M 93 1 := by rw [hW, sU_ne (fun z => by omega)]
      have r93_2 : W 93 2 = M 93 2 := by rw [hW, sU_ne (fun z => by omega)]
      have c94 : ∀ k, W 94 k = M 94 k := fun k => by rw [hW, sU_ne (fun z => by omega)]
      have e94 : W 94 = M 94 := funext c94
      have c100 : ∀ k, W 100 k = M 100 k := fun k => by rw [hW, sU_ne (fun z => by omega)]
      have e100 : W 100 = M 100 := funext c100
      have c104 : ∀ k, W 104 k = M 104 k := fun k => by rw [hW, sU_ne (fun z => by omega)]
      have e104 : W 104 = M 104 := funext c104
      intro _
      obtain ⟨b0, b1, b2⟩ := gx_xQ5 hI (by omega)
      have hn : ∀ w, dNm W w = dNm M w := fun w => funext fun j => by unfold dNm; rw [c94, c100, c104]
      have hc : ∀ w, dCn W w = dCn M w := fun w => by unfold dCn; rw [r93_0, r93_1, r93_2]
      rw [r4_354, r4_352, r4_353, r4_351, hn, hc]
      refine ⟨b0, by rw [h0]; omega, ?_⟩
      rw [show (1 * ρ 0 + (1 * ρ 1 + 0)).toNat = (M 4 351).toNat + 1 by rw [h0]; omega]
      refine tfi_no b2 ?_
      rw [show M 4 352 = 0 by omega]
      show M 94 (M 4 351).toNat ≠ M 4 353
      rw [show (M 4 351).toNat = (ρ 4).toNat by omega]
      omega
    have k_xQL : xQL W := by
      rw [hW]
      exact (uxQL rfl hI.2.2.2.2.2.2.2.2.2.2.2.2.2.2.2.2.2.2.2.2.2.2.2.2.2.2.2.2.2.2.2.2.2.2.2.2.2.2.2.2.2.2.2.2.2.2.2.2.1)
    have k_xQW : xQW W := by
      rw [hW]
      exact (uxQW rfl hI.2.2.2.2.2.2.2.2.2.2.2.2.2.2.2.2.2.2.2.2.2.2.2.2.2.2.2.2.2.2.2.2.2.2.2.2.2.2.2.2.2.2.2.2.2.2.2.2.2.1)
    have k_xQM : xQM W := by
      rw [hW]
      exact (uxQM rfl hI.2.2.2.2.2.2.2.2.2.2.2.2.2.2.2.2.2.2.2.2.2.2.2.2.2.2.2.2.2.2.2.2.2.2.2.2.2.2.2.2.2.2.2.2.2.2.2.2.2.2.1)
    have k_xQH : xQH W := by
      rw [hW]
      exact (uxQH rfl hI.2.2.2.2.2.2.2.2.2.2.2.2.2.2.2.2.2.2.2.2.2.2.2.2.2.2.2.2.2.2.2.2.2.2.2.2.2.2.2.2.2.2.2.2.2.2.2.2.2.2.2)
    have k_XC : XC W := ⟨k_xS1, k_xS2, k_xS3, k_xS4, k_xS5, k_xS6, k_xS7, k_xS8, k_xS9, k_xSA, k_xSG, k_xSF, k_xSB, k_xSC, k_xSD, k_xSE, k_xSW, k_xST, k_xSP, k_xSL, k_xSM, k_xSI, k_xD3, k_xDV, k_xDP, k_xDE, k_xQ5, k_xQL, k_xQW, k_xQM, k_xQH⟩
    have kXB : XB W := ⟨k_xN1, k_xN2, k_xN3, k_xN4, k_xN5, k_xN6, k_xH1, k_xK1, k_xC1, k_xRW, k_xWT, k_xCU, k_xG2, k_xG3, k_xG4, k_xG5, k_xG6, k_XC⟩
    exact ⟨base, k2, k3, kXA, kXB⟩
-- qHit5_0
def xr_631 : qRu := (8, [[(-1, 1), (1, 4)], [(1, 1), (-1, 4)], [(-1, 3), (1, 5)], [(1, 3), (-1, 5)], [(-1, 0), (-1, 1), (1, 6)]], [(4, 350, [(5, 0)]), (4, 351, [(1, 1)]), (4, 353, [(1, 3)]), (4, 352, []), (93, 0, [(1, 6)]), (4, 354, [(1, 7)]), (94, 1004, [(1, 5)])], [], [], [[(-1, 1), (1, 7)], [(1, 1), (-1, 7)], [(1, 1)]])
theorem xo_631 : qRok xr_631 := by
  intro ρ M h0 hf hm hI
  have f0 := hf [(-1, 1), (1, 4)] (by decide)
  have f1 := hf [(1, 1), (-1, 4)] (by decide)
  have f2 := hf [(-1, 3), (1, 5)] (by decide)
  have f3 := hf [(1, 3), (-1, 5)] (by decide)
  have f4 := hf [(-1, 0), (-1, 1), (1, 6)] (by decide)
  simp only [qD, h0] at f0 f1 f2 f3 f4
  have m0 : M 4 350 = 5 * ρ 0 + 0 := hm (4, 350, [(5, 0)]) (by decide)
  have m1 : M 4 351 = 1 * ρ 1 + 0 := hm (4, 351, [(1, 1)]) (by decide)
  have m2 : M 4 353 = 1 * ρ 3 + 0 := hm (4, 353, [(1, 3)]) (by decide)
  have m3 : M 4 352 = 0 := hm (4, 352, []) (by decide)
  have m4 : M 93 0 = 1 * ρ 6 + 0 := hm (93, 0, [(1, 6)]) (by decide)
  have m5 : M 4 354 = 1 * ρ 7 + 0 := hm (4, 354, [(1, 7)]) (by decide)
  have m6 : M 94 (zIx ρ (1000 + 4)) = 1 * ρ 5 + 0 := hm (94, 1004, [(1, 5)]) (by decide)
  rw [zix_p] at m6
  simp only [h0] at m0
  obtain ⟨b0, b1, b2⟩ := gx_xQ5 hI (by omega)
  rw [show M 4 352 = 0 by omega] at b0 b2
  have hh := tfi_hit b2 (show dNm M 0 (M 4 351).toNat = M 4 353 by show M 94 (M 4 351).toNat = M 4 353; rw [show (M 4 351).toNat = (ρ 4).toNat by omega]; omega) (dCn M 0).toNat (by show (M 4 351).toNat < (M 93 0).toNat; omega)
  rw [hh] at b0
  refine ⟨ρ, fun _ _ => rfl, fun f h => ?_, ?_⟩
  · have h : f ∈ ([[(-1, 1), (1, 7)], [(1, 1), (-1, 7)], [(1, 1)]] : List qF) := h
    simp only [List.mem_cons, List.not_mem_nil, or_false] at h
    rcases h with rfl | rfl | rfl
    · show 0 ≤ -1 * ρ 1 + (1 * ρ 7 + 0)
      (try rw [h0]); omega
    · show 0 ≤ 1 * ρ 1 + (-1 * ρ 7 + 0)
      (try rw [h0]); omega
    · show 0 ≤ 1 * ρ 1 + 0
      (try rw [h0]); omega
  · show sI M
    exact hI
-- qEnd5_0
def xr_632 : qRu := (8, [[(1, 1), (-1, 6)], [(-1, 1), (1, 6)]], [(4, 350, [(5, 0)]), (4, 351, [(1, 1)]), (4, 353, [(1, 3)]), (4, 352, []), (93, 0, [(1, 6)]), (4, 354, [(1, 7)])], [], [], [[(1, 0), (1, 7)], [(-1, 0), (-1, 7)]])
theorem xo_632 : qRok xr_632 := by
  intro ρ M h0 hf hm hI
  have f0 := hf [(1, 1), (-1, 6)] (by decide)
  have f1 := hf [(-1, 1), (1, 6)] (by decide)
  simp only [qD, h0] at f0 f1
  have m0 : M 4 350 = 5 * ρ 0 + 0 := hm (4, 350, [(5, 0)]) (by decide)
  have m1 : M 4 351 = 1 * ρ 1 + 0 := hm (4, 351, [(1, 1)]) (by decide)
  have m2 : M 4 353 = 1 * ρ 3 + 0 := hm (4, 353, [(1, 3)]) (by decide)
  have m3 : M 4 352 = 0 := hm (4, 352, []) (by decide)
  have m4 : M 93 0 = 1 * ρ 6 + 0 := hm (93, 0, [(1, 6)]) (by decide)
  have m5 : M 4 354 = 1 * ρ 7 + 0 := hm (4, 354, [(1, 7)]) (by decide)
  simp only [h0] at m0
  obtain ⟨b0, b1, b2⟩ := gx_xQ5 hI (by omega)
  rw [show M 4 352 = 0 by omega] at b0 b2
  rw [show (dCn M 0).toNat = (M 4 351).toNat by show (M 93 0).toNat = _; omega, b2] at b0
  refine ⟨ρ, fun _ _ => rfl, fun f h => ?_, ?_⟩
  · have h : f ∈ ([[(1, 0), (1, 7)], [(-1, 0), (-1, 7)]] : List qF) := h
    simp only [List.mem_cons, List.not_mem_nil, or_false] at h
    rcases h with rfl | rfl
    · show 0 ≤ 1 * ρ 0 + (1 * ρ 7 + 0)
      (try rw [h0]); omega
    · show 0 ≤ -1 * ρ 0 + (-1 * ρ 7 + 0)
      (try rw [h0]); omega
  · show sI M
    exact hI
-- qSet5_1
def xr_633 : qRu := (2, [], [(4, 350, [])], [], [(4, 350, [(5, 0)]), (4, 351, []), (4, 352, [(1, 0)]), (4, 353, [(1, 1)]), (4, 354, [(1, 2)])], [])
theorem xo_633 : qRok xr_633 := by
  intro ρ M h0 hf hm hI
  have m0 : M 4 350 = 0 := hm (4, 350, []) (by decide)
  have qxQ5 := hI.2.2.2.2.2.2.2.2.2.2.2.2.2.2.2.2.2.2.2.2.2.2.2.2.2.2.2.2.2.2.2.2.2.2.2.2.2.2.2.2.2.2.2.2.2.2.2.1
  refine ⟨fun a => cond (Nat.blt a 2) (ρ a) (([tFi (dNm M (1)) (1 * ρ 1 + 0) (dCn M (1)).toNat] : List Int).getD (a - 2) 0), fun a ha => ?_, fun f h => ?_, ?_⟩
  · show cond (Nat.blt a 2) (ρ a) _ = ρ a
    rw [show Nat.blt a 2 = true from Nat.ble_eq_true_of_le ha]; rfl
  · exact nomatch h
  · show sI (sU (sU (sU (sU (sU M 4 350 (5 * ρ 0 + 0)) 4 351 (0)) 4 352 (1 * ρ 0 + 0)) 4 353 (1 * ρ 1 + 0)) 4 354 (1 * (tFi (dNm M (1)) (1 * ρ 1 + 0) (dCn M (1)).toNat) + 0))
    obtain ⟨W, hW⟩ : ∃ W, W = (sU (sU (sU (sU (sU M 4 350 (5 * ρ 0 + 0)) 4 351 (0)) 4 352 (1 * ρ 0 + 0)) 4 353 (1 * ρ 1 + 0)) 4 354 (1 * (tFi (dNm M (1)) (1 * ρ 1 + 0) (dCn M (1)).toNat) + 0)) := ⟨_, rfl⟩
    rw [← hW]
    have base : sI0 W := by
      rw [hW]
      exact (si_u0 (si_u0 (si_u0 (si_u0 (si_u0 hI.1 (fun r hr => by cases hr)) (fun r hr => by cases hr)) (fun r hr => by cases hr)) (fun r hr => by cases hr)) (fun r hr => by cases hr))
    have k2 : XI2 W := by
      rw [hW]
      exact (xi2_u rfl (xi2_u rfl (xi2_u rfl (xi2_u rfl (xi2_u rfl hI.2.1)))))
    have k3 : XI3 W := by
      rw [hW]
      exact (xi3_u rfl (xi3_u rfl (xi3_u rfl (xi3_u rfl (xi3_u rfl hI.2.2.1)))))
    have kXA : XA W := by
      rw [hW]
      exact (uXA rfl (uXA rfl (uXA rfl (uXA rfl (uXA rfl hI.2.2.2.1)))))
    have k_xN1 : xN1 W := by
      rw [hW]
      exact (uxN1 rfl (uxN1 rfl (uxN1 rfl (uxN1 rfl (uxN1 rfl hI.2.2.2.2.1)))))
    have k_xN2 : xN2 W := by
      rw [hW]
      exact (uxN2 rfl (uxN2 rfl (uxN2 rfl (uxN2 rfl (uxN2 rfl hI.2.2.2.2.2.1)))))
    have k_xN3 : xN3 W := by
      rw [hW]
      exact (uxN3 rfl (uxN3 rfl (uxN3 rfl (uxN3 rfl (uxN3 rfl hI.2.2.2.2.2.2.1)))))
    have k_xN4 : xN4 W := by
      rw [hW]
      exact (uxN4 rfl (uxN4 rfl (uxN4 rfl (uxN4 rfl (uxN4 rfl hI.2.2.2.2.2.2.2.1)))))
    have k_xN5 : xN5 W := by
      rw [hW]
      exact (uxN5 rfl (uxN5 rfl (uxN5 rfl (uxN5 rfl (uxN5 rfl hI.2.2.2.2.2.2.2.2.1)))))
    have k_xN6 : xN6 W := by
      rw [hW]
      exact (uxN6 rfl (uxN6 rfl (uxN6 rfl (uxN6 rfl (uxN6 rfl hI.2.2.2.2.2.2.2.2.2.1)))))
    have k_xH1 : xH1 W := by
      rw [hW]
      exact (uxH1 rfl (uxH1 rfl (uxH1 rfl (uxH1 rfl (uxH1 rfl hI.2.2.2.2.2.2.2.2.2.2.1)))))
    have k_xK1 : xK1 W := by
      rw [hW]
      exact (uxK1 rfl (uxK1 rfl (uxK1 rfl (uxK1 rfl (uxK1 rfl hI.2.2.2.2.2.2.2.2.2.2.2.1)))))
    have k_xC1 : xC1 W := by
      rw [hW]
      exact (uxC1 rfl (uxC1 rfl (uxC1 rfl (uxC1 rfl (uxC1 rfl hI.2.2.2.2.2.2.2.2.2.2.2.2.1)))))
    have k_xRW : xRW W := by
      rw [hW]
      exact (uxRW rfl (uxRW rfl (uxRW rfl (uxRW rfl (uxRW rfl hI.2.2.2.2.2.2.2.2.2.2.2.2.2.1)))))
    have k_xWT : xWT W := by
      rw [hW]
      exact (uxWT rfl (uxWT rfl (uxWT rfl (uxWT rfl (uxWT rfl hI.2.2.2.2.2.2.2.2.2.2.2.2.2.2.1)))))
    have k_xCU : xCU W := by
      rw [hW]
      exact (uxCU rfl (uxCU rfl (uxCU rfl (uxCU rfl (uxCU rfl hI.2.2.2.2.2.2.2.2.2.2.2.2.2.2.2.1)))))
    have k_xG2 : xG2 W := by
      rw [hW]
      exact (uxG2 rfl (uxG2 rfl (uxG2 rfl (uxG2 rfl (uxG2 rfl hI.2.2.2.2.2.2.2.2.2.2.2.2.2.2.2.2.1)))))
    have k_xG3 : xG3 W := by
      rw [hW]
      exact (uxG3 rfl (uxG3 rfl (uxG3 rfl (uxG3 rfl (uxG3 rfl hI.2.2.2.2.2.2.2.2.2.2.2.2.2.2.2.2.2.1)))))
    have k_xG4 : xG4 W := by
      rw [hW]
      exact (uxG4 rfl (uxG4 rfl (uxG4 rfl (uxG4 rfl (uxG4 rfl hI.2.2.2.2.2.2.2.2.2.2.2.2.2.2.2.2.2.2.1)))))
    have k_xG5 : xG5 W := by
      rw [hW]
      exact (uxG5 rfl (uxG5 rfl (uxG5 rfl (uxG5 rfl (uxG5 rfl hI.2.2.2.2.2.2.2.2.2.2.2.2.2.2.2.2.2.2.2.1)))))
    have k_xG6 : xG6 W := by
      rw [hW]
      exact (uxG6 rfl (uxG6 rfl (uxG6 rfl (uxG6 rfl (uxG6 rfl hI.2.2.2.2.2.2.2.2.2.2.2.2.2.2.2.2.2.2.2.2.1)))))
    have k_xS1 : xS1 W := by
      rw [hW]
      exact (uxS1 rfl (uxS1 rfl (uxS1 rfl (uxS1 rfl (uxS1 rfl hI.2.2.2.2.2.2.2.2.2.2.2.2.2.2.2.2.2.2.2.2.2.1)))))
    have k_xS2 : xS2 W := by
      rw [hW]
      exact (uxS2 rfl (uxS2 rfl (uxS2 rfl (uxS2 rfl (uxS2 rfl hI.2.2.2.2.2.2.2.2.2.2.2.2.2.2.2.2.2.2.2.2.2.2.1)))))
    have k_xS3 : xS3 W := by
      rw [hW]
      exact (uxS3 rfl (uxS3 rfl (uxS3 rfl (uxS3 rfl (uxS3 rfl hI.2.2.2.2.2.2.2.2.2.2.2.2.2.2.2.2.2.2.2.2.2.2.2.1)))))
    have k_xS4 : xS4 W := by
      rw [hW]
      exact (uxS4 rfl (uxS4 rfl (uxS4 rfl (uxS4 rfl (uxS4 rfl hI.2.2.2.2.2.2.2.2.2.2.2.2.2.2.2.2.2.2.2.2.2.2.2.2.1)))))
    have k_xS5 : xS5 W := by
      rw [hW]
      exact (uxS5 rfl (uxS5 rfl (uxS5 rfl (uxS5 rfl (uxS5 rfl hI.2.2.2.2.2.2.2.2.2.2.2.2.2.2.2.2.2.2.2.2.2.2.2.2.2.1)))))
    have k_xS6 : xS6 W := by
      rw [hW]
      exact (uxS6 rfl (uxS6 rfl (uxS6 rfl (uxS6 rfl (uxS6 rfl hI.2.2.2.2.2.2.2.2.2.2.2.2.2.2.2.2.2.2.2.2.2.2.2.2.2.2.1)))))
    have k_xS7 : xS7 W := by
      rw [hW]
      exact (uxS7 rfl (uxS7 rfl (uxS7 rfl (uxS7 rfl (uxS7 rfl hI.2.2.2.2.2.2.2.2.2.2.2.2.2.2.2.2.2.2.2.2.2.2.2.2.2.2.2.1)))))
    have k_xS8 : xS8 W := by
      rw [hW]
      exact (uxS8 rfl (uxS8 rfl (uxS8 rfl (uxS8 rfl (uxS8 rfl hI.2.2.2.2.2.2.2.2.2.2.2.2.2.2.2.2.2.2.2.2.2.2.2.2.2.2.2.2.1)))))
    have k_xS9 : xS9 W := by
      rw [hW]
      exact (uxS9 rfl (uxS9 rfl (uxS9 rfl (uxS9 rfl (uxS9 rfl hI.2.2.2.2.2.2.2.2.2.2.2.2.2.2.2.2.2.2.2.2.2.2.2.2.2.2.2.2.2.1)))))
    have k_xSA : xSA W := by
      rw [hW]
      exact (uxSA rfl (uxSA rfl (uxSA rfl (uxSA rfl (uxSA rfl hI.2.2.2.2.2.2.2.2.2.2.2.2.2.2.2.2.2.2.2.2.2.2.2.2.2.2.2.2.2.2.1)))))
    have k_xSG : xSG W := by
      rw [hW]
      exact (uxSG rfl (uxSG rfl (uxSG rfl (uxSG rfl (uxSG rfl hI.2.2.2.2.2.2.2.2.2.2.2.2.2.2.2.2.2.2.2.2.2.2.2.2.2.2.2.2.2.2.2.1)))))
    have k_xSF : xSF W := by
      rw [hW]
      exact (uxSF rfl (uxSF rfl (uxSF rfl (uxSF rfl (uxSF rfl hI.2.2.2.2.2.2.2.2.2.2.2.2.2.2.2.2.2.2.2.2.2.2.2.2.2.2.2.2.2.2.2.2.1)))))
    have k_xSB : xSB W := by
      rw [hW]
      exact (uxSB rfl (uxSB rfl (uxSB rfl (uxSB rfl (uxSB rfl hI.2.2.2.2.2.2.2.2.2.2.2.2.2.2.2.2.2.2.2.2.2.2.2.2.2.2.2.2.2.2.2.2.2.1)))))
    have k_xSC : xSC W := by
      rw [hW]
      exact (uxSC rfl (uxSC rfl (uxSC rfl (uxSC rfl (uxSC rfl hI.2.2.2.2.2.2.2.2.2.2.2.2.2.2.2.2.2.2.2.2.2.2.2.2.2.2.2.2.2.2.2.2.2.2.1)))))
    have k_xSD : xSD W := by
      rw [hW]
      exact (uxSD rfl (uxSD rfl (uxSD rfl (uxSD rfl (uxSD rfl hI.2.2.2.2.2.2.2.2.2.2.2.2.2.2.2.2.2.2.2.2.2.2.2.2.2.2.2.2.2.2.2.2.2.2.2.1)))))
    have k_xSE : xSE W := by
      rw [hW]
      exact (uxSE rfl (uxSE rfl (uxSE rfl (uxSE rfl (uxSE rfl hI.2.2.2.2.2.2.2.2.2.2.2.2.2.2.2.2.2.2.2.2.2.2.2.2.2.2.2.2.2.2.2.2.2.2.2.2.1)))))
    have k_xSW : xSW W := by
      rw [hW]
      exact (uxSW rfl (uxSW rfl (uxSW rfl (uxSW rfl (uxSW rfl hI.2.2.2.2.2.2.2.2.2.2.2.2.2.2.2.2.2.2.2.2.2.2.2.2.2.2.2.2.2.2.2.2.2.2.2.2.2.1)))))
    have k_xST : xST W := by
      rw [hW]
      exact (uxST rfl (uxST rfl (uxST rfl (uxST rfl (uxST rfl hI.2.2.2.2.2.2.2.2.2.2.2.2.2.2.2.2.2.2.2.2.2.2.2.2.2.2.2.2.2.2.2.2.2.2.2.2.2.2.1)))))
    have k_xSP : xSP W := by
      rw [hW]
      exact (uxSP rfl (uxSP rfl (uxSP rfl (uxSP rfl (uxSP rfl hI.2.2.2.2.2.2.2.2.2.2.2.2.2.2.2.2.2.2.2.2.2.2.2.2.2.2.2.2.2.2.2.2.2.2.2.2.2.2.2.1)))))
    have k_xSL : xSL W := by
      rw [hW]
      exact (uxSL rfl (uxSL rfl (uxSL rfl (uxSL rfl (uxSL rfl hI.2.2.2.2.2.2.2.2.2.2.2.2.2.2.2.2.2.2.2.2.2.2.2.2.2.2.2.2.2.2.2.2.2.2.2.2.2.2.2.2.1)))))
    have k_xSM : xSM W := by
      rw [hW]
      exact (uxSM rfl (uxSM rfl (uxSM rfl (uxSM rfl (uxSM rfl hI.2.2.2.2.2.2.2.2.2.2.2.2.2.2.2.2.2.2.2.2.2.2.2.2.2.2.2.2.2.2.2.2.2.2.2.2.2.2.2.2.2.1)))))
    have k_xSI : xSI W := by
      rw [hW]
      exact (uxSI rfl (uxSI rfl (uxSI rfl (uxSI rfl (uxSI rfl hI.2.2.2.2.2.2.2.2.2.2.2.2.2.2.2.2.2.2.2.2.2.2.2.2.2.2.2.2.2.2.2.2.2.2.2.2.2.2.2.2.2.2.1)))))
    have k_xD3 : xD3 W := by
      rw [hW]
      exact (uxD3 rfl (uxD3 rfl (uxD3 rfl (uxD3 rfl (uxD3 rfl hI.2.2.2.2.2.2.2.2.2.2.2.2.2.2.2.2.2.2.2.2.2.2.2.2.2.2.2.2.2.2.2.2.2.2.2.2.2.2.2.2.2.2.2.1)))))
    have k_xDV : xDV W := by
      rw [hW]
      exact (uxDV rfl (uxDV rfl (uxDV rfl (uxDV rfl (uxDV rfl hI.2.2.2.2.2.2.2.2.2.2.2.2.2.2.2.2.2.2.2.2.2.2.2.2.2.2.2.2.2.2.2.2.2.2.2.2.2.2.2.2.2.2.2.2.1)))))
    have k_xDP : xDP W := by
      rw [hW]
      exact (uxDP rfl (uxDP rfl (uxDP rfl (uxDP rfl (uxDP rfl hI.2.2.2.2.2.2.2.2.2.2.2.2.2.2.2.2.2.2.2.2.2.2.2.2.2.2.2.2.2.2.2.2.2.2.2.2.2.2.2.2.2.2.2.2.2.1)))))
    have k_xDE : xDE W := by
      rw [hW]
      exact (uxDE rfl (uxDE rfl (uxDE rfl (uxDE rfl (uxDE rfl hI.2.2.2.2.2.2.2.2.2.2.2.2.2.2.2.2.2.2.2.2.2.2.2.2.2.2.2.2.2.2.2.2.2.2.2.2.2.2.2.2.2.2.2.2.2.2.1)))))
    have k_xQ5 : xQ5 W := by
      have r4_350 : W 4 350 = 5 * ρ 0 + 0 := by rw [hW, sU_ne (fun z => by omega), sU_ne (fun z => by omega), sU_ne (fun z => by omega), sU_ne (fun z => by omega), sU_at]
      have r4_351 : W 4 351 = 0 := by rw [hW, sU_ne (fun z => by omega), sU_ne (fun z => by omega), sU_ne (fun z => by omega), sU_at]
      have r4_352 : W 4 352 = 1 * ρ 0 + 0 := by rw [hW, sU_ne (fun z => by omega), sU_ne (fun z => by omega), sU_at]
      have r4_353 : W 4 353 = 1 * ρ 1 + 0 := by rw [hW, sU_ne (fun z => by omega), sU_at]
      have r4_354 : W 4 354 = 1 * (tFi (dNm M (1)) (1 * ρ 1 + 0) (dCn M (1)).toNat) + 0 := by rw [hW, sU_at]
      have r93_0 : W 93 0 = M 93 0 := by rw [hW, sU_ne (fun z => by omega), sU_ne (fun z => by omega), sU_ne (fun z => by omega), sU_ne (fun z => by omega), sU_ne (fun z => by omega)]
      have r93_1 : W 93 1 = M 93 1 := by rw [hW, sU_ne (fun z => by omega), sU_ne (fun z => by omega), sU_ne (fun z => by omega), sU_ne (fun z => by omega), sU_ne (fun z => by omega)]
      have r93_2 : W 93 2 = M 93 2 := by rw [hW, sU_ne (fun z => by omega), sU_ne (fun z => by omega), sU_ne (fun z => by omega), sU_ne (fun z => by omega), sU_ne (fun z => by omega)]
      have c94 : ∀ k, W 94 k = M 94 k := fun k => by rw [hW, sU_ne (fun z => by omega), sU_ne (fun z => by omega), sU_ne (fun z => by omega), sU_ne (fun z => by omega), sU_ne (fun z => by omega)]
      have e94 : W 94 = M 94 := funext c94
      have c100 : ∀ k, W 100 k = M 100 k := fun k => by rw [hW, sU_ne (fun z => by omega), sU_ne (fun z => by omega), sU_ne (fun z => by omega), sU_ne (fun z => by omega), sU_ne (fun z => by omega)]
      have e100 : W 100 = M 100 := funext c100
      have c104 : ∀ k, W 104 k = M 104 k := fun k => by rw [hW, sU_ne (fun z => by omega), sU_ne (fun z => by omega), sU_ne (fun z => by omega), sU_ne (fun z => by omega), sU_ne (fun z => by omega)]
      have e104 : W 104 = M 104 := funext c104
      intro _
      have hn : ∀ w, dNm W w = dNm M w := fun w => funext fun j => by unfold dNm; rw [c94, c100, c104]
      have hc : ∀ w, dCn W w = dCn M w := fun w => by unfold dCn; rw [r93_0, r93_1, r93_2]
      rw [r4_354, r4_352, r4_353, r4_351, hn, hc]
      (try rw [h0])
      refine ⟨?_, Int.le_refl _, rfl⟩
      rw [show ∀ z : Int, 1 * z + 0 = z from fun z => by omega]
    have k_xQL : xQL W := by
      have r : W 4 350 = 5 := by rw [hW, sU_ne (fun z => by omega), sU_ne (fun z => by omega), sU_ne (fun z => by omega), sU_ne (fun z => by omega), sU_at]; rw [h0]; rfl
      intro h
      rw [r] at h
      omega
    have k_xQW : xQW W := by
      have r : W 4 350 = 5 := by rw [hW, sU_ne (fun z => by omega), sU_ne (fun z => by omega), sU_ne (fun z => by omega), sU_ne (fun z => by omega), sU_at]; rw [h0]; rfl
      intro h
      rw [r] at h
      omega
    have k_xQM : xQM W := by
      rw [hW]
      exact (uxQM rfl (uxQM rfl (uxQM rfl (uxQM rfl (uxQM rfl hI.2.2.2.2.2.2.2.2.2.2.2.2.2.2.2.2.2.2.2.2.2.2.2.2.2.2.2.2.2.2.2.2.2.2.2.2.2.2.2.2.2.2.2.2.2.2.2.2.2.2.1)))))
    have k_xQH : xQH W := by
      have r : W 4 350 = 5 := by rw [hW, sU_ne (fun z => by omega), sU_ne (fun z => by omega), sU_ne (fun z => by omega), sU_ne (fun z => by omega), sU_at]; rw [h0]; rfl
      intro h
      rw [r] at h
      omega
    have k_XC : XC W := ⟨k_xS1, k_xS2, k_xS3, k_xS4, k_xS5, k_xS6, k_xS7, k_xS8, k_xS9, k_xSA, k_xSG, k_xSF, k_xSB, k_xSC, k_xSD, k_xSE, k_xSW, k_xST, k_xSP, k_xSL, k_xSM, k_xSI, k_xD3, k_xDV, k_xDP, k_xDE, k_xQ5, k_xQL, k_xQW, k_xQM, k_xQH⟩
    have kXB : XB W := ⟨k_xN1, k_xN2, k_xN3, k_xN4, k_xN5, k_xN6, k_xH1, k_xK1, k_xC1, k_xRW, k_xWT, k_xCU, k_xG2, k_xG3, k_xG4, k_xG5, k_xG6, k_XC⟩
    exact ⟨base, k2, k3, kXA, kXB⟩
-- qMiss5_1L
def xr_634 : qRu := (6, [[(-1, 1), (1, 4)], [(1, 1), (-1, 4)], [(-1, 0), (1, 3), (-1, 5)]], [(4, 350, [(5, 0)]), (4, 351, [(1, 1)]), (4, 353, [(1, 3)]), (4, 352, [(1, 0)]), (100, 1004, [(1, 5)])], [], [(4, 351, [(1, 0), (1, 1)])], [])
theorem xo_634 : qRok xr_634 := by
  intro ρ M h0 hf hm hI
  have f0 := hf [(-1, 1), (1, 4)] (by decide)
  have f1 := hf [(1, 1), (-1, 4)] (by decide)
  have f2 := hf [(-1, 0), (1, 3), (-1, 5)] (by decide)
  simp only [qD, h0] at f0 f1 f2
  have m0 : M 4 350 = 5 * ρ 0 + 0 := hm (4, 350, [(5, 0)]) (by decide)
  have m1 : M 4 351 = 1 * ρ 1 + 0 := hm (4, 351, [(1, 1)]) (by decide)
  have m2 : M 4 353 = 1 * ρ 3 + 0 := hm (4, 353, [(1, 3)]) (by decide)
  have m3 : M 4 352 = 1 * ρ 0 + 0 := hm (4, 352, [(1, 0)]) (by decide)
  have m4 : M 100 (zIx ρ (1000 + 4)) = 1 * ρ 5 + 0 := hm (100, 1004, [(1, 5)]) (by decide)
  rw [zix_p] at m4
  simp only [h0] at m0 m3
  have qxQ5 := hI.2.2.2.2.2.2.2.2.2.2.2.2.2.2.2.2.2.2.2.2.2.2.2.2.2.2.2.2.2.2.2.2.2.2.2.2.2.2.2.2.2.2.2.2.2.2.2.1
  refine ⟨ρ, fun _ _ => rfl, fun f h => ?_, ?_⟩
  · exact nomatch h
  · show sI (sU M 4 351 (1 * ρ 0 + (1 * ρ 1 + 0)))
    obtain ⟨W, hW⟩ : ∃ W, W = (sU M 4 351 (1 * ρ 0 + (1 * ρ 1 + 0))) := ⟨_, rfl⟩
    rw [← hW]
    have base : sI0 W := by
      rw [hW]
      exact (si_u0 hI.1 (fun r hr => by cases hr))
    have k2 : XI2 W := by
      rw [hW]
      exact (xi2_u rfl hI.2.1)
    have k3 : XI3 W := by
      rw [hW]
      exact (xi3_u rfl hI.2.2.1)
    have kXA : XA W := by
      rw [hW]
      exact (uXA rfl hI.2.2.2.1)
    have k_xN1 : xN1 W := by
      rw [hW]
      exact (uxN1 rfl hI.2.2.2.2.1)
    have k_xN2 : xN2 W := by
      rw [hW]
      exact (uxN2 rfl hI.2.2.2.2.2.1)
    have k_xN3 : xN3 W := by
      rw [hW]
      exact (uxN3 rfl hI.2.2.2.2.2.2.1)
    have k_xN4 : xN4 W := by
      rw [hW]
      exact (uxN4 rfl hI.2.2.2.2.2.2.2.1)
    have k_xN5 : xN5 W := by
      rw [hW]
      exact (uxN5 rfl hI.2.2.2.2.2.2.2.2.1)
    have k_xN6 : xN6 W := by
      rw [hW]
      exact (uxN6 rfl hI.2.2.2.2.2.2.2.2.2.1)
    have k_xH1 : xH1 W := by
      rw [hW]
      exact (uxH1 rfl hI.2.2.2.2.2.2.2.2.2.2.1)
    have k_xK1 : xK1 W := by
      rw [hW]
      exact (uxK1 rfl hI.2.2.2.2.2.2.2.2.2.2.2.1)
    have k_xC1 : xC1 W := by
      rw [hW]
      exact (uxC1 rfl hI.2.2.2.2.2.2.2.2.2.2.2.2.1)
    have k_xRW : xRW W := by
      rw [hW]
      exact (uxRW rfl hI.2.2.2.2.2.2.2.2.2.2.2.2.2.1)
    have k_xWT : xWT W := by
      rw [hW]
      exact (uxWT rfl hI.2.2.2.2.2.2.2.2.2.2.2.2.2.2.1)
    have k_xCU : xCU W := by
      rw [hW]
      exact (uxCU rfl hI.2.2.2.2.2.2.2.2.2.2.2.2.2.2.2.1)
    have k_xG2 : xG2 W := by
      rw [hW]
      exact (uxG2 rfl hI.2.2.2.2.2.2.2.2.2.2.2.2.2.2.2.2.1)
    have k_xG3 : xG3 W := by
      rw [hW]
      exact (uxG3 rfl hI.2.2.2.2.2.2.2.2.2.2.2.2.2.2.2.2.2.1)
    have k_xG4 : xG4 W := by
      rw [hW]
      exact (uxG4 rfl hI.2.2.2.2.2.2.2.2.2.2.2.2.2.2.2.2.2.2.1)
    have k_xG5 : xG5 W := by
      rw [hW]
      exact (uxG5 rfl hI.2.2.2.2.2.2.2.2.2.2.2.2.2.2.2.2.2.2.2.1)
    have k_xG6 : xG6 W := by
      rw [hW]
      exact (uxG6 rfl hI.2.2.2.2.2.2.2.2.2.2.2.2.2.2.2.2.2.2.2.2.1)
    have k_xS1 : xS1 W := by
      rw [hW]
      exact (uxS1 rfl hI.2.2.2.2.2.2.2.2.2.2.2.2.2.2.2.2.2.2.2.2.2.1)
    have k_xS2 : xS2 W := by
      rw [hW]
      exact (uxS2 rfl hI.2.2.2.2.2.2.2.2.2.2.2.2.2.2.2.2.2.2.2.2.2.2.1)
    have k_xS3 : xS3 W := by
      rw [hW]
      exact (uxS3 rfl hI.2.2.2.2.2.2.2.2.2.2.2.2.2.2.2.2.2.2.2.2.2.2.2.1)
    have k_xS4 : xS4 W := by
      rw [hW]
      exact (uxS4 rfl hI.2.2.2.2.2.2.2.2.2.2.2.2.2.2.2.2.2.2.2.2.2.2.2.2.1)
    have k_xS5 : xS5 W := by
      rw [hW]
      exact (uxS5 rfl hI.2.2.2.2.2.2.2.2.2.2.2.2.2.2.2.2.2.2.2.2.2.2.2.2.2.1)
    have k_xS6 : xS6 W := by
      rw [hW]
      exact (uxS6 rfl hI.2.2.2.2.2.2.2.2.2.2.2.2.2.2.2.2.2.2.2.2.2.2.2.2.2.2.1)
    have k_xS7 : xS7 W := by
      rw [hW]
      exact (uxS7 rfl hI.2.2.2.2.2.2.2.2.2.2.2.2.2.2.2.2.2.2.2.2.2.2.2.2.2.2.2.1)
    have k_xS8 : xS8 W := by
      rw [hW]
      exact (uxS8 rfl hI.2.2.2.2.2.2.2.2.2.2.2.2.2.2.2.2.2.2.2.2.2.2.2.2.2.2.2.2.1)
    have k_xS9 : xS9 W := by
      rw [hW]
      exact (uxS9 rfl hI.2.2.2.2.2.2.2.2.2.2.2.2.2.2.2.2.2.2.2.2.2.2.2.2.2.2.2.2.2.1)
    have k_xSA : xSA W := by
      rw [hW]
      exact (uxSA rfl hI.2.2.2.2.2.2.2.2.2.2.2.2.2.2.2.2.2.2.2.2.2.2.2.2.2.2.2.2.2.2.1)
    have k_xSG : xSG W := by
      rw [hW]
      exact (uxSG rfl hI.2.2.2.2.2.2.2.2.2.2.2.2.2.2.2.2.2.2.2.2.2.2.2.2.2.2.2.2.2.2.2.1)
    have k_xSF : xSF W := by
      rw [hW]
      exact (uxSF rfl hI.2.2.2.2.2.2.2.2.2.2.2.2.2.2.2.2.2.2.2.2.2.2.2.2.2.2.2.2.2.2.2.2.1)
    have k_xSB : xSB W := by
      rw [hW]
      exact (uxSB rfl hI.2.2.2.2.2.2.2.2.2.2.2.2.2.2.2.2.2.2.2.2.2.2.2.2.2.2.2.2.2.2.2.2.2.1)
    have k_xSC : xSC W := by
      rw [hW]
      exact (uxSC rfl hI.2.2.2.2.2.2.2.2.2.2.2.2.2.2.2.2.2.2.2.2.2.2.2.2.2.2.2.2.2.2.2.2.2.2.1)
    have k_xSD : xSD W := by
      rw [hW]
      exact (uxSD rfl hI.2.2.2.2.2.2.2.2.2.2.2.2.2.2.2.2.2.2.2.2.2.2.2.2.2.2.2.2.2.2.2.2.2.2.2.1)
    have k_xSE : xSE W := by
      rw [hW]
      exact (uxSE rfl hI.2.2.2.2.2.2.2.2.2.2.2.2.2.2.2.2.2.2.2.2.2.2.2.2.2.2.2.2.2.2.2.2.2.2.2.2.1)
    have k_xSW : xSW W := by
      rw [hW]
      exact (uxSW rfl hI.2.2.2.2.2.2.2.2.2.2.2.2.2.2.2.2.2.2.2.2.2.2.2.2.2.2.2.2.2.2.2.2.2.2.2.2.2.1)
    have k_xST : xST W := by
      rw [hW]
      exact (uxST rfl hI.2.2.2.2.2.2.2.2.2.2.2.2.2.2.2.2.2.2.2.2.2.2.2.2.2.2.2.2.2.2.2.2.2.2.2.2.2.2.1)
    have k_xSP : xSP W := by
      rw [hW]
      exact (uxSP rfl hI.2.2.2.2.2.2.2.2.2.2.2.2.2.2.2.2.2.2.2.2.2.2.2.2.2.2.2.2.2.2.2.2.2.2.2.2.2.2.2.1)
    have k_xSL : xSL W := by
      rw [hW]
      exact (uxSL rfl hI.2.2.2.2.2.2.2.2.2.2.2.2.2.2.2.2.2.2.2.2.2.2.2.2.2.2.2.2.2.2.2.2.2.2.2.2.2.2.2.2.1)
    have k_xSM : xSM W := by
      rw [hW]
      exact (uxSM rfl hI.2.2.2.2.2.2.2.2.2.2.2.2.2.2.2.2.2.2.2.2.2.2.2.2.2.2.2.2.2.2.2.2.2.2.2.2.2.2.2.2.2.1)
    have k_xSI : xSI W := by
      rw [hW]
      exact (uxSI rfl hI.2.2.2.2.2.2.2.2.2.2.2.2.2.2.2.2.2.2.2.2.2.2.2.2.2.2.2.2.2.2.2.2.2.2.2.2.2.2.2.2.2.2.1)
    have k_xD3 : xD3 W := by
      rw [hW]
      exact (uxD3 rfl hI.2.2.2.2.2.2.2.2.2.2.2.2.2.2.2.2.2.2.2.2.2.2.2.2.2.2.2.2.2.2.2.2.2.2.2.2.2.2.2.2.2.2.2.1)
    have k_xDV : xDV W := by
      rw [hW]
      exact (uxDV rfl hI.2.2.2.2.2.2.2.2.2.2.2.2.2.2.2.2.2.2.2.2.2.2.2.2.2.2.2.2.2.2.2.2.2.2.2.2.2.2.2.2.2.2.2.2.1)
    have k_xDP : xDP W := by
      rw [hW]
      exact (uxDP rfl hI.2.2.2.2.2.2.2.2.2.2.2.2.2.2.2.2.2.2.2.2.2.2.2.2.2.2.2.2.2.2.2.2.2.2.2.2.2.2.2.2.2.2.2.2.2.1)
    have k_xDE : xDE W := by
      rw [hW]
      exact (uxDE rfl hI.2.2.2.2.2.2.2.2.2.2.2.2.2.2.2.2.2.2.2.2.2.2.2.2.2.2.2.2.2.2.2.2.2.2.2.2.2.2.2.2.2.2.2.2.2.2.1)
    have k_xQ5 : xQ5 W := by
      have r4_350 : W 4 350 = M 4 350 := by rw [hW, sU_ne (fun z => by omega)]
      have r4_351 : W 4 351 = 1 * ρ 0 + (1 * ρ 1 + 0) := by rw [hW, sU_at]
      have r4_352 : W 4 352 = M 4 352 := by rw [hW, sU_ne (fun z => by omega)]
      have r4_353 : W 4 353 = M 4 353 := by rw [hW, sU_ne (fun z => by omega)]
      have r4_354 : W 4 354 = M 4 354 := by rw [hW, sU_ne (fun z => by omega)]
      have r93_0 : W 93 0 = M 93 0 := by rw [hW, sU_ne (fun z => by omega)]
      have r93_1 : W 93 1 = M 93 1 := by rw [hW, sU_ne (fun z => by omega)]
      have r93_2 : W 93 2 = M 93 2 := by rw [hW, sU_ne (fun z => by omega)]
      have c94 : ∀ k, W 94 k = M 94 k := fun k => by rw [hW, sU_ne (fun z => by omega)]
      have e94 : W 94 = M 94 := funext c94
      have c100 : ∀ k, W 100 k = M 100 k := fun k => by rw [hW, sU_ne (fun z => by omega)]
      have e100 : W 100 = M 100 := funext c100
      have c104 : ∀ k, W 104 k = M 104 k := fun k => by rw [hW, sU_ne (fun z => by omega)]
      have e104 : W 104 = M 104 := funext c104
      intro _
      obtain ⟨b0, b1, b2⟩ := gx_xQ5 hI (by omega)
      have hn : ∀ w, dNm W w = dNm M w := fun w => funext fun j => by unfold dNm; rw [c94, c100, c104]
      have hc : ∀ w, dCn W w = dCn M w := fun w => by unfold dCn; rw [r93_0, r93_1, r93_2]
      rw [r4_354, r4_352, r4_353, r4_351, hn, hc]
      refine ⟨b0, by rw [h0]; omega, ?_⟩
      rw [show (1 * ρ 0 + (1 * ρ 1 + 0)).toNat = (M 4 351).toNat + 1 by rw [h0]; omega]
      refine tfi_no b2 ?_
      rw [show M 4 352 = 1 by omega]
      show M 100 (M 4 351).toNat ≠ M 4 353
      rw [show (M 4 351).toNat = (ρ 4).toNat by omega]
      omega
    have k_xQL : xQL W := by
      rw [hW]
      exact (uxQL rfl hI.2.2.2.2.2.2.2.2.2.2.2.2.2.2.2.2.2.2.2.2.2.2.2.2.2.2.2.2.2.2.2.2.2.2.2.2.2.2.2.2.2.2.2.2.2.2.2.2.1)
    have k_xQW : xQW W := by
      rw [hW]
      exact (uxQW rfl hI.2.2.2.2.2.2.2.2.2.2.2.2.2.2.2.2.2.2.2.2.2.2.2.2.2.2.2.2.2.2.2.2.2.2.2.2.2.2.2.2.2.2.2.2.2.2.2.2.2.1)
    have k_xQM : xQM W := by
      rw [hW]
      exact (uxQM rfl hI.2.2.2.2.2.2.2.2.2.2.2.2.2.2.2.2.2.2.2.2.2.2.2.2.2.2.2.2.2.2.2.2.2.2.2.2.2.2.2.2.2.2.2.2.2.2.2.2.2.2.1)
    have k_xQH : xQH W := by
      rw [hW]
      exact (uxQH rfl hI.2.2.2.2.2.2.2.2.2.2.2.2.2.2.2.2.2.2.2.2.2.2.2.2.2.2.2.2.2.2.2.2.2.2.2.2.2.2.2.2.2.2.2.2.2.2.2.2.2.2.2)
    have k_XC : XC W := ⟨k_xS1, k_xS2, k_xS3, k_xS4, k_xS5, k_xS6, k_xS7, k_xS8, k_xS9, k_xSA, k_xSG, k_xSF, k_xSB, k_xSC, k_xSD, k_xSE, k_xSW, k_xST, k_xSP, k_xSL, k_xSM, k_xSI, k_xD3, k_xDV, k_xDP, k_xDE, k_xQ5, k_xQL, k_xQW, k_xQM, k_xQH⟩
    have kXB : XB W := ⟨k_xN1, k_xN2, k_xN3, k_xN4, k_xN5, k_xN6, k_xH1, k_xK1, k_xC1, k_xRW, k_xWT, k_xCU, k_xG2, k_xG3, k_xG4, k_xG5, k_xG6, k_XC⟩
    exact ⟨base, k2, k3, kXA, kXB⟩
-- qMiss5_1H
def xr_635 : qRu := (6, [[(-1, 1), (1, 4)], [(1, 1), (-1, 4)], [(-1, 0), (-1, 3), (1, 5)]], [(4, 350, [(5, 0)]), (4, 351, [(1, 1)]), (4, 353, [(1, 3)]), (4, 352, [(1, 0)]), (100, 1004, [(1, 5)])], [], [(4, 351, [(1, 0), (1, 1)])], [])
theorem xo_635 : qRok xr_635 := by
  intro ρ M h0 hf hm hI
  have f0 := hf [(-1, 1), (1, 4)] (by decide)
  have f1 := hf [(1, 1), (-1, 4)] (by decide)
  have f2 := hf [(-1, 0), (-1, 3), (1, 5)] (by decide)
  simp only [qD, h0] at f0 f1 f2
  have m0 : M 4 350 = 5 * ρ 0 + 0 := hm (4, 350, [(5, 0)]) (by decide)
  have m1 : M 4 351 = 1 * ρ 1 + 0 := hm (4, 351, [(1, 1)]) (by decide)
  have m2 : M 4 353 = 1 * ρ 3 + 0 := hm (4, 353, [(1, 3)]) (by decide)
  have m3 : M 4 352 = 1 * ρ 0 + 0 := hm (4, 352, [(1, 0)]) (by decide)
  have m4 : M 100 (zIx ρ (1000 + 4)) = 1 * ρ 5 + 0 := hm (100, 1004, [(1, 5)]) (by decide)
  rw [zix_p] at m4
  simp only [h0] at m0 m3
  have qxQ5 := hI.2.2.2.2.2.2.2.2.2.2.2.2.2.2.2.2.2.2.2.2.2.2.2.2.2.2.2.2.2.2.2.2.2.2.2.2.2.2.2.2.2.2.2.2.2.2.2.1
  refine ⟨ρ, fun _ _ => rfl, fun f h => ?_, ?_⟩
  · exact nomatch h
  · show sI (sU M 4 351 (1 * ρ 0 + (1 * ρ 1 + 0)))
    obtain ⟨W, hW⟩ : ∃ W, W = (sU M 4 351 (1 * ρ 0 + (1 * ρ 1 + 0))) := ⟨_, rfl⟩
    rw [← hW]
    have base : sI0 W := by
      rw [hW]
      exact (si_u0 hI.1 (fun r hr => by cases hr))
    have k2 : XI2 W := by
      rw [hW]
      exact (xi2_u rfl hI.2.1)
    have k3 : XI3 W := by
      rw [hW]
      exact (xi3_u rfl hI.2.2.1)
    have kXA : XA W := by
      rw [hW]
      exact (uXA rfl hI.2.2.2.1)
    have k_xN1 : xN1 W := by
      rw [hW]
      exact (uxN1 rfl hI.2.2.2.2.1)
    have k_xN2 : xN2 W := by
      rw [hW]
      exact (uxN2 rfl hI.2.2.2.2.2.1)
    have k_xN3 : xN3 W := by
      rw [hW]
      exact (uxN3 rfl hI.2.2.2.2.2.2.1)
    have k_xN4 : xN4 W := by
      rw [hW]
      exact (uxN4 rfl hI.2.2.2.2.2.2.2.1)
    have k_xN5 : xN5 W := by
      rw [hW]
      exact (uxN5 rfl hI.2.2.2.2.2.2.2.2.1)
    have k_xN6 : xN6 W := by
      rw [hW]
      exact (uxN6 rfl hI.2.2.2.2.2.2.2.2.2.1)
    have k_xH1 : xH1 W := by
      rw [hW]
      exact (uxH1 rfl hI.2.2.2.2.2.2.2.2.2.2.1)
    have k_xK1 : xK1 W := by
      rw [hW]
      exact (uxK1 rfl hI.2.2.2.2.2.2.2.2.2.2.2.1)
    have k_xC1 : xC1 W := by
      rw [hW]
      exact (uxC1 rfl hI.2.2.2.2.2.2.2.2.2.2.2.2.1)
    have k_xRW : xRW W := by
      rw [hW]
      exact (uxRW rfl hI.2.2.2.2.2.2.2.2.2.2.2.2.2.1)
    have k_xWT : xWT W := by
      rw [hW]
      exact (uxWT rfl hI.2.2.2.2.2.2.2.2.2.2.2.2.2.2.1)
    have k_xCU : xCU W := by
      rw [hW]
      exact (uxCU rfl hI.2.2.2.2.2.2.2.2.2.2.2.2.2.2.2.1)
    have k_xG2 : xG2 W := by
      rw [hW]
      exact (uxG2 rfl hI.2.2.2.2.2.2.2.2.2.2.2.2.2.2.2.2.1)
    have k_xG3 : xG3 W := by
      rw [hW]
      exact (uxG3 rfl hI.2.2.2.2.2.2.2.2.2.2.2.2.2.2.2.2.2.1)
    have k_xG4 : xG4 W := by
      rw [hW]
      exact (uxG4 rfl hI.2.2.2.2.2.2.2.2.2.2.2.2.2.2.2.2.2.2.1)
    have k_xG5 : xG5 W := by
      rw [hW]
      exact (uxG5 rfl hI.2.2.2.2.2.2.2.2.2.2.2.2.2.2.2.2.2.2.2.1)
    have k_xG6 : xG6 W := by
      rw [hW]
      exact (uxG6 rfl hI.2.2.2.2.2.2.2.2.2.2.2.2.2.2.2.2.2.2.2.2.1)
    have k_xS1 : xS1 W := by
      rw [hW]
      exact (uxS1 rfl hI.2.2.2.2.2.2.2.2.2.2.2.2.2.2.2.2.2.2.2.2.2.1)
    have k_xS2 : xS2 W := by
      rw [hW]
      exact (uxS2 rfl hI.2.2.2.2.2.2.2.2.2.2.2.2.2.2.2.2.2.2.2.2.2.2.1)
    have k_xS3 : xS3 W := by
      rw [hW]
      exact (uxS3 rfl hI.2.2.2.2.2.2.2.2.2.2.2.2.2.2.2.2.2.2.2.2.2.2.2.1)
    have k_xS4 : xS4 W := by
      rw [hW]
      exact (uxS4 rfl hI.2.2.2.2.2.2.2.2.2.2.2.2.2.2.2.2.2.2.2.2.2.2.2.2.1)
    have k_xS5 : xS5 W := by
      rw [hW]
      exact (uxS5 rfl hI.2.2.2.2.2.2.2.2.2.2.2.2.2.2.2.2.2.2.2.2.2.2.2.2.2.1)
    have k_xS6 : xS6 W := by
      rw [hW]
      exact (uxS6 rfl hI.2.2.2.2.2.2.2.2.2.2.2.2.2.2.2.2.2.2.2.2.2.2.2.2.2.2.1)
    have k_xS7 : xS7 W := by
      rw [hW]
      exact (uxS7 rfl hI.2.2.2.2.2.2.2.2.2.2.2.2.2.2.2.2.2.2.2.2.2.2.2.2.2.2.2.1)
    have k_xS8 : xS8 W := by
      rw [hW]
      exact (uxS8 rfl hI.2.2.2.2.2.2.2.2.2.2.2.2.2.2.2.2.2.2.2.2.2.2.2.2.2.2.2.2.1)
    have k_xS9 : xS9 W := by
      rw [hW]
      exact (uxS9 rfl hI.2.2.2.2.2.2.2.2.2.2.2.2.2.2.2.2.2.2.2.2.2.2.2.2.2.2.2.2.2.1)
    have k_xSA : xSA W := by
      rw [hW]
      exact (uxSA rfl hI.2.2.2.2.2.2.2.2.2.2.2.2.2.2.2.2.2.2.2.2.2.2.2.2.2.2.2.2.2.2.1)
    have k_xSG : xSG W := by
      rw [hW]
      exact (uxSG rfl hI.2.2.2.2.2.2.2.2.2.2.2.2.2.2.2.2.2.2.2.2.2.2.2.2.2.2.2.2.2.2.2.1)
    have k_xSF : xSF W := by
      rw [hW]
      exact (uxSF rfl hI.2.2.2.2.2.2.2.2.2.2.2.2.2.2.2.2.2.2.2.2.2.2.2.2.2.2.2.2.2.2.2.2.1)
    have k_xSB : xSB W := by
      rw [hW]
      exact (uxSB rfl hI.2.2.2.2.2.2.2.2.2.2.2.2.2.2.2.2.2.2.2.2.2.2.2.2.2.2.2.2.2.2.2.2.2.1)
    have k_xSC : xSC W := by
      rw [hW]
      exact (uxSC rfl hI.2.2.2.2.2.2.2.2.2.2.2.2.2.2.2.2.2.2.2.2.2.2.2.2.2.2.2.2.2.2.2.2.2.2.1)
    have k_xSD : xSD W := by
      rw [hW]
      exact (uxSD rfl hI.2.2.2.2.2.2.2.2.2.2.2.2.2.2.2.2.2.2.2.2.2.2.2.2.2.2.2.2.2.2.2.2.2.2.2.1)
    have k_xSE : xSE W := by
      rw [hW]
      exact (uxSE rfl hI.2.2.2.2.2.2.2.2.2.2.2.2.2.2.2.2.2.2.2.2.2.2.2.2.2.2.2.2.2.2.2.2.2.2.2.2.1)
    have k_xSW : xSW W := by
      rw [hW]
      exact (uxSW rfl hI.2.2.2.2.2.2.2.2.2.2.2.2.2.2.2.2.2.2.2.2.2.2.2.2.2.2.2.2.2.2.2.2.2.2.2.2.2.1)
    have k_xST : xST W := by
      rw [hW]
      exact (uxST rfl hI.2.2.2.2.2.2.2.2.2.2.2.2.2.2.2.2.2.2.2.2.2.2.2.2.2.2.2.2.2.2.2.2.2.2.2.2.2.2.1)
    have k_xSP : xSP W := by
      rw [hW]
      exact (uxSP rfl hI.2.2.2.2.2.2.2.2.2.2.2.2.2.2.2.2.2.2.2.2.2.2.2.2.2.2.2.2.2.2.2.2.2.2.2.2.2.2.2.1)
    have k_xSL : xSL W := by
      rw [hW]
      exact (uxSL rfl hI.2.2.2.2.2.2.2.2.2.2.2.2.2.2.2.2.2.2.2.2.2.2.2.2.2.2.2.2.2.2.2.2.2.2.2.2.2.2.2.2.1)
    have k_xSM : xSM W := by
      rw [hW]
      exact (uxSM rfl hI.2.2.2.2.2.2.2.2.2.2.2.2.2.2.2.2.2.2.2.2.2.2.2.2.2.2.2.2.2.2.2.2.2.2.2.2.2.2.2.2.2.1)
    have k_xSI : xSI W := by
      rw [hW]
      exact (uxSI rfl hI.2.2.2.2.2.2.2.2.2.2.2.2.2.2.2.2.2.2.2.2.2.2.2.2.2.2.2.2.2.2.2.2.2.2.2.2.2.2.2.2.2.2.1)
    have k_xD3 : xD3 W := by
      rw [hW]
      exact (uxD3 rfl hI.2.2.2.2.2.2.2.2.2.2.2.2.2.2.2.2.2.2.2.2.2.2.2.2.2.2.2.2.2.2.2.2.2.2.2.2.2.2.2.2.2.2.2.1)
    have k_xDV : xDV W := by
      rw [hW]
      exact (uxDV rfl hI.2.2.2.2.2.2.2.2.2.2.2.2.2.2.2.2.2.2.2.2.2.2.2.2.2.2.2.2.2.2.2.2.2.2.2.2.2.2.2.2.2.2.2.2.1)
    have k_xDP : xDP W := by
      rw [hW]
      exact (uxDP rfl hI.2.2.2.2.2.2.2.2.2.2.2.2.2.2.2.2.2.2.2.2.2.2.2.2.2.2.2.2.2.2.2.2.2.2.2.2.2.2.2.2.2.2.2.2.2.1)
    have k_xDE : xDE W := by
      rw [hW]
      exact (uxDE rfl hI.2.2.2.2.2.2.2.2.2.2.2.2.2.2.2.2.2.2.2.2.2.2.2.2.2.2.2.2.2.2.2.2.2.2.2.2.2.2.2.2.2.2.2.2.2.2.1)
    have k_xQ5 : xQ5 W := by
      have r4_350 : W 4 350 = M 4 350 := by rw [hW, sU_ne (fun z => by omega)]
      have r4_351 : W 4 351 = 1 * ρ 0 + (1 * ρ 1 + 0) := by rw [hW, sU_at]
      have r4_352 : W 4 352 = M 4 352 := by rw [hW, sU_ne (fun z => by omega)]
      have r4_353 : W 4 353 = M 4 353 := by rw [hW, sU_ne (fun z => by omega)]
      have r4_354 : W 4 354 = M 4 354 := by rw [hW, sU_ne (fun z => by omega)]
      have r93_0 : W 93 0 = M 93 0 := by rw [hW, sU_ne (fun z => by omega)]
      have r93_1 : W 93 1 = M 93 1 := by rw [hW, sU_ne (fun z => by omega)]
      have r93_2 : W 93 2 = M 93 2 := by rw [hW, sU_ne (fun z => by omega)]
      have c94 : ∀ k, W 94 k = M 94 k := fun k => by rw [hW, sU_ne (fun z => by omega)]
      have e94 : W 94 = M 94 := funext c94
      have c100 : ∀ k, W 100 k = M 100 k := fun k => by rw [hW, sU_ne (fun z => by omega)]
      have e100 : W 100 = M 100 := funext c100
      have c104 : ∀ k, W 104 k = M 104 k := fun k => by rw [hW, sU_ne (fun z => by omega)]
      have e104 : W 104 = M 104 := funext c104
      intro _
      obtain ⟨b0, b1, b2⟩ := gx_xQ5 hI (by omega)
      have hn : ∀ w, dNm W w = dNm M w := fun w => funext fun j => by unfold dNm; rw [c94, c100, c104]
      have hc : ∀ w, dCn W w = dCn M w := fun w => by unfold dCn; rw [r93_0, r93_1, r93_2]
      rw [r4_354, r4_352, r4_353, r4_351, hn, hc]
      refine ⟨b0, by rw [h0]; omega, ?_⟩
      rw [show (1 * ρ 0 + (1 * ρ 1 + 0)).toNat = (M 4 351).toNat + 1 by rw [h0]; omega]
      refine tfi_no b2 ?_
      rw [show M 4 352 = 1 by omega]
      show M 100 (M 4 351).toNat ≠ M 4 353
      rw [show (M 4 351).toNat = (ρ 4).toNat by omega]
      omega
    have k_xQL : xQL W := by
      rw [hW]
      exact (uxQL rfl hI.2.2.2.2.2.2.2.2.2.2.2.2.2.2.2.2.2.2.2.2.2.2.2.2.2.2.2.2.2.2.2.2.2.2.2.2.2.2.2.2.2.2.2.2.2.2.2.2.1)
    have k_xQW : xQW W := by
      rw [hW]
      exact (uxQW rfl hI.2.2.2.2.2.2.2.2.2.2.2.2.2.2.2.2.2.2.2.2.2.2.2.2.2.2.2.2.2.2.2.2.2.2.2.2.2.2.2.2.2.2.2.2.2.2.2.2.2.1)
    have k_xQM : xQM W := by
      rw [hW]
      exact (uxQM rfl hI.2.2.2.2.2.2.2.2.2.2.2.2.2.2.2.2.2.2.2.2.2.2.2.2.2.2.2.2.2.2.2.2.2.2.2.2.2.2.2.2.2.2.2.2.2.2.2.2.2.2.1)
    have k_xQH : xQH W := by
      rw [hW]
      exact (uxQH rfl hI.2.2.2.2.2.2.2.2.2.2.2.2.2.2.2.2.2.2.2.2.2.2.2.2.2.2.2.2.2.2.2.2.2.2.2.2.2.2.2.2.2.2.2.2.2.2.2.2.2.2.2)
    have k_XC : XC W := ⟨k_xS1, k_xS2, k_xS3, k_xS4, k_xS5, k_xS6, k_xS7, k_xS8, k_xS9, k_xSA, k_xSG, k_xSF, k_xSB, k_xSC, k_xSD, k_xSE, k_xSW, k_xST, k_xSP, k_xSL, k_xSM, k_xSI, k_xD3, k_xDV, k_xDP, k_xDE, k_xQ5, k_xQL, k_xQW, k_xQM, k_xQH⟩
    have kXB : XB W := ⟨k_xN1, k_xN2, k_xN3, k_xN4, k_xN5, k_xN6, k_xH1, k_xK1, k_xC1, k_xRW, k_xWT, k_xCU, k_xG2, k_xG3, k_xG4, k_xG5, k_xG6, k_XC⟩
    exact ⟨base, k2, k3, kXA, kXB⟩
-- qHit5_1
def xr_636 : qRu := (8, [[(-1, 1), (1, 4)], [(1, 1), (-1, 4)], [(-1, 3), (1, 5)], [(1, 3), (-1, 5)], [(-1, 0), (-1, 1), (1, 6)]], [(4, 350, [(5, 0)]), (4, 351, [(1, 1)]), (4, 353, [(1, 3)]), (4, 352, [(1, 0)]), (93, 1, [(1, 6)]), (4, 354, [(1, 7)]), (100, 1004, [(1, 5)])], [], [], [[(-1, 1), (1, 7)], [(1, 1), (-1, 7)], [(1, 1)]])
theorem xo_636 : qRok xr_636 := by
  intro ρ M h0 hf hm hI
  have f0 := hf [(-1, 1), (1, 4)] (by decide)
  have f1 := hf [(1, 1), (-1, 4)] (by decide)
  have f2 := hf [(-1, 3), (1, 5)] (by decide)
  have f3 := hf [(1, 3), (-1, 5)] (by decide)
  have f4 := hf [(-1, 0), (-1, 1), (1, 6)] (by decide)
  simp only [qD, h0] at f0 f1 f2 f3 f4
  have m0 : M 4 350 = 5 * ρ 0 + 0 := hm (4, 350, [(5, 0)]) (by decide)
  have m1 : M 4 351 = 1 * ρ 1 + 0 := hm (4, 351, [(1, 1)]) (by decide)
  have m2 : M 4 353 = 1 * ρ 3 + 0 := hm (4, 353, [(1, 3)]) (by decide)
  have m3 : M 4 352 = 1 * ρ 0 + 0 := hm (4, 352, [(1, 0)]) (by decide)
  have m4 : M 93 1 = 1 * ρ 6 + 0 := hm (93, 1, [(1, 6)]) (by decide)
  have m5 : M 4 354 = 1 * ρ 7 + 0 := hm (4, 354, [(1, 7)]) (by decide)
  have m6 : M 100 (zIx ρ (1000 + 4)) = 1 * ρ 5 + 0 := hm (100, 1004, [(1, 5)]) (by decide)
  rw [zix_p] at m6
  simp only [h0] at m0 m3
  obtain ⟨b0, b1, b2⟩ := gx_xQ5 hI (by omega)
  rw [show M 4 352 = 1 by omega] at b0 b2
  have hh := tfi_hit b2 (show dNm M 1 (M 4 351).toNat = M 4 353 by show M 100 (M 4 351).toNat = M 4 353; rw [show (M 4 351).toNat = (ρ 4).toNat by omega]; omega) (dCn M 1).toNat (by show (M 4 351).toNat < (M 93 1).toNat; omega)
  rw [hh] at b0
  refine ⟨ρ, fun _ _ => rfl, fun f h => ?_, ?_⟩
  · have h : f ∈ ([[(-1, 1), (1, 7)], [(1, 1), (-1, 7)], [(1, 1)]] : List qF) := h
    simp only [List.mem_cons, List.not_mem_nil, or_false] at h
    rcases h with rfl | rfl | rfl
    · show 0 ≤ -1 * ρ 1 + (1 * ρ 7 + 0)
      (try rw [h0]); omega
    · show 0 ≤ 1 * ρ 1 + (-1 * ρ 7 + 0)
      (try rw [h0]); omega
    · show 0 ≤ 1 * ρ 1 + 0
      (try rw [h0]); omega
  · show sI M
    exact hI
-- qEnd5_1
def xr_637 : qRu := (8, [[(1, 1), (-1, 6)], [(-1, 1), (1, 6)]], [(4, 350, [(5, 0)]), (4, 351, [(1, 1)]), (4, 353, [(1, 3)]), (4, 352, [(1, 0)]), (93, 1, [(1, 6)]), (4, 354, [(1, 7)])], [], [], [[(1, 0), (1, 7)], [(-1, 0), (-1, 7)]])
theorem xo_637 : qRok xr_637 := by
  intro ρ M h0 hf hm hI
  have f0 := hf [(1, 1), (-1, 6)] (by decide)
  have f1 := hf [(-1, 1), (1, 6)] (by decide)
  simp only [qD, h0] at f0 f1
  have m0 : M 4 350 = 5 * ρ 0 + 0 := hm (4, 350, [(5, 0)]) (by decide)
  have m1 : M 4 351 = 1 * ρ 1 + 0 := hm (4, 351, [(1, 1)]) (by decide)
  have m2 : M 4 353 = 1 * ρ 3 + 0 := hm (4, 353, [(1, 3)]) (by decide)
  have m3 : M 4 352 = 1 * ρ 0 + 0 := hm (4, 352, [(1, 0)]) (by decide)
  have m4 : M 93 1 = 1 * ρ 6 + 0 := hm (93, 1, [(1, 6)]) (by decide)
  have m5 : M 4 354 = 1 * ρ 7 + 0 := hm (4, 354, [(1, 7)]) (by decide)
  simp only [h0] at m0 m3
  obtain ⟨b0, b1, b2⟩ := gx_xQ5 hI (by omega)
  rw [show M 4 352 = 1 by omega] at b0 b2
  rw [show (dCn M 1).toNat = (M 4 351).toNat by show (M 93 1).toNat = _; omega, b2] at b0
  refine ⟨ρ, fun _ _ => rfl, fun f h => ?_, ?_⟩
  · have h : f ∈ ([[(1, 0), (1, 7)], [(-1, 0), (-1, 7)]] : List qF) := h
    simp only [List.mem_cons, List.not_mem_nil, or_false] at h
    rcases h with rfl | rfl
    · show 0 ≤ 1 * ρ 0 + (1 * ρ 7 + 0)
      (try rw [h0]); omega
    · show 0 ≤ -1 * ρ 0 + (-1 * ρ 7 + 0)
      (try rw [h0]); omega
  · show sI M
    exact hI
-- qSet5_2
def xr_638 : qRu := (2, [], [(4, 350, [])], [], [(4, 350, [(5, 0)]), (4, 351, []), (4, 352, [(2, 0)]), (4, 353, [(1, 1)]), (4, 354, [(1, 2)])], [])
theorem xo_638 : qRok xr_638 := by
  intro ρ M h0 hf hm hI
  have m0 : M 4 350 = 0 := hm (4, 350, []) (by decide)
  have qxQ5 := hI.2.2.2.2.2.2.2.2.2.2.2.2.2.2.2.2.2.2.2.2.2.2.2.2.2.2.2.2.2.2.2.2.2.2.2.2.2.2.2.2.2.2.2.2.2.2.2.1
  refine ⟨fun a => cond (Nat.blt a 2) (ρ a) (([tFi (dNm M (2)) (1 * ρ 1 + 0) (dCn M (2)).toNat] : List Int).getD (a - 2) 0), fun a ha => ?_, fun f h => ?_, ?_⟩
  · show cond (Nat.blt a 2) (ρ a) _ = ρ a
    rw [show Nat.blt a 2 = true from Nat.ble_eq_true_of_le ha]; rfl
  · exact nomatch h
  · show sI (sU (sU (sU (sU (sU M 4 350 (5 * ρ 0 + 0)) 4 351 (0)) 4 352 (2 * ρ 0 + 0)) 4 353 (1 * ρ 1 + 0)) 4 354 (1 * (tFi (dNm M (2)) (1 * ρ 1 + 0) (dCn M (2)).toNat) + 0))
    obtain ⟨W, hW⟩ : ∃ W, W = (sU (sU (sU (sU (sU M 4 350 (5 * ρ 0 + 0)) 4 351 (0)) 4 352 (2 * ρ 0 + 0)) 4 353 (1 * ρ 1 + 0)) 4 354 (1 * (tFi (dNm M (2)) (1 * ρ 1 + 0) (dCn M (2)).toNat) + 0)) := ⟨_, rfl⟩
    rw [← hW]
    have base : sI0 W := by
      rw [hW]
      exact (si_u0 (si_u0 (si_u0 (si_u0 (si_u0 hI.1 (fun r hr => by cases hr)) (fun r hr => by cases hr)) (fun r hr => by cases hr)) (fun r hr => by cases hr)) (fun r hr => by cases hr))
    have k2 : XI2 W := by
      rw [hW]
      exact (xi2_u rfl (xi2_u rfl (xi2_u rfl (xi2_u rfl (xi2_u rfl hI.2.1)))))
    have k3 : XI3 W := by
      rw [hW]
      exact (xi3_u rfl (xi3_u rfl (xi3_u rfl (xi3_u rfl (xi3_u rfl hI.2.2.1)))))
    have kXA : XA W := by
      rw [hW]
      exact (uXA rfl (uXA rfl (uXA rfl (uXA rfl (uXA rfl hI.2.2.2.1)))))
    have k_xN1 : xN1 W := by
      rw [hW]
      exact (uxN1 rfl (uxN1 rfl (uxN1 rfl (uxN1 rfl (uxN1 rfl hI.2.2.2.2.1)))))
    have k_xN2 : xN2 W := by
      rw [hW]
      exact (uxN2 rfl (uxN2 rfl (uxN2 rfl (uxN2 rfl (uxN2 rfl hI.2.2.2.2.2.1)))))
    have k_xN3 : xN3 W := by
      rw [hW]
      exact (uxN3 rfl (uxN3 rfl (uxN3 rfl (uxN3 rfl (uxN3 rfl hI.2.2.2.2.2.2.1)))))
    have k_xN4 : xN4 W := by
      rw [hW]
      exact (uxN4 rfl (uxN4 rfl (uxN4 rfl (uxN4 rfl (uxN4 rfl hI.2.2.2.2.2.2.2.1)))))
    have k_xN5 : xN5 W := by
      rw [hW]
      exact (uxN5 rfl (uxN5 rfl (uxN5 rfl (uxN5 rfl (uxN5 rfl hI.2.2.2.2.2.2.2.2.1)))))
    have k_xN6 : xN6 W := by
      rw [hW]
      exact (uxN6 rfl (uxN6 rfl (uxN6 rfl (uxN6 rfl (uxN6 rfl hI.2.2.2.2.2.2.2.2.2.1)))))
    have k_xH1 : xH1 W := by
      rw [hW]
      exact (uxH1 rfl (uxH1 rfl (uxH1 rfl (uxH1 rfl (uxH1 rfl hI.2.2.2.2.2.2.2.2.2.2.1)))))
    have k_xK1 : xK1 W := by
      rw [hW]
      exact (uxK1 rfl (uxK1 rfl (uxK1 rfl (uxK1 rfl (uxK1 rfl hI.2.2.2.2.2.2.2.2.2.2.2.1)))))
    have k_xC1 : xC1 W := by
      rw [hW]
      exact (uxC1 rfl (uxC1 rfl (uxC1 rfl (uxC1 rfl (uxC1 rfl hI.2.2.2.2.2.2.2.2.2.2.2.2.1)))))
    have k_xRW : xRW W := by
      rw [hW]
      exact (uxRW rfl (uxRW rfl (uxRW rfl (uxRW rfl (uxRW rfl hI.2.2.2.2.2.2.2.2.2.2.2.2.2.1)))))
    have k_xWT : xWT W := by
      rw [hW]
      exact (uxWT rfl (uxWT rfl (uxWT rfl (uxWT rfl (uxWT rfl hI.2.2.2.2.2.2.2.2.2.2.2.2.2.2.1)))))
    have k_xCU : xCU W := by
      rw [hW]
      exact (uxCU rfl (uxCU rfl (uxCU rfl (uxCU rfl (uxCU rfl hI.2.2.2.2.2.2.2.2.2.2.2.2.2.2.2.1)))))
    have k_xG2 : xG2 W := by
      rw [hW]
      exact (uxG2 rfl (uxG2 rfl (uxG2 rfl (uxG2 rfl (uxG2 rfl hI.2.2.2.2.2.2.2.2.2.2.2.2.2.2.2.2.1)))))
    have k_xG3 : xG3 W := by
      rw [hW]
      exact (uxG3 rfl (uxG3 rfl (uxG3 rfl (uxG3 rfl (uxG3 rfl hI.2.2.2.2.2.2.2.2.2.2.2.2.2.2.2.2.2.1)))))
    have k_xG4 : xG4 W := by
      rw [hW]
      exact (uxG4 rfl (uxG4 rfl (uxG4 rfl (uxG4 rfl (uxG4 rfl hI.2.2.2.2.2.2.2.2.2.2.2.2.2.2.2.2.2.2.1)))))
    have k_xG5 : xG5 W := by
      rw [hW]
      exact (uxG5 rfl (uxG5 rfl (uxG5 rfl (uxG5 rfl (uxG5 rfl hI.2.2.2.2.2.2.2.2.2.2.2.2.2.2.2.2.2.2.2.1)))))
    have k_xG6 : xG6 W := by
      rw [hW]
      exact (uxG6 rfl (uxG6 rfl (uxG6 rfl (uxG6 rfl (uxG6 rfl hI.2.2.2.2.2.2.2.2.2.2.2.2.2.2.2.2.2.2.2.2.1)))))
    have k_xS1 : xS1 W := by
      rw [hW]
      exact (uxS1 rfl (uxS1 rfl (uxS1 rfl (uxS1 rfl (uxS1 rfl hI.2.2.2.2.2.2.2.2.2.2.2.2.2.2.2.2.2.2.2.2.2.1)))))
    have k_xS2 : xS2 W := by
      rw [hW]
      exact (uxS2 rfl (uxS2 rfl (uxS2 rfl (uxS2 rfl (uxS2 rfl hI.2.2.2.2.2.2.2.2.2.2.2.2.2.2.2.2.2.2.2.2.2.2.1)))))
    have k_xS3 : xS3 W := by
      rw [hW]
      exact (uxS3 rfl (uxS3 rfl (uxS3 rfl (uxS3 rfl (uxS3 rfl hI.2.2.2.2.2.2.2.2.2.2.2.2.2.2.2.2.2.2.2.2.2.2.2.1)))))
    have k_xS4 : xS4 W := by
      rw [hW]
      exact (uxS4 rfl (uxS4 rfl (uxS4 rfl (uxS4 rfl (uxS4 rfl hI.2.2.2.2.2.2.2.2.2.2.2.2.2.2.2.2.2.2.2.2.2.2.2.2.1)))))
    have k_xS5 : xS5 W := by
      rw [hW]
      exact (uxS5 rfl (uxS5 rfl (uxS5 rfl (uxS5 rfl (uxS5 rfl hI.2.2.2.2.2.2.2.2.2.2.2.2.2.2.2.2.2.2.2.2.2.2.2.2.2.1)))))
    have k_xS6 : xS6 W := by
      rw [hW]
      exact (uxS6 rfl (uxS6 rfl (uxS6 rfl (uxS6 rfl (uxS6 rfl hI.2.2.2.2.2.2.2.2.2.2.2.2.2.2.2.2.2.2.2.2.2.2.2.2.2.2.1)))))
    have k_xS7 : xS7 W := by
      rw [hW]
      exact (uxS7 rfl (uxS7 rfl (uxS7 rfl (uxS7 rfl (uxS7 rfl hI.2.2.2.2.2.2.2.2.2.2.2.2.2.2.2.2.2.2.2.2.2.2.2.2.2.2.2.1)))))
    have k_xS8 : xS8 W := by
      rw [hW]
      exact (uxS8 rfl (uxS8 rfl (uxS8 rfl (uxS8 rfl (uxS8 rfl hI.2.2.2.2.2.2.2.2.2.2.2.2.2.2.2.2.2.2.2.2.2.2.2.2.2.2.2.2.1)))))
    have k_xS9 : xS9 W := by
      rw [hW]
      exact (uxS9 rfl (uxS9 rfl (uxS9 rfl (uxS9 rfl (uxS9 rfl hI.2.2.2.2.2.2.2.2.2.2.2.2.2.2.2.2.2.2.2.2.2.2.2.2.2.2.2.2.2.1)))))
    have k_xSA : xSA W := by
      rw [hW]
      exact (uxSA rfl (uxSA rfl (uxSA rfl (uxSA rfl (uxSA rfl hI.2.2.2.2.2.2.2.2.2.2.2.2.2.2.2.2.2.2.2.2.2.2.2.2.2.2.2.2.2.2.1)))))
    have k_xSG : xSG W := by
      rw [hW]
      exact (uxSG rfl (uxSG rfl (uxSG rfl (uxSG rfl (uxSG rfl hI.2.2.2.2.2.2.2.2.2.2.2.2.2.2.2.2.2.2.2.2.2.2.2.2.2.2.2.2.2.2.2.1)))))
    have k_xSF : xSF W := by
      rw [hW]
      exact (uxSF rfl (uxSF rfl (uxSF rfl (uxSF rfl (uxSF rfl hI.2.2.2.2.2.2.2.2.2.2.2.2.2.2.2.2.2.2.2.2.2.2.2.2.2.2.2.2.2.2.2.2.1)))))
    have k_xSB : xSB W := by
      rw [hW]
      exact (uxSB rfl (uxSB rfl (uxSB rfl (uxSB rfl (uxSB rfl hI.2.2.2.2.2.2.2.2.2.2.2.2.2.2.2.2.2.2.2.2.2.2.2.2.2.2.2.2.2.2.2.2.2.1)))))
    have k_xSC : xSC W := by
      rw [hW]
      exact (uxSC rfl (uxSC rfl (uxSC rfl (uxSC rfl (uxSC rfl hI.2.2.2.2.2.2.2.2.2.2.2.2.2.2.2.2.2.2.2.2.2.2.2.2.2.2.2.2.2.2.2.2.2.2.1)))))
    have k_xSD : xSD W := by
      rw [hW]
      exact (uxSD rfl (uxSD rfl (uxSD rfl (uxSD rfl (uxSD rfl hI.2.2.2.2.2.2.2.2.2.2.2.2.2.2.2.2.2.2.2.2.2.2.2.2.2.2.2.2.2.2.2.2.2.2.2.1)))))
    have k_xSE : xSE W := by
      rw [hW]
      exact (uxSE rfl (uxSE rfl (uxSE rfl (uxSE rfl (uxSE rfl hI.2.2.2.2.2.2.2.2.2.2.2.2.2.2.2.2.2.2.2.2.2.2.2.2.2.2.2.2.2.2.2.2.2.2.2.2.1)))))
    have k_xSW : xSW W := by
      rw [hW]
      exact (uxSW rfl (uxSW rfl (uxSW rfl (uxSW rfl (uxSW rfl hI.2.2.2.2.2.2.2.2.2.2.2.2.2.2.2.2.2.2.2.2.2.2.2.2.2.2.2.2.2.2.2.2.2.2.2.2.2.1)))))
    have k_xST : xST W := by
      rw [hW]
      exact (uxST rfl (uxST rfl (uxST rfl (uxST rfl (uxST rfl hI.2.2.2.2.2.2.2.2.2.2.2.2.2.2.2.2.2.2.2.2.2.2.2.2.2.2.2.2.2.2.2.2.2.2.2.2.2.2.1)))))
    have k_xSP : xSP W := by
      rw [hW]
      exact (uxSP rfl (uxSP rfl (uxSP rfl (uxSP rfl (uxSP rfl hI.2.2.2.2.2.2.2.2.2.2.2.2.2.2.2.2.2.2.2.2.2.2.2.2.2.2.2.2.2.2.2.2.2.2.2.2.2.2.2.1)))))
    have k_xSL : xSL W := by
      rw [hW]
      exact (uxSL rfl (uxSL rfl (uxSL rfl (uxSL rfl (uxSL rfl hI.2.2.2.2.2.2.2.2.2.2.2.2.2.2.2.2.2.2.2.2.2.2.2.2.2.2.2.2.2.2.2.2.2.2.2.2.2.2.2.2.1)))))
    have k_xSM : xSM W := by
      rw [hW]
      exact (uxSM rfl (uxSM rfl (uxSM rfl (uxSM rfl (uxSM rfl hI.2.2.2.2.2.2.2.2.2.2.2.2.2.2.2.2.2.2.2.2.2.2.2.2.2.2.2.2.2.2.2.2.2.2.2.2.2.2.2.2.2.1)))))
    have k_xSI : xSI W := by
      rw [hW]
      exact (uxSI rfl (uxSI rfl (uxSI rfl (uxSI rfl (uxSI rfl hI.2.2.2.2.2.2.2.2.2.2.2.2.2.2.2.2.2.2.2.2.2.2.2.2.2.2.2.2.2.2.2.2.2.2.2.2.2.2.2.2.2.2.1)))))
    have k_xD3 : xD3 W := by
      rw [hW]
      exact (uxD3 rfl (uxD3 rfl (uxD3 rfl (uxD3 rfl (uxD3 rfl hI.2.2.2.2.2.2.2.2.2.2.2.2.2.2.2.2.2.2.2.2.2.2.2.2.2.2.2.2.2.2.2.2.2.2.2.2.2.2.2.2.2.2.2.1)))))
    have k_xDV : xDV W := by
      rw [hW]
      exact (uxDV rfl (uxDV rfl (uxDV rfl (uxDV rfl (uxDV rfl hI.2.2.2.2.2.2.2.2.2.2.2.2.2.2.2.2.2.2.2.2.2.2.2.2.2.2.2.2.2.2.2.2.2.2.2.2.2.2.2.2.2.2.2.2.1)))))
    have k_xDP : xDP W := by
      rw [hW]
      exact (uxDP rfl (uxDP rfl (uxDP rfl (uxDP rfl (uxDP rfl hI.2.2.2.2.2.2.2.2.2.2.2.2.2.2.2.2.2.2.2.2.2.2.2.2.2.2.2.2.2.2.2.2.2.2.2.2.2.2.2.2.2.2.2.2.2.1)))))
    have k_xDE : xDE W := by
      rw [hW]
      exact (uxDE rfl (uxDE rfl (uxDE rfl (uxDE rfl (uxDE rfl hI.2.2.2.2.2.2.2.2.2.2.2.2.2.2.2.2.2.2.2.2.2.2.2.2.2.2.2.2.2.2.2.2.2.2.2.2.2.2.2.2.2.2.2.2.2.2.1)))))
    have k_xQ5 : xQ5 W := by
      have r4_350 : W 4 350 = 5 * ρ 0 + 0 := by rw [hW, sU_ne (fun z => by omega), sU_ne (fun z => by omega), sU_ne (fun z => by omega), sU_ne (fun z => by omega), sU_at]
      have r4_351 : W 4 351 = 0 := by rw [hW, sU_ne (fun z => by omega), sU_ne (fun z => by omega), sU_ne (fun z => by omega), sU_at]
      have r4_352 : W 4 352 = 2 * ρ 0 + 0 := by rw [hW, sU_ne (fun z => by omega), sU_ne (fun z => by omega), sU_at]
      have r4_353 : W 4 353 = 1 * ρ 1 + 0 := by rw [hW, sU_ne (fun z => by omega), sU_at]
      have r4_354 : W 4 354 = 1 * (tFi (dNm M (2)) (1 * ρ 1 + 0) (dCn M (2)).toNat) + 0 := by rw [hW, sU_at]
      have r93_0 : W 93 0 = M 93 0 := by rw [hW, sU_ne (fun z => by omega), sU_ne (fun z => by omega), sU_ne (fun z => by omega), sU_ne (fun z => by omega), sU_ne (fun z => by omega)]
      have r93_1 : W 93 1 = M 93 1 := by rw [hW, sU_ne (fun z => by omega), sU_ne (fun z => by omega), sU_ne (fun z => by omega), sU_ne (fun z => by omega), sU_ne (fun z => by omega)]
      have r93_2 : W 93 2 = M 93 2 := by rw [hW, sU_ne (fun z => by omega), sU_ne (fun z => by omega), sU_ne (fun z => by omega), sU_ne (fun z => by omega), sU_ne (fun z => by omega)]
      have c94 : ∀ k, W 94 k = M 94 k := fun k => by rw [hW, sU_ne (fun z => by omega), sU_ne (fun z => by omega), sU_ne (fun z => by omega), sU_ne (fun z => by omega), sU_ne (fun z => by omega)]
      have e94 : W 94 = M 94 := funext c94
      have c100 : ∀ k, W 100 k = M 100 k := fun k => by rw [hW, sU_ne (fun z => by omega), sU_ne (fun z => by omega), sU_ne (fun z => by omega), sU_ne (fun z => by omega), sU_ne (fun z => by omega)]
      have e100 : W 100 = M 100 := funext c100
      have c104 : ∀ k, W 104 k = M 104 k := fun k => by rw [hW, sU_ne (fun z => by omega), sU_ne (fun z => by omega), sU_ne (fun z => by omega), sU_ne (fun z => by omega), sU_ne (fun z => by omega)]
      have e104 : W 104 = M 104 := funext c104
      intro _
      have hn : ∀ w, dNm W w = dNm M w := fun w => funext fun j => by unfold dNm; rw [c94, c100, c104]
      have hc : ∀ w, dCn W w = dCn M w := fun w => by unfold dCn; rw [r93_0, r93_1, r93_2]
      rw [r4_354, r4_352, r4_353, r4_351, hn, hc]
      (try rw [h0])
      refine ⟨?_, Int.le_refl _, rfl⟩
      rw [show ∀ z : Int, 1 * z + 0 = z from fun z => by omega]
    have k_xQL : xQL W := by
      have r : W 4 350 = 5 := by rw [hW, sU_ne (fun z => by omega), sU_ne (fun z => by omega), sU_ne (fun z => by omega), sU_ne (fun z => by omega), sU_at]; rw [h0]; rfl
      intro h
      rw [r] at h
      omega
    have k_xQW : xQW W := by
      have r : W 4 350 = 5 := by rw [hW, sU_ne (fun z => by omega), sU_ne (fun z => by omega), sU_ne (fun z => by omega), sU_ne (fun z => by omega), sU_at]; rw [h0]; rfl
      intro h
      rw [r] at h
      omega
    have k_xQM : xQM W := by
      rw [hW]
      exact (uxQM rfl (uxQM rfl (uxQM rfl (uxQM rfl (uxQM rfl hI.2.2.2.2.2.2.2.2.2.2.2.2.2.2.2.2.2.2.2.2.2.2.2.2.2.2.2.2.2.2.2.2.2.2.2.2.2.2.2.2.2.2.2.2.2.2.2.2.2.2.1)))))
    have k_xQH : xQH W := by
      have r : W 4 350 = 5 := by rw [hW, sU_ne (fun z => by omega), sU_ne (fun z => by omega), sU_ne (fun z => by omega), sU_ne (fun z => by omega), sU_at]; rw [h0]; rfl
      intro h
      rw [r] at h
      omega
    have k_XC : XC W := ⟨k_xS1, k_xS2, k_xS3, k_xS4, k_xS5, k_xS6, k_xS7, k_xS8, k_xS9, k_xSA, k_xSG, k_xSF, k_xSB, k_xSC, k_xSD, k_xSE, k_xSW, k_xST, k_xSP, k_xSL, k_xSM, k_xSI, k_xD3, k_xDV, k_xDP, k_xDE, k_xQ5, k_xQL, k_xQW, k_xQM, k_xQH⟩
    have kXB : XB W := ⟨k_xN1, k_xN2, k_xN3, k_xN4, k_xN5, k_xN6, k_xH1, k_xK1, k_xC1, k_xRW, k_xWT, k_xCU, k_xG2, k_xG3, k_xG4, k_xG5, k_xG6, k_XC⟩
    exact ⟨base, k2, k3, kXA, kXB⟩
-- qMiss5_2L
def xr_639 : qRu := (6, [[(-1, 1), (1, 4)], [(1, 1), (-1, 4)], [(-1, 0), (1, 3), (-1, 5)]], [(4, 350, [(5, 0)]), (4, 351, [(1, 1)]), (4, 353, [(1, 3)]), (4, 352, [(2, 0)]), (104, 1004, [(1, 5)])], [], [(4, 351, [(1, 0), (1, 1)])], [])
theorem xo_639 : qRok xr_639 := by
  intro ρ M h0 hf hm hI
  have f0 := hf [(-1, 1), (1, 4)] (by decide)
  have f1 := hf [(1, 1), (-1, 4)] (by decide)
  have f2 := hf [(-1, 0), (1, 3), (-1, 5)] (by decide)
  simp only [qD, h0] at f0 f1 f2
  have m0 : M 4 350 = 5 * ρ 0 + 0 := hm (4, 350, [(5, 0)]) (by decide)
  have m1 : M 4 351 = 1 * ρ 1 + 0 := hm (4, 351, [(1, 1)]) (by decide)
  have m2 : M 4 353 = 1 * ρ 3 + 0 := hm (4, 353, [(1, 3)]) (by decide)
  have m3 : M 4 352 = 2 * ρ 0 + 0 := hm (4, 352, [(2, 0)]) (by decide)
  have m4 : M 104 (zIx ρ (1000 + 4)) = 1 * ρ 5 + 0 := hm (104, 1004, [(1, 5)]) (by decide)
  rw [zix_p] at m4
  simp only [h0] at m0 m3
  have qxQ5 := hI.2.2.2.2.2.2.2.2.2.2.2.2.2.2.2.2.2.2.2.2.2.2.2.2.2.2.2.2.2.2.2.2.2.2.2.2.2.2.2.2.2.2.2.2.2.2.2.1
  refine ⟨ρ, fun _ _ => rfl, fun f h => ?_, ?_⟩
  · exact nomatch h
  · show sI (sU M 4 351 (1 * ρ 0 + (1 * ρ 1 + 0)))
    obtain ⟨W, hW⟩ : ∃ W, W = (sU M 4 351 (1 * ρ 0 + (1 * ρ 1 + 0))) := ⟨_, rfl⟩
    rw [← hW]
    have base : sI0 W := by
      rw [hW]
      exact (si_u0 hI.1 (fun r hr => by cases hr))
    have k2 : XI2 W := by
      rw [hW]
      exact (xi2_u rfl hI.2.1)
    have k3 : XI3 W := by
      rw [hW]
      exact (xi3_u rfl hI.2.2.1)
    have kXA : XA W := by
      rw [hW]
      exact (uXA rfl hI.2.2.2.1)
    have k_xN1 : xN1 W := by
      rw [hW]
      exact (uxN1 rfl hI.2.2.2.2.1)
    have k_xN2 : xN2 W := by
      rw [hW]
      exact (uxN2 rfl hI.2.2.2.2.2.1)
    have k_xN3 : xN3 W := by
      rw [hW]
      exact (uxN3 rfl hI.2.2.2.2.2.2.1)
    have k_xN4 : xN4 W := by
      rw [hW]
      exact (uxN4 rfl hI.2.2.2.2.2.2.2.1)
    have k_xN5 : xN5 W := by
      rw [hW]
      exact (uxN5 rfl hI.2.2.2.2.2.2.2.2.1)
    have k_xN6 : xN6 W := by
      rw [hW]
      exact (uxN6 rfl hI.2.2.2.2.2.2.2.2.2.1)
    have k_xH1 : xH1 W := by
      rw [hW]
      exact (uxH1 rfl hI.2.2.2.2.2.2.2.2.2.2.1)
    have k_xK1 : xK1 W := by
      rw [hW]
      exact (uxK1 rfl hI.2.2.2.2.2.2.2.2.2.2.2.1)
    have k_xC1 : xC1 W := by
      rw [hW]
      exact (uxC1 rfl hI.2.2.2.2.2.2.2.2.2.2.2.2.1)
    have k_xRW : xRW W := by
      rw [hW]
      exact (uxRW rfl hI.2.2.2.2.2.2.2.2.2.2.2.2.2.1)
    have k_xWT : xWT W := by
      rw [hW]
      exact (uxWT rfl hI.2.2.2.2.2.2.2.2.2.2.2.2.2.2.1)
    have k_xCU : xCU W := by
      rw [hW]
      exact (uxCU rfl hI.2.2.2.2.2.2.2.2.2.2.2.2.2.2.2.1)
    have k_xG2 : xG2 W := by
      rw [hW]
      exact (uxG2 rfl hI.2.2.2.2.2.2.2.2.2.2.2.2.2.2.2.2.1)
    have k_xG3 : xG3 W := by
      rw [hW]
      exact (uxG3 rfl hI.2.2.2.2.2.2.2.2.2.2.2.2.2.2.2.2.2.1)
    have k_xG4 : xG4 W := by
      rw [hW]
      exact (uxG4 rfl hI.2.2.2.2.2.2.2.2.2.2.2.2.2.2.2.2.2.2.1)
    have k_xG5 : xG5 W := by
      rw [hW]
      exact (uxG5 rfl hI.2.2.2.2.2.2.2.2.2.2.2.2.2.2.2.2.2.2.2.1)
    have k_xG6 : xG6 W := by
      rw [hW]
      exact (uxG6 rfl hI.2.2.2.2.2.2.2.2.2.2.2.2.2.2.2.2.2.2.2.2.1)
    have k_xS1 : xS1 W := by
      rw [hW]
      exact (uxS1 rfl hI.2.2.2.2.2.2.2.2.2.2.2.2.2.2.2.2.2.2.2.2.2.1)
    have k_xS2 : xS2 W := by
      rw [hW]
      exact (uxS2 rfl hI.2.2.2.2.2.2.2.2.2.2.2.2.2.2.2.2.2.2.2.2.2.2.1)
    have k_xS3 : xS3 W := by
      rw [hW]
      exact (uxS3 rfl hI.2.2.2.2.2.2.2.2.2.2.2.2.2.2.2.2.2.2.2.2.2.2.2.1)
    have k_xS4 : xS4 W := by
      rw [hW]
      exact (uxS4 rfl hI.2.2.2.2.2.2.2.2.2.2.2.2.2.2.2.2.2.2.2.2.2.2.2.2.1)
    have k_xS5 : xS5 W := by
      rw [hW]
      exact (uxS5 rfl hI.2.2.2.2.2.2.2.2.2.2.2.2.2.2.2.2.2.2.2.2.2.2.2.2.2.1)
    have k_xS6 : xS6 W := by
      rw [hW]
      exact (uxS6 rfl hI.2.2.2.2.2.2.2.2.2.2.2.2.2.2.2.2.2.2.2.2.2.2.2.2.2.2.1)
    have k_xS7 : xS7 W := by
      rw [hW]
      exact (uxS7 rfl hI.2.2.2.2.2.2.2.2.2.2.2.2.2.2.2.2.2.2.2.2.2.2.2.2.2.2.2.1)
    have k_xS8 : xS8 W := by
      rw [hW]
      exact (uxS8 rfl hI.2.2.2.2.2.2.2.2.2.2.2.2.2.2.2.2.2.2.2.2.2.2.2.2.2.2.2.2.1)
    have k_xS9 : xS9 W := by
      rw [hW]
      exact (uxS9 rfl hI.2.2.2.2.2.2.2.2.2.2.2.2.2.2.2.2.2.2.2.2.2.2.2.2.2.2.2.2.2.1)
    have k_xSA : xSA W := by
      rw [hW]
      exact (uxSA rfl hI.2.2.2.2.2.2.2.2.2.2.2.2.2.2.2.2.2.2.2.2.2.2.2.2.2.2.2.2.2.2.1)
    have k_xSG : xSG W := by
      rw [hW]
      exact (uxSG rfl hI.2.2.2.2.2.2.2.2.2.2.2.2.2.2.2.2.2.2.2.2.2.2.2.2.2.2.2.2.2.2.2.1)
    have k_xSF : xSF W := by
      rw [hW]
      exact (uxSF rfl hI.2.2.2.2.2.2.2.2.2.2.2.2.2.2.2.2.2.2.2.2.2.2.2.2.2.2.2.2.2.2.2.2.1)
    have k_xSB : xSB W := by
      rw [hW]
      exact (uxSB rfl hI.2.2.2.2.2.2.2.2.2.2.2.2.2.2.2.2.2.2.2.2.2.2.2.2.2.2.2.2.2.2.2.2.2.1)
    have k_xSC : xSC W := by
      rw [hW]
      exact (uxSC rfl hI.2.2.2.2.2.2.2.2.2.2.2.2.2.2.2.2.2.2.2.2.2.2.2.2.2.2.2.2.2.2.2.2.2.2.1)
    have k_xSD : xSD W := by
      rw [hW]
      exact (uxSD rfl hI.2.2.2.2.2.2.2.2.2.2.2.2.2.2.2.2.2.2.2.2.2.2.2.2.2.2.2.2.2.2.2.2.2.2.2.1)
    have k_xSE : xSE W := by
      rw [hW]
      exact (uxSE rfl hI.2.2.2.2.2.2.2.2.2.2.2.2.2.2.2.2.2.2.2.2.2.2.2.2.2.2.2.2.2.2.2.2.2.2.2.2.1)
    have k_xSW : xSW W := by
      rw [hW]
      exact (uxSW rfl hI.2.2.2.2.2.2.2.2.2.2.2.2.2.2.2.2.2.2.2.2.2.2.2.2.2.2.2.2.2.2.2.2.2.2.2.2.2.1)
    have k_xST : xST W := by
      rw [hW]
      exact (uxST rfl hI.2.2.2.2.2.2.2.2.2.2.2.2.2.2.2.2.2.2.2.2.2.2.2.2.2.2.2.2.2.2.2.2.2.2.2.2.2.2.1)
    have k_xSP : xSP W := by
      rw [hW]
      exact (uxSP rfl hI.2.2.2.2.2.2.2.2.2.2.2.2.2.2.2.2.2.2.2.2.2.2.2.2.2.2.2.2.2.2.2.2.2.2.2.2.2.2.2.1)
    have k_xSL : xSL W := by
      rw [hW]
      exact (uxSL rfl hI.2.2.2.2.2.2.2.2.2.2.2.2.2.2.2.2.2.2.2.2.2.2.2.2.2.2.2.2.2.2.2.2.2.2.2.2.2.2.2.2.1)
    have k_xSM : xSM W := by
      rw [hW]
      exact (uxSM rfl hI.2.2.2.2.2.2.2.2.2.2.2.2.2.2.2.2.2.2.2.2.2.2.2.2.2.2.2.2.2.2.2.2.2.2.2.2.2.2.2.2.2.1)
    have k_xSI : xSI W := by
      rw [hW]
      exact (uxSI rfl hI.2.2.2.2.2.2.2.2.2.2.2.2.2.2.2.2.2.2.2.2.2.2.2.2.2.2.2.2.2.2.2.2.2.2.2.2.2.2.2.2.2.2.1)
    have k_xD3 : xD3 W := by
      rw [hW]
      exact (uxD3 rfl hI.2.2.2.2.2.2.2.2.2.2.2.2.2.2.2.2.2.2.2.2.2.2.2.2.2.2.2.2.2.2.2.2.2.2.2.2.2.2.2.2.2.2.2.1)
    have k_xDV : xDV W := by
      rw [hW]
      exact (uxDV rfl hI.2.2.2.2.2.2.2.2.2.2.2.2.2.2.2.2.2.2.2.2.2.2.2.2.2.2.2.2.2.2.2.2.2.2.2.2.2.2.2.2.2.2.2.2.1)
    have k_xDP : xDP W := by
      rw [hW]
      exact (uxDP rfl hI.2.2.2.2.2.2.2.2.2.2.2.2.2.2.2.2.2.2.2.2.2.2.2.2.2.2.2.2.2.2.2.2.2.2.2.2.2.2.2.2.2.2.2.2.2.1)
    have k_xDE : xDE W := by
      rw [hW]
      exact (uxDE rfl hI.2.2.2.2.2.2.2.2.2.2.2.2.2.2.2.2.2.2.2.2.2.2.2.2.2.2.2.2.2.2.2.2.2.2.2.2.2.2.2.2.2.2.2.2.2.2.1)
    have k_xQ5 : xQ5 W := by
      have r4_350 : W 4 350 = M 4 350 := by rw [hW, sU_ne (fun z => by omega)]
      have r4_351 : W 4 351 = 1 * ρ 0 + (1 * ρ 1 + 0) := by rw [hW, sU_at]
      have r4_352 : W 4 352 = M 4 352 := by rw [hW, sU_ne (fun z => by omega)]
      have r4_353 : W 4 353 = M 4 353 := by rw [hW, sU_ne (fun z => by omega)]
      have r4_354 : W 4 354 = M 4 354 := by rw [hW, sU_ne (fun z => by omega)]
      have r93_0 : W 93 0 = M 93 0 := by rw [hW, sU_ne (fun z => by omega)]
      have r93_1 : W 93 1 = M 93 1 := by rw [hW, sU_ne (fun z => by omega)]
      have r93_2 : W 93 2 = M 93 2 := by rw [hW, sU_ne (fun z => by omega)]
      have c94 : ∀ k, W 94 k = M 94 k := fun k => by rw [hW, sU_ne (fun z => by omega)]
      have e94 : W 94 = M 94 := funext c94
      have c100 : ∀ k, W 100 k = M 100 k := fun k => by rw [hW, sU_ne (fun z => by omega)]
      have e100 : W 100 = M 100 := funext c100
      have c104 : ∀ k, W 104 k = M 104 k := fun k => by rw [hW, sU_ne (fun z => by omega)]
      have e104 : W 104 = M 104 := funext c104
      intro _
      obtain ⟨b0, b1, b2⟩ := gx_xQ5 hI (by omega)
      have hn : ∀ w, dNm W w = dNm M w := fun w => funext fun j => by unfold dNm; rw [c94, c100, c104]
      have hc : ∀ w, dCn W w = dCn M w := fun w => by unfold dCn; rw [r93_0, r93_1, r93_2]
      rw [r4_354, r4_352, r4_353, r4_351, hn, hc]
      refine ⟨b0, by rw [h0]; omega, ?_⟩
      rw [show (1 * ρ 0 + (1 * ρ 1 + 0)).toNat = (M 4 351).toNat + 1 by rw [h0]; omega]
      refine tfi_no b2 ?_
      rw [show M 4 352 = 2 by omega]
      show M 104 (M 4 351).toNat ≠ M 4 353
      rw [show (M 4 351).toNat = (ρ 4).toNat by omega]
      omega
    have k_xQL : xQL W := by
      rw [hW]
      exact (uxQL rfl hI.2.2.2.2.2.2.2.2.2.2.2.2.2.2.2.2.2.2.2.2.2.2.2.2.2.2.2.2.2.2.2.2.2.2.2.2.2.2.2.2.2.2.2.2.2.2.2.2.1)
    have k_xQW : xQW W := by
      rw [hW]
      exact (uxQW rfl hI.2.2.2.2.2.2.2.2.2.2.2.2.2.2.2.2.2.2.2.2.2.2.2.2.2.2.2.2.2.2.2.2.2.2.2.2.2.2.2.2.2.2.2.2.2.2.2.2.2.1)
    have k_xQM : xQM W := by
      rw [hW]
      exact (uxQM rfl hI.2.2.2.2.2.2.2.2.2.2.2.2.2.2.2.2.2.2.2.2.2.2.2.2.2.2.2.2.2.2.2.2.2.2.2.2.2.2.2.2.2.2.2.2.2.2.2.2.2.2.1)
    have k_xQH : xQH W := by
      rw [hW]
      exact (uxQH rfl hI.2.2.2.2.2.2.2.2.2.2.2.2.2.2.2.2.2.2.2.2.2.2.2.2.2.2.2.2.2.2.2.2.2.2.2.2.2.2.2.2.2.2.2.2.2.2.2.2.2.2.2)
    have k_XC : XC W := ⟨k_xS1, k_xS2, k_xS3, k_xS4, k_xS5, k_xS6, k_xS7, k_xS8, k_xS9, k_xSA, k_xSG, k_xSF, k_xSB, k_xSC, k_xSD, k_xSE, k_xSW, k_xST, k_xSP, k_xSL, k_xSM, k_xSI, k_xD3, k_xDV, k_xDP, k_xDE, k_xQ5, k_xQL, k_xQW, k_xQM, k_xQH⟩
    have kXB : XB W := ⟨k_xN1, k_xN2, k_xN3, k_xN4, k_xN5, k_xN6, k_xH1, k_xK1, k_xC1, k_xRW, k_xWT, k_xCU, k_xG2, k_xG3, k_xG4, k_xG5, k_xG6, k_XC⟩
    exact ⟨base, k2, k3, kXA, kXB⟩
-- qMiss5_2H
def xr_640 : qRu := (6, [[(-1, 1), (1, 4)], [(1, 1), (-1, 4)], [(-1, 0), (-1, 3), (1, 5)]], [(4, 350, [(5, 0)]), (4, 351, [(1, 1)]), (4, 353, [(1, 3)]), (4, 352, [(2, 0)]), (104, 1004, [(1, 5)])], [], [(4, 351, [(1, 0), (1, 1)])], [])
theorem xo_640 : qRok xr_640 := by
  intro ρ M h0 hf hm hI
  have f0 := hf [(-1, 1), (1, 4)] (by decide)
  have f1 := hf [(1, 1), (-1, 4)] (by decide)
  have f2 := hf [(-1, 0), (-1, 3), (1, 5)] (by decide)
  simp only [qD, h0] at f0 f1 f2
  have m0 : M 4 350 = 5 * ρ 0 + 0 := hm (4, 350, [(5, 0)]) (by decide)
  have m1 : M 4 351 = 1 * ρ 1 + 0 := hm (4, 351, [(1, 1)]) (by decide)
  have m2 : M 4 353 = 1 * ρ 3 + 0 := hm (4, 353, [(1, 3)]) (by decide)
  have m3 : M 4 352 = 2 * ρ 0 + 0 := hm (4, 352, [(2, 0)]) (by decide)
  have m4 : M 104 (zIx ρ (1000 + 4)) = 1 * ρ 5 + 0 := hm (104, 1004, [(1, 5)]) (by decide)
  rw [zix_p] at m4
  simp only [h0] at m0 m3
  have qxQ5 := hI.2.2.2.2.2.2.2.2.2.2.2.2.2.2.2.2.2.2.2.2.2.2.2.2.2.2.2.2.2.2.2.2.2.2.2.2.2.2.2.2.2.2.2.2.2.2.2.1
  refine ⟨ρ, fun _ _ => rfl, fun f h => ?_, ?_⟩
  · exact nomatch h
  · show sI (sU M 4 351 (1 * ρ 0 + (1 * ρ 1 + 0)))
    obtain ⟨W, hW⟩ : ∃ W, W = (sU M 4 351 (1 * ρ 0 + (1 * ρ 1 + 0))) := ⟨_, rfl⟩
    rw [← hW]
    have base : sI0 W := by
      rw [hW]
      exact (si_u0 hI.1 (fun r hr => by cases hr))
    have k2 : XI2 W := by
      rw [hW]
      exact (xi2_u rfl hI.2.1)
    have k3 : XI3 W := by
      rw [hW]
      exact (xi3_u rfl hI.2.2.1)
    have kXA : XA W := by
      rw [hW]
      exact (uXA rfl hI.2.2.2.1)
    have k_xN1 : xN1 W := by
      rw [hW]
      exact (uxN1 rfl hI.2.2.2.2.1)
    have k_xN2 : xN2 W := by
      rw [hW]
      exact (uxN2 rfl hI.2.2.2.2.2.1)
    have k_xN3 : xN3 W := by
      rw [hW]
      exact (uxN3 rfl hI.2.2.2.2.2.2.1)
    have k_xN4 : xN4 W := by
      rw [hW]
      exact (uxN4 rfl hI.2.2.2.2.2.2.2.1)
    have k_xN5 : xN5 W := by
      rw [hW]
      exact (uxN5 rfl hI.2.2.2.2.2.2.2.2.1)
    have k_xN6 : xN6 W := by
      rw [hW]
      exact (uxN6 rfl hI.2.2.2.2.2.2.2.2.2.1)
    have k_xH1 : xH1 W := by
      rw [hW]
      exact (uxH1 rfl hI.2.2.2.2.2.2.2.2.2.2.1)
    have k_xK1 : xK1 W := by
      rw [hW]
      exact (uxK1 rfl hI.2.2.2.2.2.2.2.2.2.2.2.1)
    have k_xC1 : xC1 W := by
      rw [hW]
      exact (uxC1 rfl hI.2.2.2.2.2.2.2.2.2.2.2.2.1)
    have k_xRW : xRW W := by
      rw [hW]
      exact (uxRW rfl hI.2.2.2.2.2.2.2.2.2.2.2.2.2.1)
    have k_xWT : xWT W := by
      rw [hW]
      exact (uxWT rfl hI.2.2.2.2.2.2.2.2.2.2.2.2.2.2.1)
    have k_xCU : xCU W := by
      rw [hW]
      exact (uxCU rfl hI.2.2.2.2.2.2.2.2.2.2.2.2.2.2.2.1)
    have k_xG2 : xG2 W := by
      rw [hW]
      exact (uxG2 rfl hI.2.2.2.2.2.2.2.2.2.2.2.2.2.2.2.2.1)
    have k_xG3 : xG3 W := by
      rw [hW]
      exact (uxG3 rfl hI.2.2.2.2.2.2.2.2.2.2.2.2.2.2.2.2.2.1)
    have k_xG4 : xG4 W := by
      rw [hW]
      exact (uxG4 rfl hI.2.2.2.2.2.2.2.2.2.2.2.2.2.2.2.2.2.2.1)
    have k_xG5 : xG5 W := by
      rw [hW]
      exact (uxG5 rfl hI.2.2.2.2.2.2.2.2.2.2.2.2.2.2.2.2.2.2.2.1)
    have k_xG6 : xG6 W := by
      rw [hW]
      exact (uxG6 rfl hI.2.2.2.2.2.2.2.2.2.2.2.2.2.2.2.2.2.2.2.2.1)
    have k_xS1 : xS1 W := by
      rw [hW]
      exact (uxS1 rfl hI.2.2.2.2.2.2.2.2.2.2.2.2.2.2.2.2.2.2.2.2.2.1)
    have k_xS2 : xS2 W := by
      rw [hW]
      exact (uxS2 rfl hI.2.2.2.2.2.2.2.2.2.2.2.2.2.2.2.2.2.2.2.2.2.2.1)
    have k_xS3 : xS3 W := by
      rw [hW]
      exact (uxS3 rfl hI.2.2.2.2.2.2.2.2.2.2.2.2.2.2.2.2.2.2.2.2.2.2.2.1)
    have k_xS4 : xS4 W := by
      rw [hW]
      exact (uxS4 rfl hI.2.2.2.2.2.2.2.2.2.2.2.2.2.2.2.2.2.2.2.2.2.2.2.2.1)
    have k_xS5 : xS5 W := by
      rw [hW]
      exact (uxS5 rfl hI.2.2.2.2.2.2.2.2.2.2.2.2.2.2.2.2.2.2.2.2.2.2.2.2.2.1)
    have k_xS6 : xS6 W := by
      rw [hW]
      exact (uxS6 rfl hI.2.2.2.2.2.2.2.2.2.2.2.2.2.2.2.2.2.2.2.2.2.2.2.2.2.2.1)
    have k_xS7 : xS7 W := by
      rw [hW]
      exact (uxS7 rfl hI.2.2.2.2.2.2.2.2.2.2.2.2.2.2.2.2.2.2.2.2.2.2.2.2.2.2.2.1)
    have k_xS8 : xS8 W := by
      rw [hW]
      exact (uxS8 rfl hI.2.2.2.2.2.2.2.2.2.2.2.2.2.2.2.2.2.2.2.2.2.2.2.2.2.2.2.2.1)
    have k_xS9 : xS9 W := by
      rw [hW]
      exact (uxS9 rfl hI.2.2.2.2.2.2.2.2.2.2.2.2.2.2.2.2.2.2.2.2.2.2.2.2.2.2.2.2.2.1)
    have k_xSA : xSA W := by
      rw [hW]
      exact (uxSA rfl hI.2.2.2.2.2.2.2.2.2.2.2.2.2.2.2.2.2.2.2.2.2.2.2.2.2.2.2.2.2.2.1)
    have k_xSG : xSG W := by
      rw [hW]
      exact (uxSG rfl hI.2.2.2.2.2.2.2.2.2.2.2.2.2.2.2.2.2.2.2.2.2.2.2.2.2.2.2.2.2.2.2.1)
    have k_xSF : xSF W := by
      rw [hW]
      exact (uxSF rfl hI.2.2.2.2.2.2.2.2.2.2.2.2.2.2.2.2.2.2.2.2.2.2.2.2.2.2.2.2.2.2.2.2.1)
    have k_xSB : xSB W := by
      rw [hW]
      exact (uxSB rfl hI.2.2.2.2.2.2.2.2.2.2.2.2.2.2.2.2.2.2.2.2.2.2.2.2.2.2.2.2.2.2.2.2.2.1)
    have k_xSC : xSC W := by
      rw [hW]
      exact (uxSC rfl hI.2.2.2.2.2.2.2.2.2.2.2.2.2.2.2.2.2.2.2.2.2.2.2.2.2.2.2.2.2.2.2.2.2.2.1)
    have k_xSD : xSD W := by
      rw [hW]
      exact (uxSD rfl hI.2.2.2.2.2.2.2.2.2.2.2.2.2.2.2.2.2.2.2.2.2.2.2.2.2.2.2.2.2.2.2.2.2.2.2.1)
    have k_xSE : xSE W := by
      rw [hW]
      exact (uxSE rfl hI.2.2.2.2.2.2.2.2.2.2.2.2.2.2.2.2.2.2.2.2.2.2.2.2.2.2.2.2.2.2.2.2.2.2.2.2.1)
    have k_xSW : xSW W := by
      rw [hW]
      exact (uxSW rfl hI.2.2.2.2.2.2.2.2.2.2.2.2.2.2.2.2.2.2.2.2.2.2.2.2.2.2.2.2.2.2.2.2.2.2.2.2.2.1)
    have k_xST : xST W := by
      rw [hW]
      exact (uxST rfl hI.2.2.2.2.2.2.2.2.2.2.2.2.2.2.2.2.2.2.2.2.2.2.2.2.2.2.2.2.2.2.2.2.2.2.2.2.2.2.1)
    have k_xSP : xSP W := by
      rw [hW]
      exact (uxSP rfl hI.2.2.2.2.2.2.2.2.2.2.2.2.2.2.2.2.2.2.2.2.2.2.2.2.2.2.2.2.2.2.2.2.2.2.2.2.2.2.2.1)
    have k_xSL : xSL W := by
      rw [hW]
      exact (uxSL rfl hI.2.2.2.2.2.2.2.2.2.2.2.2.2.2.2.2.2.2.2.2.2.2.2.2.2.2.2.2.2.2.2.2.2.2.2.2.2.2.2.2.1)
    have k_xSM : xSM W := by
      rw [hW]
      exact (uxSM rfl hI.2.2.2.2.2.2.2.2.2.2.2.2.2.2.2.2.2.2.2.2.2.2.2.2.2.2.2.2.2.2.2.2.2.2.2.2.2.2.2.2.2.1)
    have k_xSI : xSI W := by
      rw [hW]
      exact (uxSI rfl hI.2.2.2.2.2.2.2.2.2.2.2.2.2.2.2.2.2.2.2.2.2.2.2.2.2.2.2.2.2.2.2.2.2.2.2.2.2.2.2.2.2.2.1)
    have k_xD3 : xD3 W := by
      rw [hW]
      exact (uxD3 rfl hI.2.2.2.2.2.2.2.2.2.2.2.2.2.2.2.2.2.2.2.2.2.2.2.2.2.2.2.2.2.2.2.2.2.2.2.2.2.2.2.2.2.2.2.1)
    have k_xDV : xDV W := by
      rw [hW]
      exact (uxDV rfl hI.2.2.2.2.2.2.2.2.2.2.2.2.2.2.2.2.2.2.2.2.2.2.2.2.2.2.2.2.2.2.2.2.2.2.2.2.2.2.2.2.2.2.2.2.1)
    have k_xDP : xDP W := by
      rw [hW]
      exact (uxDP rfl hI.2.2.2.2.2.2.2.2.2.2.2.2.2.2.2.2.2.2.2.2.2.2.2.2.2.2.2.2.2.2.2.2.2.2.2.2.2.2.2.2.2.2.2.2.2.1)
    have k_xDE : xDE W := by
      rw [hW]
      exact (uxDE rfl hI.2.2.2.2.2.2.2.2.2.2.2.2.2.2.2.2.2.2.2.2.2.2.2.2.2.2.2.2.2.2.2.2.2.2.2.2.2.2.2.2.2.2.2.2.2.2.1)
    have k_xQ5 : xQ5 W := by
      have r4_350 : W 4 350 = M 4 350 := by rw [hW, sU_ne (fun z => by omega)]
      have r4_351 : W 4 351 = 1 * ρ 0 + (1 * ρ 1 + 0) := by rw [hW, sU_at]
      have r4_352 : W 4 352 = M 4 352 := by rw [hW, sU_ne (fun z => by omega)]
      have r4_353 : W 4 353 = M 4 353 := by rw [hW, sU_ne (fun z => by omega)]
      have r4_354 : W 4 354 = M 4 354 := by rw [hW, sU_ne (fun z => by omega)]
      have r93_0 : W 93 0 = M 93 0 := by rw [hW, sU_ne (fun z => by omega)]
      have r93_1 : W 93 1 = M 93 1 := by rw [hW, sU_ne (fun z => by omega)]
      have r93_2 : W 93 2 = M 93 2 := by rw [hW, sU_ne (fun z => by omega)]
      have c94 : ∀ k, W 94 k = M 94 k := fun k => by rw [hW, sU_ne (fun z => by omega)]
      have e94 : W 94 = M 94 := funext c94
      have c100 : ∀ k, W 100 k = M 100 k := fun k => by rw [hW, sU_ne (fun z => by omega)]
      have e100 : W 100 = M 100 := funext c100
      have c104 : ∀ k, W 104 k = M 104 k := fun k => by rw [hW, sU_ne (fun z => by omega)]
      have e104 : W 104 = M 104 := funext c104
      intro _
      obtain ⟨b0, b1, b2⟩ := gx_xQ5 hI (by omega)
      have hn : ∀ w, dNm W w = dNm M w := fun w => funext fun j => by unfold dNm; rw [c94, c100, c104]
      have hc : ∀ w, dCn W w = dCn M w := fun w => by unfold dCn; rw [r93_0, r93_1, r93_2]
      rw [r4_354, r4_352, r4_353, r4_351, hn, hc]
      refine ⟨b0, by rw [h0]; omega, ?_⟩
      rw [show (1 * ρ 0 + (1 * ρ 1 + 0)).toNat = (M 4 351).toNat + 1 by rw [h0]; omega]
      refine tfi_no b2 ?_
      rw [show M 4 352 = 2 by omega]
      show M 104 (M 4 351).toNat ≠ M 4 353
      rw [show (M 4 351).toNat = (ρ 4).toNat by omega]
      omega
    have k_xQL : xQL W := by
      rw [hW]
      exact (uxQL rfl hI.2.2.2.2.2.2.2.2.2.2.2.2.2.2.2.2.2.2.2.2.2.2.2.2.2.2.2.2.2.2.2.2.2.2.2.2.2.2.2.2.2.2.2.2.2.2.2.2.1)
    have k_xQW : xQW W := by
      rw [hW]
      exact (uxQW rfl hI.2.2.2.2.2.2.2.2.2.2.2.2.2.2.2.2.2.2.2.2.2.2.2.2.2.2.2.2.2.2.2.2.2.2.2.2.2.2.2.2.2.2.2.2.2.2.2.2.2.1)
    have k_xQM : xQM W := by
      rw [hW]
      exact (uxQM rfl hI.2.2.2.2.2.2.2.2.2.2.2.2.2.2.2.2.2.2.2.2.2.2.2.2.2.2.2.2.2.2.2.2.2.2.2.2.2.2.2.2.2.2.2.2.2.2.2.2.2.2.1)
    have k_xQH : xQH W := by
      rw [hW]
      exact (uxQH rfl hI.2.2.2.2.2.2.2.2.2.2.2.2.2.2.2.2.2.2.2.2.2.2.2.2.2.2.2.2.2.2.2.2.2.2.2.2.2.2.2.2.2.2.2.2.2.2.2.2.2.2.2)
    have k_XC : XC W := ⟨k_xS1, k_xS2, k_xS3, k_xS4, k_xS5, k_xS6, k_xS7, k_xS8, k_xS9, k_xSA, k_xSG, k_xSF, k_xSB, k_xSC, k_xSD, k_xSE, k_xSW, k_xST, k_xSP, k_xSL, k_xSM, k_xSI, k_xD3, k_xDV, k_xDP, k_xDE, k_xQ5, k_xQL, k_xQW, k_xQM, k_xQH⟩
    have kXB : XB W := ⟨k_xN1, k_xN2, k_xN3, k_xN4, k_xN5, k_xN6, k_xH1, k_xK1, k_xC1, k_xRW, k_xWT, k_xCU, k_xG2, k_xG3, k_xG4, k_xG5, k_xG6, k_XC⟩
    exact ⟨base, k2, k3, kXA, kXB⟩
-- qHit5_2
def xr_641 : qRu := (8, [[(-1, 1), (1, 4)], [(1, 1), (-1, 4)], [(-1, 3), (1, 5)], [(1, 3), (-1, 5)], [(-1, 0), (-1, 1), (1, 6)]], [(4, 350, [(5, 0)]), (4, 351, [(1, 1)]), (4, 353, [(1, 3)]), (4, 352, [(2, 0)]), (93, 2, [(1, 6)]), (4, 354, [(1, 7)]), (104, 1004, [(1, 5)])], [], [], [[(-1, 1), (1, 7)], [(1, 1), (-1, 7)], [(1, 1)]])
theorem xo_641 : qRok xr_641 := by
  intro ρ M h0 hf hm hI
  have f0 := hf [(-1, 1), (1, 4)] (by decide)
  have f1 := hf [(1, 1), (-1, 4)] (by decide)
  have f2 := hf [(-1, 3), (1, 5)] (by decide)
  have f3 := hf [(1, 3), (-1, 5)] (by decide)
  have f4 := hf [(-1, 0), (-1, 1), (1, 6)] (by decide)
  simp only [qD, h0] at f0 f1 f2 f3 f4
  have m0 : M 4 350 = 5 * ρ 0 + 0 := hm (4, 350, [(5, 0)]) (by decide)
  have m1 : M 4 351 = 1 * ρ 1 + 0 := hm (4, 351, [(1, 1)]) (by decide)
  have m2 : M 4 353 = 1 * ρ 3 + 0 := hm (4, 353, [(1, 3)]) (by decide)
  have m3 : M 4 352 = 2 * ρ 0 + 0 := hm (4, 352, [(2, 0)]) (by decide)
  have m4 : M 93 2 = 1 * ρ 6 + 0 := hm (93, 2, [(1, 6)]) (by decide)
  have m5 : M 4 354 = 1 * ρ 7 + 0 := hm (4, 354, [(1, 7)]) (by decide)
  have m6 : M 104 (zIx ρ (1000 + 4)) = 1 * ρ 5 + 0 := hm (104, 1004, [(1, 5)]) (by decide)
  rw [zix_p] at m6
  simp only [h0] at m0 m3
  obtain ⟨b0, b1, b2⟩ := gx_xQ5 hI (by omega)
  rw [show M 4 352 = 2 by omega] at b0 b2
  have hh := tfi_hit b2 (show dNm M 2 (M 4 351).toNat = M 4 353 by show M 104 (M 4 351).toNat = M 4 353; rw [show (M 4 351).toNat = (ρ 4).toNat by omega]; omega) (dCn M 2).toNat (by show (M 4 351).toNat < (M 93 2).toNat; omega)
  rw [hh] at b0
  refine ⟨ρ, fun _ _ => rfl, fun f h => ?_, ?_⟩
  · have h : f ∈ ([[(-1, 1), (1, 7)], [(1, 1), (-1, 7)], [(1, 1)]] : List qF) := h
    simp only [List.mem_cons, List.not_mem_nil, or_false] at h
    rcases h with rfl | rfl | rfl
    · show 0 ≤ -1 * ρ 1 + (1 * ρ 7 + 0)
      (try rw [h0]); omega
    · show 0 ≤ 1 * ρ 1 + (-1 * ρ 7 + 0)
      (try rw [h0]); omega
    · show 0 ≤ 1 * ρ 1 + 0
      (try rw [h0]); omega
  · show sI M
    exact hI
-- qEnd5_2
def xr_642 : qRu := (8, [[(1, 1), (-1, 6)], [(-1, 1), (1, 6)]], [(4, 350, [(5, 0)]), (4, 351, [(1, 1)]), (4, 353, [(1, 3)]), (4, 352, [(2, 0)]), (93, 2, [(1, 6)]), (4, 354, [(1, 7)])], [], [], [[(1, 0), (1, 7)], [(-1, 0), (-1, 7)]])
theorem xo_642 : qRok xr_642 := by
  intro ρ M h0 hf hm hI
  have f0 := hf [(1, 1), (-1, 6)] (by decide)
  have f1 := hf [(-1, 1), (1, 6)] (by decide)
  simp only [qD, h0] at f0 f1
  have m0 : M 4 350 = 5 * ρ 0 + 0 := hm (4, 350, [(5, 0)]) (by decide)
  have m1 : M 4 351 = 1 * ρ 1 + 0 := hm (4, 351, [(1, 1)]) (by decide)
  have m2 : M 4 353 = 1 * ρ 3 + 0 := hm (4, 353, [(1, 3)]) (by decide)
  have m3 : M 4 352 = 2 * ρ 0 + 0 := hm (4, 352, [(2, 0)]) (by decide)
  have m4 : M 93 2 = 1 * ρ 6 + 0 := hm (93, 2, [(1, 6)]) (by decide)
  have m5 : M 4 354 = 1 * ρ 7 + 0 := hm (4, 354, [(1, 7)]) (by decide)
  simp only [h0] at m0 m3
  obtain ⟨b0, b1, b2⟩ := gx_xQ5 hI (by omega)
  rw [show M 4 352 = 2 by omega] at b0 b2
  rw [show (dCn M 2).toNat = (M 4 351).toNat by show (M 93 2).toNat = _; omega, b2] at b0
  refine ⟨ρ, fun _ _ => rfl, fun f h => ?_, ?_⟩
  · have h : f ∈ ([[(1, 0), (1, 7)], [(-1, 0), (-1, 7)]] : List qF) := h
    simp only [List.mem_cons, List.not_mem_nil, or_false] at h
    rcases h with rfl | rfl
    · show 0 ≤ 1 * ρ 0 + (1 * ρ 7 + 0)
      (try rw [h0]); omega
    · show 0 ≤ -1 * ρ 0 + (-1 * ρ 7 + 0)
      (try rw [h0]); omega
  · show sI M
    exact hI
-- qRe5
def xr_643 : qRu := (1, [], [(4, 350, [(5, 0)])], [], [(4, 351, [])], [])
theorem xo_643 : qRok xr_643 := by
  intro ρ M h0 hf hm hI
  have m0 : M 4 350 = 5 * ρ 0 + 0 := hm (4, 350, [(5, 0)]) (by decide)
  simp only [h0] at m0
  have qxQ5 := hI.2.2.2.2.2.2.2.2.2.2.2.2.2.2.2.2.2.2.2.2.2.2.2.2.2.2.2.2.2.2.2.2.2.2.2.2.2.2.2.2.2.2.2.2.2.2.2.1
  refine ⟨ρ, fun _ _ => rfl, fun f h => ?_, ?_⟩
  · exact nomatch h
  · show sI (sU M 4 351 (0))
    obtain ⟨W, hW⟩ : ∃ W, W = (sU M 4 351 (0)) := ⟨_, rfl⟩
    rw [← hW]
    have base : sI0 W := by
      rw [hW]
      exact (si_u0 hI.1 (fun r hr => by cases hr))
    have k2 : XI2 W := by
      rw [hW]
      exact (xi2_u rfl hI.2.1)
    have k3 : XI3 W := by
      rw [hW]
      exact (xi3_u rfl hI.2.2.1)
    have kXA : XA W := by
      rw [hW]
      exact (uXA rfl hI.2.2.2.1)
    have k_xN1 : xN1 W := by
      rw [hW]
      exact (uxN1 rfl hI.2.2.2.2.1)
    have k_xN2 : xN2 W := by
      rw [hW]
      exact (uxN2 rfl hI.2.2.2.2.2.1)
    have k_xN3 : xN3 W := by
      rw [hW]
      exact (uxN3 rfl hI.2.2.2.2.2.2.1)
    have k_xN4 : xN4 W := by
      rw [hW]
      exact (uxN4 rfl hI.2.2.2.2.2.2.2.1)
    have k_xN5 : xN5 W := by
      rw [hW]
      exact (uxN5 rfl hI.2.2.2.2.2.2.2.2.1)
    have k_xN6 : xN6 W := by
      rw [hW]
      exact (uxN6 rfl hI.2.2.2.2.2.2.2.2.2.1)
    have k_xH1 : xH1 W := by
      rw [hW]
      exact (uxH1 rfl hI.2.2.2.2.2.2.2.2.2.2.1)
    have k_xK1 : xK1 W := by
      rw [hW]
      exact (uxK1 rfl hI.2.2.2.2.2.2.2.2.2.2.2.1)
    have k_xC1 : xC1 W := by
      rw [hW]
      exact (uxC1 rfl hI.2.2.2.2.2.2.2.2.2.2.2.2.1)
    have k_xRW : xRW W := by
      rw [hW]
      exact (uxRW rfl hI.2.2.2.2.2.2.2.2.2.2.2.2.2.1)
    have k_xWT : xWT W := by
      rw [hW]
      exact (uxWT rfl hI.2.2.2.2.2.2.2.2.2.2.2.2.2.2.1)
    have k_xCU : xCU W := by
      rw [hW]
      exact (uxCU rfl hI.2.2.2.2.2.2.2.2.2.2.2.2.2.2.2.1)
    have k_xG2 : xG2 W := by
      rw [hW]
      exact (uxG2 rfl hI.2.2.2.2.2.2.2.2.2.2.2.2.2.2.2.2.1)
    have k_xG3 : xG3 W := by
      rw [hW]
      exact (uxG3 rfl hI.2.2.2.2.2.2.2.2.2.2.2.2.2.2.2.2.2.1)
    have k_xG4 : xG4 W := by
      rw [hW]
      exact (uxG4 rfl hI.2.2.2.2.2.2.2.2.2.2.2.2.2.2.2.2.2.2.1)
    have k_xG5 : xG5 W := by
      rw [hW]
      exact (uxG5 rfl hI.2.2.2.2.2.2.2.2.2.2.2.2.2.2.2.2.2.2.2.1)
    have k_xG6 : xG6 W := by
      rw [hW]
      exact (uxG6 rfl hI.2.2.2.2.2.2.2.2.2.2.2.2.2.2.2.2.2.2.2.2.1)
    have k_xS1 : xS1 W := by
      rw [hW]
      exact (uxS1 rfl hI.2.2.2.2.2.2.2.2.2.2.2.2.2.2.2.2.2.2.2.2.2.1)
    have k_xS2 : xS2 W := by
      rw [hW]
      exact (uxS2 rfl hI.2.2.2.2.2.2.2.2.2.2.2.2.2.2.2.2.2.2.2.2.2.2.1)
    have k_xS3 : xS3 W := by
      rw [hW]
      exact (uxS3 rfl hI.2.2.2.2.2.2.2.2.2.2.2.2.2.2.2.2.2.2.2.2.2.2.2.1)
    have k_xS4 : xS4 W := by
      rw [hW]
      exact (uxS4 rfl hI.2.2.2.2.2.2.2.2.2.2.2.2.2.2.2.2.2.2.2.2.2.2.2.2.1)
    have k_xS5 : xS5 W := by
      rw [hW]
      exact (uxS5 rfl hI.2.2.2.2.2.2.2.2.2.2.2.2.2.2.2.2.2.2.2.2.2.2.2.2.2.1)
    have k_xS6 : xS6 W := by
      rw [hW]
      exact (uxS6 rfl hI.2.2.2.2.2.2.2.2.2.2.2.2.2.2.2.2.2.2.2.2.2.2.2.2.2.2.1)
    have k_xS7 : xS7 W := by
      rw [hW]
      exact (uxS7 rfl hI.2.2.2.2.2.2.2.2.2.2.2.2.2.2.2.2.2.2.2.2.2.2.2.2.2.2.2.1)
    have k_xS8 : xS8 W := by
      rw [hW]
      exact (uxS8 rfl hI.2.2.2.2.2.2.2.2.2.2.2.2.2.2.2.2.2.2.2.2.2.2.2.2.2.2.2.2.1)
    have k_xS9 : xS9 W := by
      rw [hW]
      exact (uxS9 rfl hI.2.2.2.2.2.2.2.2.2.2.2.2.2.2.2.2.2.2.2.2.2.2.2.2.2.2.2.2.2.1)
    have k_xSA : xSA W := by
      rw [hW]
      exact (uxSA rfl hI.2.2.2.2.2.2.2.2.2.2.2.2.2.2.2.2.2.2.2.2.2.2.2.2.2.2.2.2.2.2.1)
    have k_xSG : xSG W := by
      rw [hW]
      exact (uxSG rfl hI.2.2.2.2.2.2.2.2.2.2.2.2.2.2.2.2.2.2.2.2.2.2.2.2.2.2.2.2.2.2.2.1)
    have k_xSF : xSF W := by
      rw [hW]
      exact (uxSF rfl hI.2.2.2.2.2.2.2.2.2.2.2.2.2.2.2.2.2.2.2.2.2.2.2.2.2.2.2.2.2.2.2.2.1)
    have k_xSB : xSB W := by
      rw [hW]
      exact (uxSB rfl hI.2.2.2.2.2.2.2.2.2.2.2.2.2.2.2.2.2.2.2.2.2.2.2.2.2.2.2.2.2.2.2.2.2.1)
    have k_xSC : xSC W := by
      rw [hW]
      exact (uxSC rfl hI.2.2.2.2.2.2.2.2.2.2.2.2.2.2.2.2.2.2.2.2.2.2.2.2.2.2.2.2.2.2.2.2.2.2.1)
    have k_xSD : xSD W := by
      rw [hW]
      exact (uxSD rfl hI.2.2.2.2.2.2.2.2.2.2.2.2.2.2.2.2.2.2.2.2.2.2.2.2.2.2.2.2.2.2.2.2.2.2.2.1)
    have k_xSE : xSE W := by
      rw [hW]
      exact (uxSE rfl hI.2.2.2.2.2.2.2.2.2.2.2.2.2.2.2.2.2.2.2.2.2.2.2.2.2.2.2.2.2.2.2.2.2.2.2.2.1)
    have k_xSW : xSW W := by
      rw [hW]
      exact (uxSW rfl hI.2.2.2.2.2.2.2.2.2.2.2.2.2.2.2.2.2.2.2.2.2.2.2.2.2.2.2.2.2.2.2.2.2.2.2.2.2.1)
    have k_xST : xST W := by
      rw [hW]
      exact (uxST rfl hI.2.2.2.2.2.2.2.2.2.2.2.2.2.2.2.2.2.2.2.2.2.2.2.2.2.2.2.2.2.2.2.2.2.2.2.2.2.2.1)
    have k_xSP : xSP W := by
      rw [hW]
      exact (uxSP rfl hI.2.2.2.2.2.2.2.2.2.2.2.2.2.2.2.2.2.2.2.2.2.2.2.2.2.2.2.2.2.2.2.2.2.2.2.2.2.2.2.1)
    have k_xSL : xSL W := by
      rw [hW]
      exact (uxSL rfl hI.2.2.2.2.2.2.2.2.2.2.2.2.2.2.2.2.2.2.2.2.2.2.2.2.2.2.2.2.2.2.2.2.2.2.2.2.2.2.2.2.1)
    have k_xSM : xSM W := by
      rw [hW]
      exact (uxSM rfl hI.2.2.2.2.2.2.2.2.2.2.2.2.2.2.2.2.2.2.2.2.2.2.2.2.2.2.2.2.2.2.2.2.2.2.2.2.2.2.2.2.2.1)
    have k_xSI : xSI W := by
      rw [hW]
      exact (uxSI rfl hI.2.2.2.2.2.2.2.2.2.2.2.2.2.2.2.2.2.2.2.2.2.2.2.2.2.2.2.2.2.2.2.2.2.2.2.2.2.2.2.2.2.2.1)
    have k_xD3 : xD3 W := by
      rw [hW]
      exact (uxD3 rfl hI.2.2.2.2.2.2.2.2.2.2.2.2.2.2.2.2.2.2.2.2.2.2.2.2.2.2.2.2.2.2.2.2.2.2.2.2.2.2.2.2.2.2.2.1)
    have k_xDV : xDV W := by
      rw [hW]
      exact (uxDV rfl hI.2.2.2.2.2.2.2.2.2.2.2.2.2.2.2.2.2.2.2.2.2.2.2.2.2.2.2.2.2.2.2.2.2.2.2.2.2.2.2.2.2.2.2.2.1)
    have k_xDP : xDP W := by
      rw [hW]
      exact (uxDP rfl hI.2.2.2.2.2.2.2.2.2.2.2.2.2.2.2.2.2.2.2.2.2.2.2.2.2.2.2.2.2.2.2.2.2.2.2.2.2.2.2.2.2.2.2.2.2.1)
    have k_xDE : xDE W := by
      rw [hW]
      exact (uxDE rfl hI.2.2.2.2.2.2.2.2.2.2.2.2.2.2.2.2.2.2.2.2.2.2.2.2.2.2.2.2.2.2.2.2.2.2.2.2.2.2.2.2.2.2.2.2.2.2.1)
    have k_xQ5 : xQ5 W := by
      have r4_350 : W 4 350 = M 4 350 := by rw [hW, sU_ne (fun z => by omega)]
      have r4_351 : W 4 351 = 0 := by rw [hW, sU_at]
      have r4_352 : W 4 352 = M 4 352 := by rw [hW, sU_ne (fun z => by omega)]
      have r4_353 : W 4 353 = M 4 353 := by rw [hW, sU_ne (fun z => by omega)]
      have r4_354 : W 4 354 = M 4 354 := by rw [hW, sU_ne (fun z => by omega)]
      have r93_0 : W 93 0 = M 93 0 := by rw [hW, sU_ne (fun z => by omega)]
      have r93_1 : W 93 1 = M 93 1 := by rw [hW, sU_ne (fun z => by omega)]
      have r93_2 : W 93 2 = M 93 2 := by rw [hW, sU_ne (fun z => by omega)]
      have c94 : ∀ k, W 94 k = M 94 k := fun k => by rw [hW, sU_ne (fun z => by omega)]
      have e94 : W 94 = M 94 := funext c94
      have c100 : ∀ k, W 100 k = M 100 k := fun k => by rw [hW, sU_ne (fun z => by omega)]
      have e100 : W 100 = M 100 := funext c100
      have c104 : ∀ k, W 104 k = M 104 k := fun k => by rw [hW, sU_ne (fun z => by omega)]
      have e104 : W 104 = M 104 := funext c104
      intro _
      obtain ⟨b0, b1, b2⟩ := gx_xQ5 hI (by omega)
      have hn : ∀ w, dNm W w = dNm M w := fun w => funext fun j => by unfold dNm; rw [c94, c100, c104]
      have hc : ∀ w, dCn W w = dCn M w := fun w => by unfold dCn; rw [r93_0, r93_1, r93_2]
      rw [r4_354, r4_352, r4_353, r4_351, hn, hc]
      exact ⟨b0, Int.le_refl _, rfl⟩
    have k_xQL : xQL W := by
      rw [hW]
      exact (uxQL rfl hI.2.2.2.2.2.2.2.2.2.2.2.2.2.2.2.2.2.2.2.2.2.2.2.2.2.2.2.2.2.2.2.2.2.2.2.2.2.2.2.2.2.2.2.2.2.2.2.2.1)
    have k_xQW : xQW W := by
      rw [hW]
      exact (uxQW rfl hI.2.2.2.2.2.2.2.2.2.2.2.2.2.2.2.2.2.2.2.2.2.2.2.2.2.2.2.2.2.2.2.2.2.2.2.2.2.2.2.2.2.2.2.2.2.2.2.2.2.1)
    have k_xQM : xQM W := by
      rw [hW]
      exact (uxQM rfl hI.2.2.2.2.2.2.2.2.2.2.2.2.2.2.2.2.2.2.2.2.2.2.2.2.2.2.2.2.2.2.2.2.2.2.2.2.2.2.2.2.2.2.2.2.2.2.2.2.2.2.1)
    have k_xQH : xQH W := by
      rw [hW]
      exact (uxQH rfl hI.2.2.2.2.2.2.2.2.2.2.2.2.2.2.2.2.2.2.2.2.2.2.2.2.2.2.2.2.2.2.2.2.2.2.2.2.2.2.2.2.2.2.2.2.2.2.2.2.2.2.2)
    have k_XC : XC W := ⟨k_xS1, k_xS2, k_xS3, k_xS4, k_xS5, k_xS6, k_xS7, k_xS8, k_xS9, k_xSA, k_xSG, k_xSF, k_xSB, k_xSC, k_xSD, k_xSE, k_xSW, k_xST, k_xSP, k_xSL, k_xSM, k_xSI, k_xD3, k_xDV, k_xDP, k_xDE, k_xQ5, k_xQL, k_xQW, k_xQM, k_xQH⟩
    have kXB : XB W := ⟨k_xN1, k_xN2, k_xN3, k_xN4, k_xN5, k_xN6, k_xH1, k_xK1, k_xC1, k_xRW, k_xWT, k_xCU, k_xG2, k_xG3, k_xG4, k_xG5, k_xG6, k_XC⟩
    exact ⟨base, k2, k3, kXA, kXB⟩
-- qOff
def xr_644 : qRu := (1, [], [], [], [(4, 350, [])], [])
theorem xo_644 : qRok xr_644 := by
  intro ρ M h0 hf hm hI
  refine ⟨ρ, fun _ _ => rfl, fun f h => ?_, ?_⟩
  · exact nomatch h
  · show sI (sU M 4 350 (0))
    obtain ⟨W, hW⟩ : ∃ W, W = (sU M 4 350 (0)) := ⟨_, rfl⟩
    rw [← hW]
    have base : sI0 W := by
      rw [hW]
      exact (si_u0 hI.1 (fun r hr => by cases hr))
    have k2 : XI2 W := by
      rw [hW]
      exact (xi2_u rfl hI.2.1)
    have k3 : XI3 W := by
      rw [hW]
      exact (xi3_u rfl hI.2.2.1)
    have kXA : XA W := by
      rw [hW]
      exact (uXA rfl hI.2.2.2.1)
    have k_xN1 : xN1 W := by
      rw [hW]
      exact (uxN1 rfl hI.2.2.2.2.1)
    have k_xN2 : xN2 W := by
      rw [hW]
      exact (uxN2 rfl hI.2.2.2.2.2.1)
    have k_xN3 : xN3 W := by
      rw [hW]
      exact (uxN3 rfl hI.2.2.2.2.2.2.1)
    have k_xN4 : xN4 W := by
      rw [hW]
      exact (uxN4 rfl hI.2.2.2.2.2.2.2.1)
    have k_xN5 : xN5 W := by
      rw [hW]
      exact (uxN5 rfl hI.2.2.2.2.2.2.2.2.1)
    have k_xN6 : xN6 W := by
      rw [hW]
      exact (uxN6 rfl hI.2.2.2.2.2.2.2.2.2.1)
    have k_xH1 : xH1 W := by
      rw [hW]
      exact (uxH1 rfl hI.2.2.2.2.2.2.2.2.2.2.1)
    have k_xK1 : xK1 W := by
      rw [hW]
      exact (uxK1 rfl hI.2.2.2.2.2.2.2.2.2.2.2.1)
    have k_xC1 : xC1 W := by
      rw [hW]
      exact (uxC1 rfl hI.2.2.2.2.2.2.2.2.2.2.2.2.1)
    have k_xRW : xRW W := by
      rw [hW]
      exact (uxRW rfl hI.2.2.2.2.2.2.2.2.2.2.2.2.2.1)
    have k_xWT : xWT W := by
      rw [hW]
      exact (uxWT rfl hI.2.2.2.2.2.2.2.2.2.2.2.2.2.2.1)
    have k_xCU : xCU W := by
      rw [hW]
      exact (uxCU rfl hI.2.2.2.2.2.2.2.2.2.2.2.2.2.2.2.1)
    have k_xG2 : xG2 W := by
      rw [hW]
      exact (uxG2 rfl hI.2.2.2.2.2.2.2.2.2.2.2.2.2.2.2.2.1)
    have k_xG3 : xG3 W := by
      rw [hW]
      exact (uxG3 rfl hI.2.2.2.2.2.2.2.2.2.2.2.2.2.2.2.2.2.1)
    have k_xG4 : xG4 W := by
      rw [hW]
      exact (uxG4 rfl hI.2.2.2.2.2.2.2.2.2.2.2.2.2.2.2.2.2.2.1)
    have k_xG5 : xG5 W := by
      rw [hW]
      exact (uxG5 rfl hI.2.2.2.2.2.2.2.2.2.2.2.2.2.2.2.2.2.2.2.1)
    have k_xG6 : xG6 W := by
      rw [hW]
      exact (uxG6 rfl hI.2.2.2.2.2.2.2.2.2.2.2.2.2.2.2.2.2.2.2.2.1)
    have k_xS1 : xS1 W := by
      rw [hW]
      exact (uxS1 rfl hI.2.2.2.2.2.2.2.2.2.2.2.2.2.2.2.2.2.2.2.2.2.1)
    have k_xS2 : xS2 W := by
      rw [hW]
      exact (uxS2 rfl hI.2.2.2.2.2.2.2.2.2.2.2.2.2.2.2.2.2.2.2.2.2.2.1)
    have k_xS3 : xS3 W := by
      rw [hW]
      exact (uxS3 rfl hI.2.2.2.2.2.2.2.2.2.2.2.2.2.2.2.2.2.2.2.2.2.2.2.1)
    have k_xS4 : xS4 W := by
      rw [hW]
      exact (uxS4 rfl hI.2.2.2.2.2.2.2.2.2.2.2.2.2.2.2.2.2.2.2.2.2.2.2.2.1)
    have k_xS5 : xS5 W := by
      rw [hW]
      exact (uxS5 rfl hI.2.2.2.2.2.2.2.2.2.2.2.2.2.2.2.2.2.2.2.2.2.2.2.2.2.1)
    have k_xS6 : xS6 W := by
      rw [hW]
      exact (uxS6 rfl hI.2.2.2.2.2.2.2.2.2.2.2.2.2.2.2.2.2.2.2.2.2.2.2.2.2.2.1)
    have k_xS7 : xS7 W := by
      rw [hW]
      exact (uxS7 rfl hI.2.2.2.2.2.2.2.2.2.2.2.2.2.2.2.2.2.2.2.2.2.2.2.2.2.2.2.1)
    have k_xS8 : xS8 W := by
      rw [hW]
      exact (uxS8 rfl hI.2.2.2.2.2.2.2.2.2.2.2.2.2.2.2.2.2.2.2.2.2.2.2.2.2.2.2.2.1)
    have k_xS9 : xS9 W := by
      rw [hW]
      exact (uxS9 rfl hI.2.2.2.2.2.2.2.2.2.2.2.2.2.2.2.2.2.2.2.2.2.2.2.2.2.2.2.2.2.1)
    have k_xSA : xSA W := by
      rw [hW]
      exact (uxSA rfl hI.2.2.2.2.2.2.2.2.2.2.2.2.2.2.2.2.2.2.2.2.2.2.2.2.2.2.2.2.2.2.1)
    have k_xSG : xSG W := by
      rw [hW]
      exact (uxSG rfl hI.2.2.2.2.2.2.2.2.2.2.2.2.2.2.2.2.2.2.2.2.2.2.2.2.2.2.2.2.2.2.2.1)
    have k_xSF : xSF W := by
      rw [hW]
      exact (uxSF rfl hI.2.2.2.2.2.2.2.2.2.2.2.2.2.2.2.2.2.2.2.2.2.2.2.2.2.2.2.2.2.2.2.2.1)
    have k_xSB : xSB W := by
      rw [hW]
      exact (uxSB rfl hI.2.2.2.2.2.2.2.2.2.2.2.2.2.2.2.2.2.2.2.2.2.2.2.2.2.2.2.2.2.2.2.2.2.1)
    have k_xSC : xSC W := by
      rw [hW]
      exact (uxSC rfl hI.2.2.2.2.2.2.2.2.2.2.2.2.2.2.2.2.2.2.2.2.2.2.2.2.2.2.2.2.2.2.2.2.2.2.1)
    have k_xSD : xSD W := by
      rw [hW]
      exact (uxSD rfl hI.2.2.2.2.2.2.2.2.2.2.2.2.2.2.2.2.2.2.2.2.2.2.2.2.2.2.2.2.2.2.2.2.2.2.2.1)
    have k_xSE : xSE W := by
      rw [hW]
      exact (uxSE rfl hI.2.2.2.2.2.2.2.2.2.2.2.2.2.2.2.2.2.2.2.2.2.2.2.2.2.2.2.2.2.2.2.2.2.2.2.2.1)
    have k_xSW : xSW W := by
      rw [hW]
      exact (uxSW rfl hI.2.2.2.2.2.2.2.2.2.2.2.2.2.2.2.2.2.2.2.2.2.2.2.2.2.2.2.2.2.2.2.2.2.2.2.2.2.1)
    have k_xST : xST W := by
      rw [hW]
      exact (uxST rfl hI.2.2.2.2.2.2.2.2.2.2.2.2.2.2.2.2.2.2.2.2.2.2.2.2.2.2.2.2.2.2.2.2.2.2.2.2.2.2.1)
    have k_xSP : xSP W := by
      rw [hW]
      exact (uxSP rfl hI.2.2.2.2.2.2.2.2.2.2.2.2.2.2.2.2.2.2.2.2.2.2.2.2.2.2.2.2.2.2.2.2.2.2.2.2.2.2.2.1)
    have k_xSL : xSL W := by
      rw [hW]
      exact (uxSL rfl hI.2.2.2.2.2.2.2.2.2.2.2.2.2.2.2.2.2.2.2.2.2.2.2.2.2.2.2.2.2.2.2.2.2.2.2.2.2.2.2.2.1)
    have k_xSM : xSM W := by
      rw [hW]
      exact (uxSM rfl hI.2.2.2.2.2.2.2.2.2.2.2.2.2.2.2.2.2.2.2.2.2.2.2.2.2.2.2.2.2.2.2.2.2.2.2.2.2.2.2.2.2.1)
    have k_xSI : xSI W := by
      rw [hW]
      exact (uxSI rfl hI.2.2.2.2.2.2.2.2.2.2.2.2.2.2.2.2.2.2.2.2.2.2.2.2.2.2.2.2.2.2.2.2.2.2.2.2.2.2.2.2.2.2.1)
    have k_xD3 : xD3 W := by
      rw [hW]
      exact (uxD3 rfl hI.2.2.2.2.2.2.2.2.2.2.2.2.2.2.2.2.2.2.2.2.2.2.2.2.2.2.2.2.2.2.2.2.2.2.2.2.2.2.2.2.2.2.2.1)
    have k_xDV : xDV W := by
      rw [hW]
      exact (uxDV rfl hI.2.2.2.2.2.2.2.2.2.2.2.2.2.2.2.2.2.2.2.2.2.2.2.2.2.2.2.2.2.2.2.2.2.2.2.2.2.2.2.2.2.2.2.2.1)
    have k_xDP : xDP W := by
      rw [hW]
      exact (uxDP rfl hI.2.2.2.2.2.2.2.2.2.2.2.2.2.2.2.2.2.2.2.2.2.2.2.2.2.2.2.2.2.2.2.2.2.2.2.2.2.2.2.2.2.2.2.2.2.1)
    have k_xDE : xDE W := by
      rw [hW]
      exact (uxDE rfl hI.2.2.2.2.2.2.2.2.2.2.2.2.2.2.2.2.2.2.2.2.2.2.2.2.2.2.2.2.2.2.2.2.2.2.2.2.2.2.2.2.2.2.2.2.2.2.1)
    have k_xQ5 : xQ5 W := by
      have r : W 4 350 = 0 := by rw [hW, sU_at]
      intro h
      rw [r] at h
      omega
    have k_xQL : xQL W := by
      have r : W 4 350 = 0 := by rw [hW, sU_at]
      intro h
      rw [r] at h
      omega
    have k_xQW : xQW W := by
      have r : W 4 350 = 0 := by rw [hW, sU_at]
      intro h
      rw [r] at h
      omega
    have k_xQM : xQM W := by
      rw [hW]
      exact (uxQM rfl hI.2.2.2.2.2.2.2.2.2.2.2.2.2.2.2.2.2.2.2.2.2.2.2.2.2.2.2.2.2.2.2.2.2.2.2.2.2.2.2.2.2.2.2.2.2.2.2.2.2.2.1)
    have k_xQH : xQH W := by
      have r : W 4 350 = 0 := by rw [hW, sU_at]
      intro h
      rw [r] at h
      omega
    have k_XC : XC W := ⟨k_xS1, k_xS2, k_xS3, k_xS4, k_xS5, k_xS6, k_xS7, k_xS8, k_xS9, k_xSA, k_xSG, k_xSF, k_xSB, k_xSC, k_xSD, k_xSE, k_xSW, k_xST, k_xSP, k_xSL, k_xSM, k_xSI, k_xD3, k_xDV, k_xDP, k_xDE, k_xQ5, k_xQL, k_xQW, k_xQM, k_xQH⟩
    have kXB : XB W := ⟨k_xN1, k_xN2, k_xN3, k_xN4, k_xN5, k_xN6, k_xH1, k_xK1, k_xC1, k_xRW, k_xWT, k_xCU, k_xG2, k_xG3, k_xG4, k_xG5, k_xG6, k_XC⟩
    exact ⟨base, k2, k3, kXA, kXB⟩
-- lSet
def xr_645 : qRu := (3, [[(1, 1)]], [(4, 350, []), (95, 1001, [(1, 2)])], [], [(4, 350, [(30, 0)]), (4, 360, []), (4, 361, [(-1, 0)]), (4, 362, []), (4, 363, []), (4, 364, []), (4, 365, [(1, 2)]), (4, 366, []), (4, 367, []), (4, 369, [(1, 3)]), (4, 370, [(-1, 0)]), (4, 371, []), (4, 372, [(1, 1)])], [])
theorem xo_645 : qRok xr_645 := by
  intro ρ M h0 hf hm hI
  have f0 := hf [(1, 1)] (by decide)
  simp only [qD, h0] at f0
  have m0 : M 4 350 = 0 := hm (4, 350, []) (by decide)
  have m1 : M 95 (zIx ρ (1000 + 1)) = 1 * ρ 2 + 0 := hm (95, 1001, [(1, 2)]) (by decide)
  rw [zix_p] at m1
  have qxQL := hI.2.2.2.2.2.2.2.2.2.2.2.2.2.2.2.2.2.2.2.2.2.2.2.2.2.2.2.2.2.2.2.2.2.2.2.2.2.2.2.2.2.2.2.2.2.2.2.2.1
  refine ⟨fun a => cond (Nat.blt a 3) (ρ a) (([(dB3 M (0) (M 93 0).toNat).2.2] : List Int).getD (a - 3) 0), fun a ha => ?_, fun f h => ?_, ?_⟩
  · show cond (Nat.blt a 3) (ρ a) _ = ρ a
    rw [show Nat.blt a 3 = true from Nat.ble_eq_true_of_le ha]; rfl
  · exact nomatch h
  · show sI (sU (sU (sU (sU (sU (sU (sU (sU (sU (sU (sU (sU (sU M 4 350 (30 * ρ 0 + 0)) 4 360 (0)) 4 361 (-1 * ρ 0 + 0)) 4 362 (0)) 4 363 (0)) 4 364 (0)) 4 365 (1 * ρ 2 + 0)) 4 366 (0)) 4 367 (0)) 4 369 (1 * ((dB3 M (0) (M 93 0).toNat).2.2) + 0)) 4 370 (-1 * ρ 0 + 0)) 4 371 (0)) 4 372 (1 * ρ 1 + 0))
    obtain ⟨W, hW⟩ : ∃ W, W = (sU (sU (sU (sU (sU (sU (sU (sU (sU (sU (sU (sU (sU M 4 350 (30 * ρ 0 + 0)) 4 360 (0)) 4 361 (-1 * ρ 0 + 0)) 4 362 (0)) 4 363 (0)) 4 364 (0)) 4 365 (1 * ρ 2 + 0)) 4 366 (0)) 4 367 (0)) 4 369 (1 * ((dB3 M (0) (M 93 0).toNat).2.2) + 0)) 4 370 (-1 * ρ 0 + 0)) 4 371 (0)) 4 372 (1 * ρ 1 + 0)) := ⟨_, rfl⟩
    rw [← hW]
    have base : sI0 W := by
      rw [hW]
      exact (si_u0 (si_u0 (si_u0 (si_u0 (si_u0 (si_u0 (si_u0 (si_u0 (si_u0 (si_u0 (si_u0 (si_u0 (si_u0 hI.1 (fun r hr => by cases hr)) (fun r hr => by cases hr)) (fun r hr => by cases hr)) (fun r hr => by cases hr)) (fun r hr => by cases hr)) (fun r hr => by cases hr)) (fun r hr => by cases hr)) (fun r hr => by cases hr)) (fun r hr => by cases hr)) (fun r hr => by cases hr)) (fun r hr => by cases hr)) (fun r hr => by cases hr)) (fun r hr => by cases hr))
    have k2 : XI2 W := by
      rw [hW]
      exact (xi2_u rfl (xi2_u rfl (xi2_u rfl (xi2_u rfl (xi2_u rfl (xi2_u rfl (xi2_u rfl (xi2_u rfl (xi2_u rfl (xi2_u rfl (xi2_u rfl (xi2_u rfl (xi2_u rfl hI.2.1)))))))))))))
    have k3 : XI3 W := by
      rw [hW]
      exact (xi3_u rfl (xi3_u rfl (xi3_u rfl (xi3_u rfl (xi3_u rfl (xi3_u rfl (xi3_u rfl (xi3_u rfl (xi3_u rfl (xi3_u rfl (xi3_u rfl (xi3_u rfl (xi3_u rfl hI.2.2.1)))))))))))))
    have kXA : XA W := by
      rw [hW]
      exact (uXA rfl (uXA rfl (uXA rfl (uXA rfl (uXA rfl (uXA rfl (uXA rfl (uXA rfl (uXA rfl (uXA rfl (uXA rfl (uXA rfl (uXA rfl hI.2.2.2.1)))))))))))))
    have k_xN1 : xN1 W := by
      rw [hW]
      exact (uxN1 rfl (uxN1 rfl (uxN1 rfl (uxN1 rfl (uxN1 rfl (uxN1 rfl (uxN1 rfl (uxN1 rfl (uxN1 rfl (uxN1 rfl (uxN1 rfl (uxN1 rfl (uxN1 rfl hI.2.2.2.2.1)))))))))))))
    have k_xN2 : xN2 W := by
      rw [hW]
      exact (uxN2 rfl (uxN2 rfl (uxN2 rfl (uxN2 rfl (uxN2 rfl (uxN2 rfl (uxN2 rfl (uxN2 rfl (uxN2 rfl (uxN2 rfl (uxN2 rfl (uxN2 rfl (uxN2 rfl hI.2.2.2.2.2.1)))))))))))))
    have k_xN3 : xN3 W := by
      rw [hW]
      exact (uxN3 rfl (uxN3 rfl (uxN3 rfl (uxN3 rfl (uxN3 rfl (uxN3 rfl (uxN3 rfl (uxN3 rfl (uxN3 rfl (uxN3 rfl (uxN3 rfl (uxN3 rfl (uxN3 rfl hI.2.2.2.2.2.2.1)))))))))))))
    have k_xN4 : xN4 W := by
      rw [hW]
      exact (uxN4 rfl (uxN4 rfl (uxN4 rfl (uxN4 rfl (uxN4 rfl (uxN4 rfl (uxN4 rfl (uxN4 rfl (uxN4 rfl (uxN4 rfl (uxN4 rfl (uxN4 rfl (uxN4 rfl hI.2.2.2.2.2.2.2.1)))))))))))))
    have k_xN5 : xN5 W := by
      rw [hW]
      exact (uxN5 rfl (uxN5 rfl (uxN5 rfl (uxN5 rfl (uxN5 rfl (uxN5 rfl (uxN5 rfl (uxN5 rfl (uxN5 rfl (uxN5 rfl (uxN5 rfl (uxN5 rfl (uxN5 rfl hI.2.2.2.2.2.2.2.2.1)))))))))))))
    have k_xN6 : xN6 W := by
      rw [hW]
      exact (uxN6 rfl (uxN6 rfl (uxN6 rfl (uxN6 rfl (uxN6 rfl (uxN6 rfl (uxN6 rfl (uxN6 rfl (uxN6 rfl (uxN6 rfl (uxN6 rfl (uxN6 rfl (uxN6 rfl hI.2.2.2.2.2.2.2.2.2.1)))))))))))))
    have k_xH1 : xH1 W := by
      rw [hW]
      exact (uxH1 rfl (uxH1 rfl (uxH1 rfl (uxH1 rfl (uxH1 rfl (uxH1 rfl (uxH1 rfl (uxH1 rfl (uxH1 rfl (uxH1 rfl (uxH1 rfl (uxH1 rfl (uxH1 rfl hI.2.2.2.2.2.2.2.2.2.2.1)))))))))))))
    have k_xK1 : xK1 W := by
      rw [hW]
      exact (uxK1 rfl (uxK1 rfl (uxK1 rfl (uxK1 rfl (uxK1 rfl (uxK1 rfl (uxK1 rfl (uxK1 rfl (uxK1 rfl (uxK1 rfl (uxK1 rfl (uxK1 rfl (uxK1 rfl hI.2.2.2.2.2.2.2.2.2.2.2.1)))))))))))))
    have k_xC1 : xC1 W := by
      rw [hW]
      exact (uxC1 rfl (uxC1 rfl (uxC1 rfl (uxC1 rfl (uxC1 rfl (uxC1 rfl (uxC1 rfl (uxC1 rfl (uxC1 rfl (uxC1 rfl (uxC1 rfl (uxC1 rfl (uxC1 rfl hI.2.2.2.2.2.2.2.2.2.2.2.2.1)))))))))))))
    have k_xRW : xRW W := by
      rw [hW]
      exact (uxRW rfl (uxRW rfl (uxRW rfl (uxRW rfl (uxRW rfl (uxRW rfl (uxRW rfl (uxRW rfl (uxRW rfl (uxRW rfl (uxRW rfl (uxRW rfl (uxRW rfl hI.2.2.2.2.2.2.2.2.2.2.2.2.2.1)))))))))))))
    have k_xWT : xWT W := by
      rw [hW]
      exact (uxWT rfl (uxWT rfl (uxWT rfl (uxWT rfl (uxWT rfl (uxWT rfl (uxWT rfl (uxWT rfl (uxWT rfl (uxWT rfl (uxWT rfl (uxWT rfl (uxWT rfl hI.2.2.2.2.2.2.2.2.2.2.2.2.2.2.1)))))))))))))
    have k_xCU : xCU W := by
      rw [hW]
      exact (uxCU rfl (uxCU rfl (uxCU rfl (uxCU rfl (uxCU rfl (uxCU rfl (uxCU rfl (uxCU rfl (uxCU rfl (uxCU rfl (uxCU rfl (uxCU rfl (uxCU rfl hI.2.2.2.2.2.2.2.2.2.2.2.2.2.2.2.1)))))))))))))
    have k_xG2 : xG2 W := by
      rw [hW]
      exact (uxG2 rfl (uxG2 rfl (uxG2 rfl (uxG2 rfl (uxG2 rfl (uxG2 rfl (uxG2 rfl (uxG2 rfl (uxG2 rfl (uxG2 rfl (uxG2 rfl (uxG2 rfl (uxG2 rfl hI.2.2.2.2.2.2.2.2.2.2.2.2.2.2.2.2.1)))))))))))))
    have k_xG3 : xG3 W := by
      rw [hW]
      exact (uxG3 rfl (uxG3 rfl (uxG3 rfl (uxG3 rfl (uxG3 rfl (uxG3 rfl (uxG3 rfl (uxG3 rfl (uxG3 rfl (uxG3 rfl (uxG3 rfl (uxG3 rfl (uxG3 rfl hI.2.2.2.2.2.2.2.2.2.2.2.2.2.2.2.2.2.1)))))))))))))
    have k_xG4 : xG4 W := by
      rw [hW]
      exact (uxG4 rfl (uxG4 rfl (uxG4 rfl (uxG4 rfl (uxG4 rfl (uxG4 rfl (uxG4 rfl (uxG4 rfl (uxG4 rfl (uxG4 rfl (uxG4 rfl (uxG4 rfl (uxG4 rfl hI.2.2.2.2.2.2.2.2.2.2.2.2.2.2.2.2.2.2.1)))))))))))))
    have k_xG5 : xG5 W := by
      rw [hW]
      exact (uxG5 rfl (uxG5 rfl (uxG5 rfl (uxG5 rfl (uxG5 rfl (uxG5 rfl (uxG5 rfl (uxG5 rfl (uxG5 rfl (uxG5 rfl (uxG5 rfl (uxG5 rfl (uxG5 rfl hI.2.2.2.2.2.2.2.2.2.2.2.2.2.2.2.2.2.2.2.1)))))))))))))
    have k_xG6 : xG6 W := by
      rw [hW]
      exact (uxG6 rfl (uxG6 rfl (uxG6 rfl (uxG6 rfl (uxG6 rfl (uxG6 rfl (uxG6 rfl (uxG6 rfl (uxG6 rfl (uxG6 rfl (uxG6 rfl (uxG6 rfl (uxG6 rfl hI.2.2.2.2.2.2.2.2.2.2.2.2.2.2.2.2.2.2.2.2.1)))))))))))))
    have k_xS1 : xS1 W := by
      rw [hW]
      exact (uxS1 rfl (uxS1 rfl (uxS1 rfl (uxS1 rfl (uxS1 rfl (uxS1 rfl (uxS1 rfl (uxS1 rfl (uxS1 rfl (uxS1 rfl (uxS1 rfl (uxS1 rfl (uxS1 rfl hI.2.2.2.2.2.2.2.2.2.2.2.2.2.2.2.2.2.2.2.2.2.1)))))))))))))
    have k_xS2 : xS2 W := by
      rw [hW]
      exact (uxS2 rfl (uxS2 rfl (uxS2 rfl (uxS2 rfl (uxS2 rfl (uxS2 rfl (uxS2 rfl (uxS2 rfl (uxS2 rfl (uxS2 rfl (uxS2 rfl (uxS2 rfl (uxS2 rfl hI.2.2.2.2.2.2.2.2.2.2.2.2.2.2.2.2.2.2.2.2.2.2.1)))))))))))))
    have k_xS3 : xS3 W := by
      rw [hW]
      exact (uxS3 rfl (uxS3 rfl (uxS3 rfl (uxS3 rfl (uxS3 rfl (uxS3 rfl (uxS3 rfl (uxS3 rfl (uxS3 rfl (uxS3 rfl (uxS3 rfl (uxS3 rfl (uxS3 rfl hI.2.2.2.2.2.2.2.2.2.2.2.2.2.2.2.2.2.2.2.2.2.2.2.1)))))))))))))
    have k_xS4 : xS4 W := by
      rw [hW]
      exact (uxS4 rfl (uxS4 rfl (uxS4 rfl (uxS4 rfl (uxS4 rfl (uxS4 rfl (uxS4 rfl (uxS4 rfl (uxS4 rfl (uxS4 rfl (uxS4 rfl (uxS4 rfl (uxS4 rfl hI.2.2.2.2.2.2.2.2.2.2.2.2.2.2.2.2.2.2.2.2.2.2.2.2.1)))))))))))))
    have k_xS5 : xS5 W := by
      rw [hW]
      exact (uxS5 rfl (uxS5 rfl (uxS5 rfl (uxS5 rfl (uxS5 rfl (uxS5 rfl (uxS5 rfl (uxS5 rfl (uxS5 rfl (uxS5 rfl (uxS5 rfl (uxS5 rfl (uxS5 rfl hI.2.2.2.2.2.2.2.2.2.2.2.2.2.2.2.2.2.2.2.2.2.2.2.2.2.1)))))))))))))
    have k_xS6 : xS6 W := by
      rw [hW]
      exact (uxS6 rfl (uxS6 rfl (uxS6 rfl (uxS6 rfl (uxS6 rfl (uxS6 rfl (uxS6 rfl (uxS6 rfl (uxS6 rfl (uxS6 rfl (uxS6 rfl (uxS6 rfl (uxS6 rfl hI.2.2.2.2.2.2.2.2.2.2.2.2.2.2.2.2.2.2.2.2.2.2.2.2.2.2.1)))))))))))))
    have k_xS7 : xS7 W := by
      rw [hW]
      exact (uxS7 rfl (uxS7 rfl (uxS7 rfl (uxS7 rfl (uxS7 rfl (uxS7 rfl (uxS7 rfl (uxS7 rfl (uxS7 rfl (uxS7 rfl (uxS7 rfl (uxS7 rfl (uxS7 rfl hI.2.2.2.2.2.2.2.2.2.2.2.2.2.2.2.2.2.2.2.2.2.2.2.2.2.2.2.1)))))))))))))
    have k_xS8 : xS8 W := by
      rw [hW]
      exact (uxS8 rfl (uxS8 rfl (uxS8 rfl (uxS8 rfl (uxS8 rfl (uxS8 rfl (uxS8 rfl (uxS8 rfl (uxS8 rfl (uxS8 rfl (uxS8 rfl (uxS8 rfl (uxS8 rfl hI.2.2.2.2.2.2.2.2.2.2.2.2.2.2.2.2.2.2.2.2.2.2.2.2.2.2.2.2.1)))))))))))))
    have k_xS9 : xS9 W := by
      rw [hW]
      exact (uxS9 rfl (uxS9 rfl (uxS9 rfl (uxS9 rfl (uxS9 rfl (uxS9 rfl (uxS9 rfl (uxS9 rfl (uxS9 rfl (uxS9 rfl (uxS9 rfl (uxS9 rfl (uxS9 rfl hI.2.2.2.2.2.2.2.2.2.2.2.2.2.2.2.2.2.2.2.2.2.2.2.2.2.2.2.2.2.1)))))))))))))
    have k_xSA : xSA W := by
      rw [hW]
      exact (uxSA rfl (uxSA rfl (uxSA rfl (uxSA rfl (uxSA rfl (uxSA rfl (uxSA rfl (uxSA rfl (uxSA rfl (uxSA rfl (uxSA rfl (uxSA rfl (uxSA rfl hI.2.2.2.2.2.2.2.2.2.2.2.2.2.2.2.2.2.2.2.2.2.2.2.2.2.2.2.2.2.2.1)))))))))))))
    have k_xSG : xSG W := by
      rw [hW]
      exact (uxSG rfl (uxSG rfl (uxSG rfl (uxSG rfl (uxSG rfl (uxSG rfl (uxSG rfl (uxSG rfl (uxSG rfl (uxSG rfl (uxSG rfl (uxSG rfl (uxSG rfl hI.2.2.2.2.2.2.2.2.2.2.2.2.2.2.2.2.2.2.2.2.2.2.2.2.2.2.2.2.2.2.2.1)))))))))))))
    have k_xSF : xSF W := by
      rw [hW]
      exact (uxSF rfl (uxSF rfl (uxSF rfl (uxSF rfl (uxSF rfl (uxSF rfl (uxSF rfl (uxSF rfl (uxSF rfl (uxSF rfl (uxSF rfl (uxSF rfl (uxSF rfl hI.2.2.2.2.2.2.2.2.2.2.2.2.2.2.2.2.2.2.2.2.2.2.2.2.2.2.2.2.2.2.2.2.1)))))))))))))
    have k_xSB : xSB W := by
      rw [hW]
      exact (uxSB rfl (uxSB rfl (uxSB rfl (uxSB rfl (uxSB rfl (uxSB rfl (uxSB rfl (uxSB rfl (uxSB rfl (uxSB rfl (uxSB rfl (uxSB rfl (uxSB rfl hI.2.2.2.2.2.2.2.2.2.2.2.2.2.2.2.2.2.2.2.2.2.2.2.2.2.2.2.2.2.2.2.2.2.1)))))))))))))
    have k_xSC : xSC W := by
      rw [hW]
      exact (uxSC rfl (uxSC rfl (uxSC rfl (uxSC rfl (uxSC rfl (uxSC rfl (uxSC rfl (uxSC rfl (uxSC rfl (uxSC rfl (uxSC rfl (uxSC rfl (uxSC rfl hI.2.2.2.2.2.2.2.2.2.2.2.2.2.2.2.2.2.2.2.2.2.2.2.2.2.2.2.2.2.2.2.2.2.2.1)))))))))))))
    have k_xSD : xSD W := by
      rw [hW]
      exact (uxSD rfl (uxSD rfl (uxSD rfl (uxSD rfl (uxSD rfl (uxSD rfl (uxSD rfl (uxSD rfl (uxSD rfl (uxSD rfl (uxSD rfl (uxSD rfl (uxSD rfl hI.2.2.2.2.2.2.2.2.2.2.2.2.2.2.2.2.2.2.2.2.2.2.2.2.2.2.2.2.2.2.2.2.2.2.2.1)))))))))))))
    have k_xSE : xSE W := by
      rw [hW]
      exact (uxSE rfl (uxSE rfl (uxSE rfl (uxSE rfl (uxSE rfl (uxSE rfl (uxSE rfl (uxSE rfl (uxSE rfl (uxSE rfl (uxSE rfl (uxSE rfl (uxSE rfl hI.2.2.2.2.2.2.2.2.2.2.2.2.2.2.2.2.2.2.2.2.2.2.2.2.2.2.2.2.2.2.2.2.2.2.2.2.1)))))))))))))
    have k_xSW : xSW W := by
      rw [hW]
      exact (uxSW rfl (uxSW rfl (uxSW rfl (uxSW rfl (uxSW rfl (uxSW rfl (uxSW rfl (uxSW rfl (uxSW rfl (uxSW rfl (uxSW rfl (uxSW rfl (uxSW rfl hI.2.2.2.2.2.2.2.2.2.2.2.2.2.2.2.2.2.2.2.2.2.2.2.2.2.2.2.2.2.2.2.2.2.2.2.2.2.1)))))))))))))
    have k_xST : xST W := by
      rw [hW]
      exact (uxST rfl (uxST rfl (uxST rfl (uxST rfl (uxST rfl (uxST rfl (uxST rfl (uxST rfl (uxST rfl (uxST rfl (uxST rfl (uxST rfl (uxST rfl hI.2.2.2.2.2.2.2.2.2.2.2.2.2.2.2.2.2.2.2.2.2.2.2.2.2.2.2.2.2.2.2.2.2.2.2.2.2.2.1)))))))))))))
    have k_xSP : xSP W := by
      rw [hW]
      exact (uxSP rfl (uxSP rfl (uxSP rfl (uxSP rfl (uxSP rfl (uxSP rfl (uxSP rfl (uxSP rfl (uxSP rfl (uxSP rfl (uxSP rfl (uxSP rfl (uxSP rfl hI.2.2.2.2.2.2.2.2.2.2.2.2.2.2.2.2.2.2.2.2.2.2.2.2.2.2.2.2.2.2.2.2.2.2.2.2.2.2.2.1)))))))))))))
    have k_xSL : xSL W := by
      rw [hW]
      exact (uxSL rfl (uxSL rfl (uxSL rfl (uxSL rfl (uxSL rfl (uxSL rfl (uxSL rfl (uxSL rfl (uxSL rfl (uxSL rfl (uxSL rfl (uxSL rfl (uxSL rfl hI.2.2.2.2.2.2.2.2.2.2.2.2.2.2.2.2.2.2.2.2.2.2.2.2.2.2.2.2.2.2.2.2.2.2.2.2.2.2.2.2.1)))))))))))))
    have k_xSM : xSM W := by
      rw [hW]
      exact (uxSM rfl (uxSM rfl (uxSM rfl (uxSM rfl (uxSM rfl (uxSM rfl (uxSM rfl (uxSM rfl (uxSM rfl (uxSM rfl (uxSM rfl (uxSM rfl (uxSM rfl hI.2.2.2.2.2.2.2.2.2.2.2.2.2.2.2.2.2.2.2.2.2.2.2.2.2.2.2.2.2.2.2.2.2.2.2.2.2.2.2.2.2.1)))))))))))))
    have k_xSI : xSI W := by
      rw [hW]
      exact (uxSI rfl (uxSI rfl (uxSI rfl (uxSI rfl (uxSI rfl (uxSI rfl (uxSI rfl (uxSI rfl (uxSI rfl (uxSI rfl (uxSI rfl (uxSI rfl (uxSI rfl hI.2.2.2.2.2.2.2.2.2.2.2.2.2.2.2.2.2.2.2.2.2.2.2.2.2.2.2.2.2.2.2.2.2.2.2.2.2.2.2.2.2.2.1)))))))))))))
    have k_xD3 : xD3 W := by
      rw [hW]
      exact (uxD3 rfl (uxD3 rfl (uxD3 rfl (uxD3 rfl (uxD3 rfl (uxD3 rfl (uxD3 rfl (uxD3 rfl (uxD3 rfl (uxD3 rfl (uxD3 rfl (uxD3 rfl (uxD3 rfl hI.2.2.2.2.2.2.2.2.2.2.2.2.2.2.2.2.2.2.2.2.2.2.2.2.2.2.2.2.2.2.2.2.2.2.2.2.2.2.2.2.2.2.2.1)))))))))))))
    have k_xDV : xDV W := by
      rw [hW]
      exact (uxDV rfl (uxDV rfl (uxDV rfl (uxDV rfl (uxDV rfl (uxDV rfl (uxDV rfl (uxDV rfl (uxDV rfl (uxDV rfl (uxDV rfl (uxDV rfl (uxDV rfl hI.2.2.2.2.2.2.2.2.2.2.2.2.2.2.2.2.2.2.2.2.2.2.2.2.2.2.2.2.2.2.2.2.2.2.2.2.2.2.2.2.2.2.2.2.1)))))))))))))
    have k_xDP : xDP W := by
      rw [hW]
      exact (uxDP rfl (uxDP rfl (uxDP rfl (uxDP rfl (uxDP rfl (uxDP rfl (uxDP rfl (uxDP rfl (uxDP rfl (uxDP rfl (uxDP rfl (uxDP rfl (uxDP rfl hI.2.2.2.2.2.2.2.2.2.2.2.2.2.2.2.2.2.2.2.2.2.2.2.2.2.2.2.2.2.2.2.2.2.2.2.2.2.2.2.2.2.2.2.2.2.1)))))))))))))
    have k_xDE : xDE W := by
      rw [hW]
      exact (uxDE rfl (uxDE rfl (uxDE rfl (uxDE rfl (uxDE rfl (uxDE rfl (uxDE rfl (uxDE rfl (uxDE rfl (uxDE rfl (uxDE rfl (uxDE rfl (uxDE rfl hI.2.2.2.2.2.2.2.2.2.2.2.2.2.2.2.2.2.2.2.2.2.2.2.2.2.2.2.2.2.2.2.2.2.2.2.2.2.2.2.2.2.2.2.2.2.2.1)))))))))))))
    have k_xQ5 : xQ5 W := by
      have r : W 4 350 = 30 := by rw [hW, sU_ne (fun z => by omega), sU_ne (fun z => by omega), sU_ne (fun z => by omega), sU_ne (fun z => by omega), sU_ne (fun z => by omega), sU_ne (fun z => by omega), sU_ne (fun z => by omega), sU_ne (fun z => by omega), sU_ne (fun z => by omega), sU_ne (fun z => by omega), sU_ne (fun z => by omega), sU_ne (fun z => by omega), sU_at]; rw [h0]; rfl
      intro h
      rw [r] at h
      omega
    have k_xQL : xQL W := by
      have r4_350 : W 4 350 = 30 * ρ 0 + 0 := by rw [hW, sU_ne (fun z => by omega), sU_ne (fun z => by omega), sU_ne (fun z => by omega), sU_ne (fun z => by omega), sU_ne (fun z => by omega), sU_ne (fun z => by omega), sU_ne (fun z => by omega), sU_ne (fun z => by omega), sU_ne (fun z => by omega), sU_ne (fun z => by omega), sU_ne (fun z => by omega), sU_ne (fun z => by omega), sU_at]
      have r4_360 : W 4 360 = 0 := by rw [hW, sU_ne (fun z => by omega), sU_ne (fun z => by omega), sU_ne (fun z => by omega), sU_ne (fun z => by omega), sU_ne (fun z => by omega), sU_ne (fun z => by omega), sU_ne (fun z => by omega), sU_ne (fun z => by omega), sU_ne (fun z => by omega), sU_ne (fun z => by omega), sU_ne (fun z => by omega), sU_at]
      have r4_361 : W 4 361 = -1 * ρ 0 + 0 := by rw [hW, sU_ne (fun z => by omega), sU_ne (fun z => by omega), sU_ne (fun z => by omega), sU_ne (fun z => by omega), sU_ne (fun z => by omega), sU_ne (fun z => by omega), sU_ne (fun z => by omega), sU_ne (fun z => by omega), sU_ne (fun z => by omega), sU_ne (fun z => by omega), sU_at]
      have r4_362 : W 4 362 = 0 := by rw [hW, sU_ne (fun z => by omega), sU_ne (fun z => by omega), sU_ne (fun z => by omega), sU_ne (fun z => by omega), sU_ne (fun z => by omega), sU_ne (fun z => by omega), sU_ne (fun z => by omega), sU_ne (fun z => by omega), sU_ne (fun z => by omega), sU_at]
      have r4_363 : W 4 363 = 0 := by rw [hW, sU_ne (fun z => by omega), sU_ne (fun z => by omega), sU_ne (fun z => by omega), sU_ne (fun z => by omega), sU_ne (fun z => by omega), sU_ne (fun z => by omega), sU_ne (fun z => by omega), sU_ne (fun z => by omega), sU_at]
      have r4_364 : W 4 364 = 0 := by rw [hW, sU_ne (fun z => by omega), sU_ne (fun z => by omega), sU_ne (fun z => by omega), sU_ne (fun z => by omega), sU_ne (fun z => by omega), sU_ne (fun z => by omega), sU_ne (fun z => by omega), sU_at]
      have r4_365 : W 4 365 = 1 * ρ 2 + 0 := by rw [hW, sU_ne (fun z => by omega), sU_ne (fun z => by omega), sU_ne (fun z => by omega), sU_ne (fun z => by omega), sU_ne (fun z => by omega), sU_ne (fun z => by omega), sU_at]
      have r4_366 : W 4 366 = 0 := by rw [hW, sU_ne (fun z => by omega), sU_ne (fun z => by omega), sU_ne (fun z => by omega), sU_ne (fun z => by omega), sU_ne (fun z => by omega), sU_at]
      have r4_367 : W 4 367 = 0 := by rw [hW, sU_ne (fun z => by omega), sU_ne (fun z => by omega), sU_ne (fun z => by omega), sU_ne (fun z => by omega), sU_at]
      have r4_369 : W 4 369 = 1 * ((dB3 M (0) (M 93 0).toNat).2.2) + 0 := by rw [hW, sU_ne (fun z => by omega), sU_ne (fun z => by omega), sU_ne (fun z => by omega), sU_at]
      have r4_370 : W 4 370 = -1 * ρ 0 + 0 := by rw [hW, sU_ne (fun z => by omega), sU_ne (fun z => by omega), sU_at]
      have r4_371 : W 4 371 = 0 := by rw [hW, sU_ne (fun z => by omega), sU_at]
      have r4_372 : W 4 372 = 1 * ρ 1 + 0 := by rw [hW, sU_at]
      have r93_0 : W 93 0 = M 93 0 := by rw [hW, sU_ne (fun z => by omega), sU_ne (fun z => by omega), sU_ne (fun z => by omega), sU_ne (fun z => by omega), sU_ne (fun z => by omega), sU_ne (fun z => by omega), sU_ne (fun z => by omega), sU_ne (fun z => by omega), sU_ne (fun z => by omega), sU_ne (fun z => by omega), sU_ne (fun z => by omega), sU_ne (fun z => by omega), sU_ne (fun z => by omega)]
      have c95 : ∀ k, W 95 k = M 95 k := fun k => by rw [hW, sU_ne (fun z => by omega), sU_ne (fun z => by omega), sU_ne (fun z => by omega), sU_ne (fun z => by omega), sU_ne (fun z => by omega), sU_ne (fun z => by omega), sU_ne (fun z => by omega), sU_ne (fun z => by omega), sU_ne (fun z => by omega), sU_ne (fun z => by omega), sU_ne (fun z => by omega), sU_ne (fun z => by omega), sU_ne (fun z => by omega)]
      have e95 : W 95 = M 95 := funext c95
      have c97 : ∀ k, W 97 k = M 97 k := fun k => by rw [hW, sU_ne (fun z => by omega), sU_ne (fun z => by omega), sU_ne (fun z => by omega), sU_ne (fun z => by omega), sU_ne (fun z => by omega), sU_ne (fun z => by omega), sU_ne (fun z => by omega), sU_ne (fun z => by omega), sU_ne (fun z => by omega), sU_ne (fun z => by omega), sU_ne (fun z => by omega), sU_ne (fun z => by omega), sU_ne (fun z => by omega)]
      have e97 : W 97 = M 97 := funext c97
      intro _
       rw [r4_360, r4_361, r4_362, r4_363, r4_364, r4_365, r4_366, r4_367, r4_369, r4_370, r4_371, r4_372, db3_c e95 e97, db3_c e95 e97, dws_c r93_0 e95 e97, dws_c r93_0 e95 e97, r93_0, c95]
      (try rw [h0])

      refine ⟨rfl, Int.le_refl _, by omega, Int.le_refl _, rfl, Int.le_refl _, rfl, ?_⟩
      rw [show (1 * ρ 1 + 0 : Int) = ρ 1 by omega]
      omega
    have k_xQW : xQW W := by
      have r : W 4 350 = 30 := by rw [hW, sU_ne (fun z => by omega), sU_ne (fun z => by omega), sU_ne (fun z => by omega), sU_ne (fun z => by omega), sU_ne (fun z => by omega), sU_ne (fun z => by omega), sU_ne (fun z => by omega), sU_ne (fun z => by omega), sU_ne (fun z => by omega), sU_ne (fun z => by omega), sU_ne (fun z => by omega), sU_ne (fun z => by omega), sU_at]; rw [h0]; rfl
      intro h
      rw [r] at h
      omega
    have k_xQM : xQM W := by
      rw [hW]
      exact (uxQM rfl (uxQM rfl (uxQM rfl (uxQM rfl (uxQM rfl (uxQM rfl (uxQM rfl (uxQM rfl (uxQM rfl (uxQM rfl (uxQM rfl (uxQM rfl (uxQM rfl hI.2.2.2.2.2.2.2.2.2.2.2.2.2.2.2.2.2.2.2.2.2.2.2.2.2.2.2.2.2.2.2.2.2.2.2.2.2.2.2.2.2.2.2.2.2.2.2.2.2.2.1)))))))))))))
    have k_xQH : xQH W := by
      have r : W 4 350 = 30 := by rw [hW, sU_ne (fun z => by omega), sU_ne (fun z => by omega), sU_ne (fun z => by omega), sU_ne (fun z => by omega), sU_ne (fun z => by omega), sU_ne (fun z => by omega), sU_ne (fun z => by omega), sU_ne (fun z => by omega), sU_ne (fun z => by omega), sU_ne (fun z => by omega), sU_ne (fun z => by omega), sU_ne (fun z => by omega), sU_at]; rw [h0]; rfl
      intro h
      rw [r] at h
      omega
    have k_XC : XC W := ⟨k_xS1, k_xS2, k_xS3, k_xS4, k_xS5, k_xS6, k_xS7, k_xS8, k_xS9, k_xSA, k_xSG, k_xSF, k_xSB, k_xSC, k_xSD, k_xSE, k_xSW, k_xST, k_xSP, k_xSL, k_xSM, k_xSI, k_xD3, k_xDV, k_xDP, k_xDE, k_xQ5, k_xQL, k_xQW, k_xQM, k_xQH⟩
    have kXB : XB W := ⟨k_xN1, k_xN2, k_xN3, k_xN4, k_xN5, k_xN6, k_xH1, k_xK1, k_xC1, k_xRW, k_xWT, k_xCU, k_xG2, k_xG3, k_xG4, k_xG5, k_xG6, k_XC⟩
    exact ⟨base, k2, k3, kXA, kXB⟩
-- lWin
def xr_646 : qRu := (2, [], [(4, 350, [(30, 0)])], [], [(4, 360, [(1, 1)]), (4, 361, [(-1, 0)]), (4, 362, []), (4, 369, [(1, 2)]), (4, 370, [(-1, 0)]), (4, 371, [])], [])
theorem xo_646 : qRok xr_646 := by
  intro ρ M h0 hf hm hI
  have m0 : M 4 350 = 30 * ρ 0 + 0 := hm (4, 350, [(30, 0)]) (by decide)
  simp only [h0] at m0
  have qxQL := hI.2.2.2.2.2.2.2.2.2.2.2.2.2.2.2.2.2.2.2.2.2.2.2.2.2.2.2.2.2.2.2.2.2.2.2.2.2.2.2.2.2.2.2.2.2.2.2.2.1
  refine ⟨fun a => cond (Nat.blt a 2) (ρ a) (([(dB3 M (1 * ρ 1 + 0) (M 93 0).toNat).2.2] : List Int).getD (a - 2) 0), fun a ha => ?_, fun f h => ?_, ?_⟩
  · show cond (Nat.blt a 2) (ρ a) _ = ρ a
    rw [show Nat.blt a 2 = true from Nat.ble_eq_true_of_le ha]; rfl
  · exact nomatch h
  · show sI (sU (sU (sU (sU (sU (sU M 4 360 (1 * ρ 1 + 0)) 4 361 (-1 * ρ 0 + 0)) 4 362 (0)) 4 369 (1 * ((dB3 M (1 * ρ 1 + 0) (M 93 0).toNat).2.2) + 0)) 4 370 (-1 * ρ 0 + 0)) 4 371 (0))
    obtain ⟨W, hW⟩ : ∃ W, W = (sU (sU (sU (sU (sU (sU M 4 360 (1 * ρ 1 + 0)) 4 361 (-1 * ρ 0 + 0)) 4 362 (0)) 4 369 (1 * ((dB3 M (1 * ρ 1 + 0) (M 93 0).toNat).2.2) + 0)) 4 370 (-1 * ρ 0 + 0)) 4 371 (0)) := ⟨_, rfl⟩
    rw [← hW]
    have base : sI0 W := by
      rw [hW]
      exact (si_u0 (si_u0 (si_u0 (si_u0 (si_u0 (si_u0 hI.1 (fun r hr => by cases hr)) (fun r hr => by cases hr)) (fun r hr => by cases hr)) (fun r hr => by cases hr)) (fun r hr => by cases hr)) (fun r hr => by cases hr))
    have k2 : XI2 W := by
      rw [hW]
      exact (xi2_u rfl (xi2_u rfl (xi2_u rfl (xi2_u rfl (xi2_u rfl (xi2_u rfl hI.2.1))))))
    have k3 : XI3 W := by
      rw [hW]
      exact (xi3_u rfl (xi3_u rfl (xi3_u rfl (xi3_u rfl (xi3_u rfl (xi3_u rfl hI.2.2.1))))))
    have kXA : XA W := by
      rw [hW]
      exact (uXA rfl (uXA rfl (uXA rfl (uXA rfl (uXA rfl (uXA rfl hI.2.2.2.1))))))
    have k_xN1 : xN1 W := by
      rw [hW]
      exact (uxN1 rfl (uxN1 rfl (uxN1 rfl (uxN1 rfl (uxN1 rfl (uxN1 rfl hI.2.2.2.2.1))))))
    have k_xN2 : xN2 W := by
      rw [hW]
      exact (uxN2 rfl (uxN2 rfl (uxN2 rfl (uxN2 rfl (uxN2 rfl (uxN2 rfl hI.2.2.2.2.2.1))))))
    have k_xN3 : xN3 W := by
      rw [hW]
      exact (uxN3 rfl (uxN3 rfl (uxN3 rfl (uxN3 rfl (uxN3 rfl (uxN3 rfl hI.2.2.2.2.2.2.1))))))
    have k_xN4 : xN4 W := by
      rw [hW]
      exact (uxN4 rfl (uxN4 rfl (uxN4 rfl (uxN4 rfl (uxN4 rfl (uxN4 rfl hI.2.2.2.2.2.2.2.1))))))
    have k_xN5 : xN5 W := by
      rw [hW]
      exact (uxN5 rfl (uxN5 rfl (uxN5 rfl (uxN5 rfl (uxN5 rfl (uxN5 rfl hI.2.2.2.2.2.2.2.2.1))))))
    have k_xN6 : xN6 W := by
      rw [hW]
      exact (uxN6 rfl (uxN6 rfl (uxN6 rfl (uxN6 rfl (uxN6 rfl (uxN6 rfl hI.2.2.2.2.2.2.2.2.2.1))))))
    have k_xH1 : xH1 W := by
      rw [hW]
      exact (uxH1 rfl (uxH1 rfl (uxH1 rfl (uxH1 rfl (uxH1 rfl (uxH1 rfl hI.2.2.2.2.2.2.2.2.2.2.1))))))
    have k_xK1 : xK1 W := by
      rw [hW]
      exact (uxK1 rfl (uxK1 rfl (uxK1 rfl (uxK1 rfl (uxK1 rfl (uxK1 rfl hI.2.2.2.2.2.2.2.2.2.2.2.1))))))
    have k_xC1 : xC1 W := by
      rw [hW]
      exact (uxC1 rfl (uxC1 rfl (uxC1 rfl (uxC1 rfl (uxC1 rfl (uxC1 rfl hI.2.2.2.2.2.2.2.2.2.2.2.2.1))))))
    have k_xRW : xRW W := by
      rw [hW]
      exact (uxRW rfl (uxRW rfl (uxRW rfl (uxRW rfl (uxRW rfl (uxRW rfl hI.2.2.2.2.2.2.2.2.2.2.2.2.2.1))))))
    have k_xWT : xWT W := by
      rw [hW]
      exact (uxWT rfl (uxWT rfl (uxWT rfl (uxWT rfl (uxWT rfl (uxWT rfl hI.2.2.2.2.2.2.2.2.2.2.2.2.2.2.1))))))
    have k_xCU : xCU W := by
      rw [hW]
      exact (uxCU rfl (uxCU rfl (uxCU rfl (uxCU rfl (uxCU rfl (uxCU rfl hI.2.2.2.2.2.2.2.2.2.2.2.2.2.2.2.1))))))
    have k_xG2 : xG2 W := by
      rw [hW]
      exact (uxG2 rfl (uxG2 rfl (uxG2 rfl (uxG2 rfl (uxG2 rfl (uxG2 rfl hI.2.2.2.2.2.2.2.2.2.2.2.2.2.2.2.2.1))))))
    have k_xG3 : xG3 W := by
      rw [hW]
      exact (uxG3 rfl (uxG3 rfl (uxG3 rfl (uxG3 rfl (uxG3 rfl (uxG3 rfl hI.2.2.2.2.2.2.2.2.2.2.2.2.2.2.2.2.2.1))))))
    have k_xG4 : xG4 W := by
      rw [hW]
      exact (uxG4 rfl (uxG4 rfl (uxG4 rfl (uxG4 rfl (uxG4 rfl (uxG4 rfl hI.2.2.2.2.2.2.2.2.2.2.2.2.2.2.2.2.2.2.1))))))
    have k_xG5 : xG5 W := by
      rw [hW]
      exact (uxG5 rfl (uxG5 rfl (uxG5 rfl (uxG5 rfl (uxG5 rfl (uxG5 rfl hI.2.2.2.2.2.2.2.2.2.2.2.2.2.2.2.2.2.2.2.1))))))
    have k_xG6 : xG6 W := by
      rw [hW]
      exact (uxG6 rfl (uxG6 rfl (uxG6 rfl (uxG6 rfl (uxG6 rfl (uxG6 rfl hI.2.2.2.2.2.2.2.2.2.2.2.2.2.2.2.2.2.2.2.2.1))))))
    have k_xS1 : xS1 W := by
      rw [hW]
      exact (uxS1 rfl (uxS1 rfl (uxS1 rfl (uxS1 rfl (uxS1 rfl (uxS1 rfl hI.2.2.2.2.2.2.2.2.2.2.2.2.2.2.2.2.2.2.2.2.2.1))))))
    have k_xS2 : xS2 W := by
      rw [hW]
      exact (uxS2 rfl (uxS2 rfl (uxS2 rfl (uxS2 rfl (uxS2 rfl (uxS2 rfl hI.2.2.2.2.2.2.2.2.2.2.2.2.2.2.2.2.2.2.2.2.2.2.1))))))
    have k_xS3 : xS3 W := by
      rw [hW]
      exact (uxS3 rfl (uxS3 rfl (uxS3 rfl (uxS3 rfl (uxS3 rfl (uxS3 rfl hI.2.2.2.2.2.2.2.2.2.2.2.2.2.2.2.2.2.2.2.2.2.2.2.1))))))
    have k_xS4 : xS4 W := by
      rw [hW]
      exact (uxS4 rfl (uxS4 rfl (uxS4 rfl (uxS4 rfl (uxS4 rfl (uxS4 rfl hI.2.2.2.2.2.2.2.2.2.2.2.2.2.2.2.2.2.2.2.2.2.2.2.2.1))))))
    have k_xS5 : xS5 W := by
      rw [hW]
      exact (uxS5 rfl (uxS5 rfl (uxS5 rfl (uxS5 rfl (uxS5 rfl (uxS5 rfl hI.2.2.2.2.2.2.2.2.2.2.2.2.2.2.2.2.2.2.2.2.2.2.2.2.2.1))))))
    have k_xS6 : xS6 W := by
      rw [hW]
      exact (uxS6 rfl (uxS6 rfl (uxS6 rfl (uxS6 rfl (uxS6 rfl (uxS6 rfl hI.2.2.2.2.2.2.2.2.2.2.2.2.2.2.2.2.2.2.2.2.2.2.2.2.2.2.1))))))
    have k_xS7 : xS7 W := by
      rw [hW]
      exact (uxS7 rfl (uxS7 rfl (uxS7 rfl (uxS7 rfl (uxS7 rfl (uxS7 rfl hI.2.2.2.2.2.2.2.2.2.2.2.2.2.2.2.2.2.2.2.2.2.2.2.2.2.2.2.1))))))
    have k_xS8 : xS8 W := by
      rw [hW]
      exact (uxS8 rfl (uxS8 rfl (uxS8 rfl (uxS8 rfl (uxS8 rfl (uxS8 rfl hI.2.2.2.2.2.2.2.2.2.2.2.2.2.2.2.2.2.2.2.2.2.2.2.2.2.2.2.2.1))))))
    have k_xS9 : xS9 W := by
      rw [hW]
      exact (uxS9 rfl (uxS9 rfl (uxS9 rfl (uxS9 rfl (uxS9 rfl (uxS9 rfl hI.2.2.2.2.2.2.2.2.2.2.2.2.2.2.2.2.2.2.2.2.2.2.2.2.2.2.2.2.2.1))))))
    have k_xSA : xSA W := by
      rw [hW]
      exact (uxSA rfl (uxSA rfl (uxSA rfl (uxSA rfl (uxSA rfl (uxSA rfl hI.2.2.2.2.2.2.2.2.2.2.2.2.2.2.2.2.2.2.2.2.2.2.2.2.2.2.2.2.2.2.1))))))
    have k_xSG : xSG W := by
      rw [hW]
      exact (uxSG rfl (uxSG rfl (uxSG rfl (uxSG rfl (uxSG rfl (uxSG rfl hI.2.2.2.2.2.2.2.2.2.2.2.2.2.2.2.2.2.2.2.2.2.2.2.2.2.2.2.2.2.2.2.1))))))
    have k_xSF : xSF W := by
      rw [hW]
      exact (uxSF rfl (uxSF rfl (uxSF rfl (uxSF rfl (uxSF rfl (uxSF rfl hI.2.2.2.2.2.2.2.2.2.2.2.2.2.2.2.2.2.2.2.2.2.2.2.2.2.2.2.2.2.2.2.2.1))))))
    have k_xSB : xSB W := by
      rw [hW]
      exact (uxSB rfl (uxSB rfl (uxSB rfl (uxSB rfl (uxSB rfl (uxSB rfl hI.2.2.2.2.2.2.2.2.2.2.2.2.2.2.2.2.2.2.2.2.2.2.2.2.2.2.2.2.2.2.2.2.2.1))))))
    have k_xSC : xSC W := by
      rw [hW]
      exact (uxSC rfl (uxSC rfl (uxSC rfl (uxSC rfl (uxSC rfl (uxSC rfl hI.2.2.2.2.2.2.2.2.2.2.2.2.2.2.2.2.2.2.2.2.2.2.2.2.2.2.2.2.2.2.2.2.2.2.1))))))
    have k_xSD : xSD W := by
      rw [hW]
      exact (uxSD rfl (uxSD rfl (uxSD rfl (uxSD rfl (uxSD rfl (uxSD rfl hI.2.2.2.2.2.2.2.2.2.2.2.2.2.2.2.2.2.2.2.2.2.2.2.2.2.2.2.2.2.2.2.2.2.2.2.1))))))
    have k_xSE : xSE W := by
      rw [hW]
      exact (uxSE rfl (uxSE rfl (uxSE rfl (uxSE rfl (uxSE rfl (uxSE rfl hI.2.2.2.2.2.2.2.2.2.2.2.2.2.2.2.2.2.2.2.2.2.2.2.2.2.2.2.2.2.2.2.2.2.2.2.2.1))))))
    have k_xSW : xSW W := by
      rw [hW]
      exact (uxSW rfl (uxSW rfl (uxSW rfl (uxSW rfl (uxSW rfl (uxSW rfl hI.2.2.2.2.2.2.2.2.2.2.2.2.2.2.2.2.2.2.2.2.2.2.2.2.2.2.2.2.2.2.2.2.2.2.2.2.2.1))))))
    have k_xST : xST W := by
      rw [hW]
      exact (uxST rfl (uxST rfl (uxST rfl (uxST rfl (uxST rfl (uxST rfl hI.2.2.2.2.2.2.2.2.2.2.2.2.2.2.2.2.2.2.2.2.2.2.2.2.2.2.2.2.2.2.2.2.2.2.2.2.2.2.1))))))
    have k_xSP : xSP W := by
      rw [hW]
      exact (uxSP rfl (uxSP rfl (uxSP rfl (uxSP rfl (uxSP rfl (uxSP rfl hI.2.2.2.2.2.2.2.2.2.2.2.2.2.2.2.2.2.2.2.2.2.2.2.2.2.2.2.2.2.2.2.2.2.2.2.2.2.2.2.1))))))
    have k_xSL : xSL W := by
      rw [hW]
      exact (uxSL rfl (uxSL rfl (uxSL rfl (uxSL rfl (uxSL rfl (uxSL rfl hI.2.2.2.2.2.2.2.2.2.2.2.2.2.2.2.2.2.2.2.2.2.2.2.2.2.2.2.2.2.2.2.2.2.2.2.2.2.2.2.2.1))))))
    have k_xSM : xSM W := by
      rw [hW]
      exact (uxSM rfl (uxSM rfl (uxSM rfl (uxSM rfl (uxSM rfl (uxSM rfl hI.2.2.2.2.2.2.2.2.2.2.2.2.2.2.2.2.2.2.2.2.2.2.2.2.2.2.2.2.2.2.2.2.2.2.2.2.2.2.2.2.2.1))))))
    have k_xSI : xSI W := by
      rw [hW]
      exact (uxSI rfl (uxSI rfl (uxSI rfl (uxSI rfl (uxSI rfl (uxSI rfl hI.2.2.2.2.2.2.2.2.2.2.2.2.2.2.2.2.2.2.2.2.2.2.2.2.2.2.2.2.2.2.2.2.2.2.2.2.2.2.2.2.2.2.1))))))
    have k_xD3 : xD3 W := by
      rw [hW]
      exact (uxD3 rfl (uxD3 rfl (uxD3 rfl (uxD3 rfl (uxD3 rfl (uxD3 rfl hI.2.2.2.2.2.2.2.2.2.2.2.2.2.2.2.2.2.2.2.2.2.2.2.2.2.2.2.2.2.2.2.2.2.2.2.2.2.2.2.2.2.2.2.1))))))
    have k_xDV : xDV W := by
      rw [hW]
      exact (uxDV rfl (uxDV rfl (uxDV rfl (uxDV rfl (uxDV rfl (uxDV rfl hI.2.2.2.2.2.2.2.2.2.2.2.2.2.2.2.2.2.2.2.2.2.2.2.2.2.2.2.2.2.2.2.2.2.2.2.2.2.2.2.2.2.2.2.2.1))))))
    have k_xDP : xDP W := by
      rw [hW]
      exact (uxDP rfl (uxDP rfl (uxDP rfl (uxDP rfl (uxDP rfl (uxDP rfl hI.2.2.2.2.2.2.2.2.2.2.2.2.2.2.2.2.2.2.2.2.2.2.2.2.2.2.2.2.2.2.2.2.2.2.2.2.2.2.2.2.2.2.2.2.2.1))))))
    have k_xDE : xDE W := by
      rw [hW]
      exact (uxDE rfl (uxDE rfl (uxDE rfl (uxDE rfl (uxDE rfl (uxDE rfl hI.2.2.2.2.2.2.2.2.2.2.2.2.2.2.2.2.2.2.2.2.2.2.2.2.2.2.2.2.2.2.2.2.2.2.2.2.2.2.2.2.2.2.2.2.2.2.1))))))
    have k_xQ5 : xQ5 W := by
      rw [hW]
      exact (uxQ5 rfl (uxQ5 rfl (uxQ5 rfl (uxQ5 rfl (uxQ5 rfl (uxQ5 rfl hI.2.2.2.2.2.2.2.2.2.2.2.2.2.2.2.2.2.2.2.2.2.2.2.2.2.2.2.2.2.2.2.2.2.2.2.2.2.2.2.2.2.2.2.2.2.2.2.1))))))
    have k_xQL : xQL W := by
      have r4_350 : W 4 350 = M 4 350 := by rw [hW, sU_ne (fun z => by omega), sU_ne (fun z => by omega), sU_ne (fun z => by omega), sU_ne (fun z => by omega), sU_ne (fun z => by omega), sU_ne (fun z => by omega)]
      have r4_360 : W 4 360 = 1 * ρ 1 + 0 := by rw [hW, sU_ne (fun z => by omega), sU_ne (fun z => by omega), sU_ne (fun z => by omega), sU_ne (fun z => by omega), sU_ne (fun z => by omega), sU_at]
      have r4_361 : W 4 361 = -1 * ρ 0 + 0 := by rw [hW, sU_ne (fun z => by omega), sU_ne (fun z => by omega), sU_ne (fun z => by omega), sU_ne (fun z => by omega), sU_at]
      have r4_362 : W 4 362 = 0 := by rw [hW, sU_ne (fun z => by omega), sU_ne (fun z => by omega), sU_ne (fun z => by omega), sU_at]
      have r4_363 : W 4 363 = M 4 363 := by rw [hW, sU_ne (fun z => by omega), sU_ne (fun z => by omega), sU_ne (fun z => by omega), sU_ne (fun z => by omega), sU_ne (fun z => by omega), sU_ne (fun z => by omega)]
      have r4_364 : W 4 364 = M 4 364 := by rw [hW, sU_ne (fun z => by omega), sU_ne (fun z => by omega), sU_ne (fun z => by omega), sU_ne (fun z => by omega), sU_ne (fun z => by omega), sU_ne (fun z => by omega)]
      have r4_365 : W 4 365 = M 4 365 := by rw [hW, sU_ne (fun z => by omega), sU_ne (fun z => by omega), sU_ne (fun z => by omega), sU_ne (fun z => by omega), sU_ne (fun z => by omega), sU_ne (fun z => by omega)]
      have r4_366 : W 4 366 = M 4 366 := by rw [hW, sU_ne (fun z => by omega), sU_ne (fun z => by omega), sU_ne (fun z => by omega), sU_ne (fun z => by omega), sU_ne (fun z => by omega), sU_ne (fun z => by omega)]
      have r4_367 : W 4 367 = M 4 367 := by rw [hW, sU_ne (fun z => by omega), sU_ne (fun z => by omega), sU_ne (fun z => by omega), sU_ne (fun z => by omega), sU_ne (fun z => by omega), sU_ne (fun z => by omega)]
      have r4_369 : W 4 369 = 1 * ((dB3 M (1 * ρ 1 + 0) (M 93 0).toNat).2.2) + 0 := by rw [hW, sU_ne (fun z => by omega), sU_ne (fun z => by omega), sU_at]
      have r4_370 : W 4 370 = -1 * ρ 0 + 0 := by rw [hW, sU_ne (fun z => by omega), sU_at]
      have r4_371 : W 4 371 = 0 := by rw [hW, sU_at]
      have r4_372 : W 4 372 = M 4 372 := by rw [hW, sU_ne (fun z => by omega), sU_ne (fun z => by omega), sU_ne (fun z => by omega), sU_ne (fun z => by omega), sU_ne (fun z => by omega), sU_ne (fun z => by omega)]
      have r93_0 : W 93 0 = M 93 0 := by rw [hW, sU_ne (fun z => by omega), sU_ne (fun z => by omega), sU_ne (fun z => by omega), sU_ne (fun z => by omega), sU_ne (fun z => by omega), sU_ne (fun z => by omega)]
      have c95 : ∀ k, W 95 k = M 95 k := fun k => by rw [hW, sU_ne (fun z => by omega), sU_ne (fun z => by omega), sU_ne (fun z => by omega), sU_ne (fun z => by omega), sU_ne (fun z => by omega), sU_ne (fun z => by omega)]
      have e95 : W 95 = M 95 := funext c95
      have c97 : ∀ k, W 97 k = M 97 k := fun k => by rw [hW, sU_ne (fun z => by omega), sU_ne (fun z => by omega), sU_ne (fun z => by omega), sU_ne (fun z => by omega), sU_ne (fun z => by omega), sU_ne (fun z => by omega)]
      have e97 : W 97 = M 97 := funext c97
      intro _
      obtain ⟨b1, b2, b3, b4, b5, b6, b7, b8⟩ := gx_xQL hI (by omega)
      rw [r4_360, r4_361, r4_362, r4_363, r4_364, r4_365, r4_366, r4_367, r4_369, r4_370, r4_371, r4_372, db3_c e95 e97, db3_c e95 e97, dws_c r93_0 e95 e97, dws_c r93_0 e95 e97, r93_0, c95]
      (try rw [h0])

      exact ⟨rfl, Int.le_refl _, by omega, b4, b5, b6, b7, b8⟩
    have k_xQW : xQW W := by
      rw [hW]
      exact (uxQW rfl (uxQW rfl (uxQW rfl (uxQW rfl (uxQW rfl (uxQW rfl hI.2.2.2.2.2.2.2.2.2.2.2.2.2.2.2.2.2.2.2.2.2.2.2.2.2.2.2.2.2.2.2.2.2.2.2.2.2.2.2.2.2.2.2.2.2.2.2.2.2.1))))))
    have k_xQM : xQM W := by
      rw [hW]
      exact (uxQM rfl (uxQM rfl (uxQM rfl (uxQM rfl (uxQM rfl (uxQM rfl hI.2.2.2.2.2.2.2.2.2.2.2.2.2.2.2.2.2.2.2.2.2.2.2.2.2.2.2.2.2.2.2.2.2.2.2.2.2.2.2.2.2.2.2.2.2.2.2.2.2.2.1))))))
    have k_xQH : xQH W := by
      rw [hW]
      exact (uxQH rfl (uxQH rfl (uxQH rfl (uxQH rfl (uxQH rfl (uxQH rfl hI.2.2.2.2.2.2.2.2.2.2.2.2.2.2.2.2.2.2.2.2.2.2.2.2.2.2.2.2.2.2.2.2.2.2.2.2.2.2.2.2.2.2.2.2.2.2.2.2.2.2.2))))))
    have k_XC : XC W := ⟨k_xS1, k_xS2, k_xS3, k_xS4, k_xS5, k_xS6, k_xS7, k_xS8, k_xS9, k_xSA, k_xSG, k_xSF, k_xSB, k_xSC, k_xSD, k_xSE, k_xSW, k_xST, k_xSP, k_xSL, k_xSM, k_xSI, k_xD3, k_xDV, k_xDP, k_xDE, k_xQ5, k_xQL, k_xQW, k_xQM, k_xQH⟩
    have kXB : XB W := ⟨k_xN1, k_xN2, k_xN3, k_xN4, k_xN5, k_xN6, k_xH1, k_xK1, k_xC1, k_xRW, k_xWT, k_xCU, k_xG2, k_xG3, k_xG4, k_xG5, k_xG6, k_XC⟩
    exact ⟨base, k2, k3, kXA, kXB⟩
-- lUp
def xr_647 : qRu := (6, [[(-1, 3), (1, 4)], [(1, 3), (-1, 4)], [(1, 1), (-1, 5)], [(-1, 0), (-1, 2), (1, 5)]], [(4, 350, [(30, 0)]), (4, 360, [(1, 1)]), (4, 370, [(1, 2)]), (4, 362, [(1, 3)]), (95, 1004, [(1, 5)])], [], [(4, 361, [(1, 3)]), (4, 370, [(1, 5)]), (4, 371, [(1, 6)]), (4, 362, [(1, 0), (1, 3)])], [])
theorem xo_647 : qRok xr_647 := by
  intro ρ M h0 hf hm hI
  have f0 := hf [(-1, 3), (1, 4)] (by decide)
  have f1 := hf [(1, 3), (-1, 4)] (by decide)
  have f2 := hf [(1, 1), (-1, 5)] (by decide)
  have f3 := hf [(-1, 0), (-1, 2), (1, 5)] (by decide)
  simp only [qD, h0] at f0 f1 f2 f3
  have m0 : M 4 350 = 30 * ρ 0 + 0 := hm (4, 350, [(30, 0)]) (by decide)
  have m1 : M 4 360 = 1 * ρ 1 + 0 := hm (4, 360, [(1, 1)]) (by decide)
  have m2 : M 4 370 = 1 * ρ 2 + 0 := hm (4, 370, [(1, 2)]) (by decide)
  have m3 : M 4 362 = 1 * ρ 3 + 0 := hm (4, 362, [(1, 3)]) (by decide)
  have m4 : M 95 (zIx ρ (1000 + 4)) = 1 * ρ 5 + 0 := hm (95, 1004, [(1, 5)]) (by decide)
  rw [zix_p] at m4
  simp only [h0] at m0
  have qxQL := hI.2.2.2.2.2.2.2.2.2.2.2.2.2.2.2.2.2.2.2.2.2.2.2.2.2.2.2.2.2.2.2.2.2.2.2.2.2.2.2.2.2.2.2.2.2.2.2.2.1
  refine ⟨fun a => cond (Nat.blt a 6) (ρ a) (([M 97 (M 4 362).toNat] : List Int).getD (a - 6) 0), fun a ha => ?_, fun f h => ?_, ?_⟩
  · show cond (Nat.blt a 6) (ρ a) _ = ρ a
    rw [show Nat.blt a 6 = true from Nat.ble_eq_true_of_le ha]; rfl
  · exact nomatch h
  · show sI (sU (sU (sU (sU M 4 361 (1 * ρ 3 + 0)) 4 370 (1 * ρ 5 + 0)) 4 371 (1 * (M 97 (M 4 362).toNat) + 0)) 4 362 (1 * ρ 0 + (1 * ρ 3 + 0)))
    obtain ⟨W, hW⟩ : ∃ W, W = (sU (sU (sU (sU M 4 361 (1 * ρ 3 + 0)) 4 370 (1 * ρ 5 + 0)) 4 371 (1 * (M 97 (M 4 362).toNat) + 0)) 4 362 (1 * ρ 0 + (1 * ρ 3 + 0))) := ⟨_, rfl⟩
    rw [← hW]
    have base : sI0 W := by
      rw [hW]
      exact (si_u0 (si_u0 (si_u0 (si_u0 hI.1 (fun r hr => by cases hr)) (fun r hr => by cases hr)) (fun r hr => by cases hr)) (fun r hr => by cases hr))
    have k2 : XI2 W := by
      rw [hW]
      exact (xi2_u rfl (xi2_u rfl (xi2_u rfl (xi2_u rfl hI.2.1))))
    have k3 : XI3 W := by
      rw [hW]
      exact (xi3_u rfl (xi3_u rfl (xi3_u rfl (xi3_u rfl hI.2.2.1))))
    have kXA : XA W := by
      rw [hW]
      exact (uXA rfl (uXA rfl (uXA rfl (uXA rfl hI.2.2.2.1))))
    have k_xN1 : xN1 W := by
      rw [hW]
      exact (uxN1 rfl (uxN1 rfl (uxN1 rfl (uxN1 rfl hI.2.2.2.2.1))))
    have k_xN2 : xN2 W := by
      rw [hW]
      exact (uxN2 rfl (uxN2 rfl (uxN2 rfl (uxN2 rfl hI.2.2.2.2.2.1))))
    have k_xN3 : xN3 W := by
      rw [hW]
      exact (uxN3 rfl (uxN3 rfl (uxN3 rfl (uxN3 rfl hI.2.2.2.2.2.2.1))))
    have k_xN4 : xN4 W := by
      rw [hW]
      exact (uxN4 rfl (uxN4 rfl (uxN4 rfl (uxN4 rfl hI.2.2.2.2.2.2.2.1))))
    have k_xN5 : xN5 W := by
      rw [hW]
      exact (uxN5 rfl (uxN5 rfl (uxN5 rfl (uxN5 rfl hI.2.2.2.2.2.2.2.2.1))))
    have k_xN6 : xN6 W := by
      rw [hW]
      exact (uxN6 rfl (uxN6 rfl (uxN6 rfl (uxN6 rfl hI.2.2.2.2.2.2.2.2.2.1))))
    have k_xH1 : xH1 W := by
      rw [hW]
      exact (uxH1 rfl (uxH1 rfl (uxH1 rfl (uxH1 rfl hI.2.2.2.2.2.2.2.2.2.2.1))))
    have k_xK1 : xK1 W := by
      rw [hW]
      exact (uxK1 rfl (uxK1 rfl (uxK1 rfl (uxK1 rfl hI.2.2.2.2.2.2.2.2.2.2.2.1))))
    have k_xC1 : xC1 W := by
      rw [hW]
      exact (uxC1 rfl (uxC1 rfl (uxC1 rfl (uxC1 rfl hI.2.2.2.2.2.2.2.2.2.2.2.2.1))))
    have k_xRW : xRW W := by
      rw [hW]
      exact (uxRW rfl (uxRW rfl (uxRW rfl (uxRW rfl hI.2.2.2.2.2.2.2.2.2.2.2.2.2.1))))
    have k_xWT : xWT W := by
      rw [hW]
      exact (uxWT rfl (uxWT rfl (uxWT rfl (uxWT rfl hI.2.2.2.2.2.2.2.2.2.2.2.2.2.2.1))))
    have k_xCU : xCU W := by
      rw [hW]
      exact (uxCU rfl (uxCU rfl (uxCU rfl (uxCU rfl hI.2.2.2.2.2.2.2.2.2.2.2.2.2.2.2.1))))
    have k_xG2 : xG2 W := by
      rw [hW]
      exact (uxG2 rfl (uxG2 rfl (uxG2 rfl (uxG2 rfl hI.2.2.2.2.2.2.2.2.2.2.2.2.2.2.2.2.1))))
    have k_xG3 : xG3 W := by
      rw [hW]
      exact (uxG3 rfl (uxG3 rfl (uxG3 rfl (uxG3 rfl hI.2.2.2.2.2.2.2.2.2.2.2.2.2.2.2.2.2.1))))
    have k_xG4 : xG4 W := by
      rw [hW]
      exact (uxG4 rfl (uxG4 rfl (uxG4 rfl (uxG4 rfl hI.2.2.2.2.2.2.2.2.2.2.2.2.2.2.2.2.2.2.1))))
    have k_xG5 : xG5 W := by
      rw [hW]
      exact (uxG5 rfl (uxG5 rfl (uxG5 rfl (uxG5 rfl hI.2.2.2.2.2.2.2.2.2.2.2.2.2.2.2.2.2.2.2.1))))
    have k_xG6 : xG6 W := by
      rw [hW]
      exact (uxG6 rfl (uxG6 rfl (uxG6 rfl (uxG6 rfl hI.2.2.2.2.2.2.2.2.2.2.2.2.2.2.2.2.2.2.2.2.1))))
    have k_xS1 : xS1 W := by
      rw [hW]
      exact (uxS1 rfl (uxS1 rfl (uxS1 rfl (uxS1 rfl hI.2.2.2.2.2.2.2.2.2.2.2.2.2.2.2.2.2.2.2.2.2.1))))
    have k_xS2 : xS2 W := by
      rw [hW]
      exact (uxS2 rfl (uxS2 rfl (uxS2 rfl (uxS2 rfl hI.2.2.2.2.2.2.2.2.2.2.2.2.2.2.2.2.2.2.2.2.2.2.1))))
    have k_xS3 : xS3 W := by
      rw [hW]
      exact (uxS3 rfl (uxS3 rfl (uxS3 rfl (uxS3 rfl hI.2.2.2.2.2.2.2.2.2.2.2.2.2.2.2.2.2.2.2.2.2.2.2.1))))
    have k_xS4 : xS4 W := by
      rw [hW]
      exact (uxS4 rfl (uxS4 rfl (uxS4 rfl (uxS4 rfl hI.2.2.2.2.2.2.2.2.2.2.2.2.2.2.2.2.2.2.2.2.2.2.2.2.1))))
    have k_xS5 : xS5 W := by
      rw [hW]
      exact (uxS5 rfl (uxS5 rfl (uxS5 rfl (uxS5 rfl hI.2.2.2.2.2.2.2.2.2.2.2.2.2.2.2.2.2.2.2.2.2.2.2.2.2.1))))
    have k_xS6 : xS6 W := by
      rw [hW]
      exact (uxS6 rfl (uxS6 rfl (uxS6 rfl (uxS6 rfl hI.2.2.2.2.2.2.2.2.2.2.2.2.2.2.2.2.2.2.2.2.2.2.2.2.2.2.1))))
    have k_xS7 : xS7 W := by
      rw [hW]
      exact (uxS7 rfl (uxS7 rfl (uxS7 rfl (uxS7 rfl hI.2.2.2.2.2.2.2.2.2.2.2.2.2.2.2.2.2.2.2.2.2.2.2.2.2.2.2.1))))
    have k_xS8 : xS8 W := by
      rw [hW]
      exact (uxS8 rfl (uxS8 rfl (uxS8 rfl (uxS8 rfl hI.2.2.2.2.2.2.2.2.2.2.2.2.2.2.2.2.2.2.2.2.2.2.2.2.2.2.2.2.1))))
    have k_xS9 : xS9 W := by
      rw [hW]
      exact (uxS9 rfl (uxS9 rfl (uxS9 rfl (uxS9 rfl hI.2.2.2.2.2.2.2.2.2.2.2.2.2.2.2.2.2.2.2.2.2.2.2.2.2.2.2.2.2.1))))
    have k_xSA : xSA W := by
      rw [hW]
      exact (uxSA rfl (uxSA rfl (uxSA rfl (uxSA rfl hI.2.2.2.2.2.2.2.2.2.2.2.2.2.2.2.2.2.2.2.2.2.2.2.2.2.2.2.2.2.2.1))))
    have k_xSG : xSG W := by
      rw [hW]
      exact (uxSG rfl (uxSG rfl (uxSG rfl (uxSG rfl hI.2.2.2.2.2.2.2.2.2.2.2.2.2.2.2.2.2.2.2.2.2.2.2.2.2.2.2.2.2.2.2.1))))
    have k_xSF : xSF W := by
      rw [hW]
      exact (uxSF rfl (uxSF rfl (uxSF rfl (uxSF rfl hI.2.2.2.2.2.2.2.2.2.2.2.2.2.2.2.2.2.2.2.2.2.2.2.2.2.2.2.2.2.2.2.2.1))))
    have k_xSB : xSB W := by
      rw [hW]
      exact (uxSB rfl (uxSB rfl (uxSB rfl (uxSB rfl hI.2.2.2.2.2.2.2.2.2.2.2.2.2.2.2.2.2.2.2.2.2.2.2.2.2.2.2.2.2.2.2.2.2.1))))
    have k_xSC : xSC W := by
      rw [hW]
      exact (uxSC rfl (uxSC rfl (uxSC rfl (uxSC rfl hI.2.2.2.2.2.2.2.2.2.2.2.2.2.2.2.2.2.2.2.2.2.2.2.2.2.2.2.2.2.2.2.2.2.2.1))))
    have k_xSD : xSD W := by
      rw [hW]
      exact (uxSD rfl (uxSD rfl (uxSD rfl (uxSD rfl hI.2.2.2.2.2.2.2.2.2.2.2.2.2.2.2.2.2.2.2.2.2.2.2.2.2.2.2.2.2.2.2.2.2.2.2.1))))
    have k_xSE : xSE W := by
      rw [hW]
      exact (uxSE rfl (uxSE rfl (uxSE rfl (uxSE rfl hI.2.2.2.2.2.2.2.2.2.2.2.2.2.2.2.2.2.2.2.2.2.2.2.2.2.2.2.2.2.2.2.2.2.2.2.2.1))))
    have k_xSW : xSW W := by
      rw [hW]
      exact (uxSW rfl (uxSW rfl (uxSW rfl (uxSW rfl hI.2.2.2.2.2.2.2.2.2.2.2.2.2.2.2.2.2.2.2.2.2.2.2.2.2.2.2.2.2.2.2.2.2.2.2.2.2.1))))
    have k_xST : xST W := by
      rw [hW]
      exact (uxST rfl (uxST rfl (uxST rfl (uxST rfl hI.2.2.2.2.2.2.2.2.2.2.2.2.2.2.2.2.2.2.2.2.2.2.2.2.2.2.2.2.2.2.2.2.2.2.2.2.2.2.1))))
    have k_xSP : xSP W := by
      rw [hW]
      exact (uxSP rfl (uxSP rfl (uxSP rfl (uxSP rfl hI.2.2.2.2.2.2.2.2.2.2.2.2.2.2.2.2.2.2.2.2.2.2.2.2.2.2.2.2.2.2.2.2.2.2.2.2.2.2.2.1))))
    have k_xSL : xSL W := by
      rw [hW]
      exact (uxSL rfl (uxSL rfl (uxSL rfl (uxSL rfl hI.2.2.2.2.2.2.2.2.2.2.2.2.2.2.2.2.2.2.2.2.2.2.2.2.2.2.2.2.2.2.2.2.2.2.2.2.2.2.2.2.1))))
    have k_xSM : xSM W := by
      rw [hW]
      exact (uxSM rfl (uxSM rfl (uxSM rfl (uxSM rfl hI.2.2.2.2.2.2.2.2.2.2.2.2.2.2.2.2.2.2.2.2.2.2.2.2.2.2.2.2.2.2.2.2.2.2.2.2.2.2.2.2.2.1))))
    have k_xSI : xSI W := by
      rw [hW]
      exact (uxSI rfl (uxSI rfl (uxSI rfl (uxSI rfl hI.2.2.2.2.2.2.2.2.2.2.2.2.2.2.2.2.2.2.2.2.2.2.2.2.2.2.2.2.2.2.2.2.2.2.2.2.2.2.2.2.2.2.1))))
    have k_xD3 : xD3 W := by
      rw [hW]
      exact (uxD3 rfl (uxD3 rfl (uxD3 rfl (uxD3 rfl hI.2.2.2.2.2.2.2.2.2.2.2.2.2.2.2.2.2.2.2.2.2.2.2.2.2.2.2.2.2.2.2.2.2.2.2.2.2.2.2.2.2.2.2.1))))
    have k_xDV : xDV W := by
      rw [hW]
      exact (uxDV rfl (uxDV rfl (uxDV rfl (uxDV rfl hI.2.2.2.2.2.2.2.2.2.2.2.2.2.2.2.2.2.2.2.2.2.2.2.2.2.2.2.2.2.2.2.2.2.2.2.2.2.2.2.2.2.2.2.2.1))))
    have k_xDP : xDP W := by
      rw [hW]
      exact (uxDP rfl (uxDP rfl (uxDP rfl (uxDP rfl hI.2.2.2.2.2.2.2.2.2.2.2.2.2.2.2.2.2.2.2.2.2.2.2.2.2.2.2.2.2.2.2.2.2.2.2.2.2.2.2.2.2.2.2.2.2.1))))
    have k_xDE : xDE W := by
      rw [hW]
      exact (uxDE rfl (uxDE rfl (uxDE rfl (uxDE rfl hI.2.2.2.2.2.2.2.2.2.2.2.2.2.2.2.2.2.2.2.2.2.2.2.2.2.2.2.2.2.2.2.2.2.2.2.2.2.2.2.2.2.2.2.2.2.2.1))))
    have k_xQ5 : xQ5 W := by
      rw [hW]
      exact (uxQ5 rfl (uxQ5 rfl (uxQ5 rfl (uxQ5 rfl hI.2.2.2.2.2.2.2.2.2.2.2.2.2.2.2.2.2.2.2.2.2.2.2.2.2.2.2.2.2.2.2.2.2.2.2.2.2.2.2.2.2.2.2.2.2.2.2.1))))
    have k_xQL : xQL W := by
      have r4_350 : W 4 350 = M 4 350 := by rw [hW, sU_ne (fun z => by omega), sU_ne (fun z => by omega), sU_ne (fun z => by omega), sU_ne (fun z => by omega)]
      have r4_360 : W 4 360 = M 4 360 := by rw [hW, sU_ne (fun z => by omega), sU_ne (fun z => by omega), sU_ne (fun z => by omega), sU_ne (fun z => by omega)]
      have r4_361 : W 4 361 = 1 * ρ 3 + 0 := by rw [hW, sU_ne (fun z => by omega), sU_ne (fun z => by omega), sU_ne (fun z => by omega), sU_at]
      have r4_362 : W 4 362 = 1 * ρ 0 + (1 * ρ 3 + 0) := by rw [hW, sU_at]
      have r4_363 : W 4 363 = M 4 363 := by rw [hW, sU_ne (fun z => by omega), sU_ne (fun z => by omega), sU_ne (fun z => by omega), sU_ne (fun z => by omega)]
      have r4_364 : W 4 364 = M 4 364 := by rw [hW, sU_ne (fun z => by omega), sU_ne (fun z => by omega), sU_ne (fun z => by omega), sU_ne (fun z => by omega)]
      have r4_365 : W 4 365 = M 4 365 := by rw [hW, sU_ne (fun z => by omega), sU_ne (fun z => by omega), sU_ne (fun z => by omega), sU_ne (fun z => by omega)]
      have r4_366 : W 4 366 = M 4 366 := by rw [hW, sU_ne (fun z => by omega), sU_ne (fun z => by omega), sU_ne (fun z => by omega), sU_ne (fun z => by omega)]
      have r4_367 : W 4 367 = M 4 367 := by rw [hW, sU_ne (fun z => by omega), sU_ne (fun z => by omega), sU_ne (fun z => by omega), sU_ne (fun z => by omega)]
      have r4_369 : W 4 369 = M 4 369 := by rw [hW, sU_ne (fun z => by omega), sU_ne (fun z => by omega), sU_ne (fun z => by omega), sU_ne (fun z => by omega)]
      have r4_370 : W 4 370 = 1 * ρ 5 + 0 := by rw [hW, sU_ne (fun z => by omega), sU_ne (fun z => by omega), sU_at]
      have r4_371 : W 4 371 = 1 * (M 97 (M 4 362).toNat) + 0 := by rw [hW, sU_ne (fun z => by omega), sU_at]
      have r4_372 : W 4 372 = M 4 372 := by rw [hW, sU_ne (fun z => by omega), sU_ne (fun z => by omega), sU_ne (fun z => by omega), sU_ne (fun z => by omega)]
      have r93_0 : W 93 0 = M 93 0 := by rw [hW, sU_ne (fun z => by omega), sU_ne (fun z => by omega), sU_ne (fun z => by omega), sU_ne (fun z => by omega)]
      have c95 : ∀ k, W 95 k = M 95 k := fun k => by rw [hW, sU_ne (fun z => by omega), sU_ne (fun z => by omega), sU_ne (fun z => by omega), sU_ne (fun z => by omega)]
      have e95 : W 95 = M 95 := funext c95
      have c97 : ∀ k, W 97 k = M 97 k := fun k => by rw [hW, sU_ne (fun z => by omega), sU_ne (fun z => by omega), sU_ne (fun z => by omega), sU_ne (fun z => by omega)]
      have e97 : W 97 = M 97 := funext c97
      intro _
      obtain ⟨b1, b2, b3, b4, b5, b6, b7, b8⟩ := gx_xQL hI (by omega)
      rw [r4_360, r4_361, r4_362, r4_363, r4_364, r4_365, r4_366, r4_367, r4_369, r4_370, r4_371, r4_372, db3_c e95 e97, db3_c e95 e97, dws_c r93_0 e95 e97, dws_c r93_0 e95 e97, r93_0, c95]
      (try rw [h0])

      have hs : (1 * ρ 0 + (1 * ρ 3 + 0)).toNat = (M 4 362).toNat + 1 := by rw [h0]; omega
      rw [h0] at hs
      have hv : M 95 (M 4 362).toNat = ρ 5 := by rw [show (M 4 362).toNat = (ρ 4).toNat by omega]; omega
      have h2 : (dB3 M (M 4 360) (M 4 362).toNat).2.1 = M 4 370 := by rw [← b1]
      refine ⟨?_, by omega, b3, b4, b5, b6, b7, b8⟩
      rw [hs]
      show _ = (if M 95 (M 4 362).toNat ≤ M 4 360 ∧ (dB3 M (M 4 360) (M 4 362).toNat).2.1 < M 95 (M 4 362).toNat then (((M 4 362).toNat : Int), M 95 (M 4 362).toNat, M 97 (M 4 362).toNat) else dB3 M (M 4 360) (M 4 362).toNat)
      rw [h2, hv, if_pos (by omega)]

      rw [show (1 * ρ 3 + 0 : Int) = ((M 4 362).toNat : Int) by omega, show (1 * ρ 5 + 0 : Int) = ρ 5 by omega]
      congr 2
      omega
    have k_xQW : xQW W := by
      rw [hW]
      exact (uxQW rfl (uxQW rfl (uxQW rfl (uxQW rfl hI.2.2.2.2.2.2.2.2.2.2.2.2.2.2.2.2.2.2.2.2.2.2.2.2.2.2.2.2.2.2.2.2.2.2.2.2.2.2.2.2.2.2.2.2.2.2.2.2.2.1))))
    have k_xQM : xQM W := by
      rw [hW]
      exact (uxQM rfl (uxQM rfl (uxQM rfl (uxQM rfl hI.2.2.2.2.2.2.2.2.2.2.2.2.2.2.2.2.2.2.2.2.2.2.2.2.2.2.2.2.2.2.2.2.2.2.2.2.2.2.2.2.2.2.2.2.2.2.2.2.2.2.1))))
    have k_xQH : xQH W := by
      rw [hW]
      exact (uxQH rfl (uxQH rfl (uxQH rfl (uxQH rfl hI.2.2.2.2.2.2.2.2.2.2.2.2.2.2.2.2.2.2.2.2.2.2.2.2.2.2.2.2.2.2.2.2.2.2.2.2.2.2.2.2.2.2.2.2.2.2.2.2.2.2.2))))
    have k_XC : XC W := ⟨k_xS1, k_xS2, k_xS3, k_xS4, k_xS5, k_xS6, k_xS7, k_xS8, k_xS9, k_xSA, k_xSG, k_xSF, k_xSB, k_xSC, k_xSD, k_xSE, k_xSW, k_xST, k_xSP, k_xSL, k_xSM, k_xSI, k_xD3, k_xDV, k_xDP, k_xDE, k_xQ5, k_xQL, k_xQW, k_xQM, k_xQH⟩
    have kXB : XB W := ⟨k_xN1, k_xN2, k_xN3, k_xN4, k_xN5, k_xN6, k_xH1, k_xK1, k_xC1, k_xRW, k_xWT, k_xCU, k_xG2, k_xG3, k_xG4, k_xG5, k_xG6, k_XC⟩
    exact ⟨base, k2, k3, kXA, kXB⟩
-- lNoA
def xr_648 : qRu := (6, [[(-1, 3), (1, 4)], [(1, 3), (-1, 4)], [(-1, 0), (-1, 1), (1, 5)]], [(4, 350, [(30, 0)]), (4, 360, [(1, 1)]), (4, 370, [(1, 2)]), (4, 362, [(1, 3)]), (95, 1004, [(1, 5)])], [], [(4, 362, [(1, 0), (1, 3)])], [])
theorem xo_648 : qRok xr_648 := by
  intro ρ M h0 hf hm hI
  have f0 := hf [(-1, 3), (1, 4)] (by decide)
  have f1 := hf [(1, 3), (-1, 4)] (by decide)
  have f2 := hf [(-1, 0), (-1, 1), (1, 5)] (by decide)
  simp only [qD, h0] at f0 f1 f2
  have m0 : M 4 350 = 30 * ρ 0 + 0 := hm (4, 350, [(30, 0)]) (by decide)
  have m1 : M 4 360 = 1 * ρ 1 + 0 := hm (4, 360, [(1, 1)]) (by decide)
  have m2 : M 4 370 = 1 * ρ 2 + 0 := hm (4, 370, [(1, 2)]) (by decide)
  have m3 : M 4 362 = 1 * ρ 3 + 0 := hm (4, 362, [(1, 3)]) (by decide)
  have m4 : M 95 (zIx ρ (1000 + 4)) = 1 * ρ 5 + 0 := hm (95, 1004, [(1, 5)]) (by decide)
  rw [zix_p] at m4
  simp only [h0] at m0
  have qxQL := hI.2.2.2.2.2.2.2.2.2.2.2.2.2.2.2.2.2.2.2.2.2.2.2.2.2.2.2.2.2.2.2.2.2.2.2.2.2.2.2.2.2.2.2.2.2.2.2.2.1
  refine ⟨ρ, fun _ _ => rfl, fun f h => ?_, ?_⟩
  · exact nomatch h
  · show sI (sU M 4 362 (1 * ρ 0 + (1 * ρ 3 + 0)))
    obtain ⟨W, hW⟩ : ∃ W, W = (sU M 4 362 (1 * ρ 0 + (1 * ρ 3 + 0))) := ⟨_, rfl⟩
    rw [← hW]
    have base : sI0 W := by
      rw [hW]
      exact (si_u0 hI.1 (fun r hr => by cases hr))
    have k2 : XI2 W := by
      rw [hW]
      exact (xi2_u rfl hI.2.1)
    have k3 : XI3 W := by
      rw [hW]
      exact (xi3_u rfl hI.2.2.1)
    have kXA : XA W := by
      rw [hW]
      exact (uXA rfl hI.2.2.2.1)
    have k_xN1 : xN1 W := by
      rw [hW]
      exact (uxN1 rfl hI.2.2.2.2.1)
    have k_xN2 : xN2 W := by
      rw [hW]
      exact (uxN2 rfl hI.2.2.2.2.2.1)
    have k_xN3 : xN3 W := by
      rw [hW]
      exact (uxN3 rfl hI.2.2.2.2.2.2.1)
    have k_xN4 : xN4 W := by
      rw [hW]
      exact (uxN4 rfl hI.2.2.2.2.2.2.2.1)
    have k_xN5 : xN5 W := by
      rw [hW]
      exact (uxN5 rfl hI.2.2.2.2.2.2.2.2.1)
    have k_xN6 : xN6 W := by
      rw [hW]
      exact (uxN6 rfl hI.2.2.2.2.2.2.2.2.2.1)
    have k_xH1 : xH1 W := by
      rw [hW]
      exact (uxH1 rfl hI.2.2.2.2.2.2.2.2.2.2.1)
    have k_xK1 : xK1 W := by
      rw [hW]
      exact (uxK1 rfl hI.2.2.2.2.2.2.2.2.2.2.2.1)
    have k_xC1 : xC1 W := by
      rw [hW]
      exact (uxC1 rfl hI.2.2.2.2.2.2.2.2.2.2.2.2.1)
    have k_xRW : xRW W := by
      rw [hW]
      exact (uxRW rfl hI.2.2.2.2.2.2.2.2.2.2.2.2.2.1)
    have k_xWT : xWT W := by
      rw [hW]
      exact (uxWT rfl hI.2.2.2.2.2.2.2.2.2.2.2.2.2.2.1)
    have k_xCU : xCU W := by
      rw [hW]
      exact (uxCU rfl hI.2.2.2.2.2.2.2.2.2.2.2.2.2.2.2.1)
    have k_xG2 : xG2 W := by
      rw [hW]
      exact (uxG2 rfl hI.2.2.2.2.2.2.2.2.2.2.2.2.2.2.2.2.1)
    have k_xG3 : xG3 W := by
      rw [hW]
      exact (uxG3 rfl hI.2.2.2.2.2.2.2.2.2.2.2.2.2.2.2.2.2.1)
    have k_xG4 : xG4 W := by
      rw [hW]
      exact (uxG4 rfl hI.2.2.2.2.2.2.2.2.2.2.2.2.2.2.2.2.2.2.1)
    have k_xG5 : xG5 W := by
      rw [hW]
      exact (uxG5 rfl hI.2.2.2.2.2.2.2.2.2.2.2.2.2.2.2.2.2.2.2.1)
    have k_xG6 : xG6 W := by
      rw [hW]
      exact (uxG6 rfl hI.2.2.2.2.2.2.2.2.2.2.2.2.2.2.2.2.2.2.2.2.1)
    have k_xS1 : xS1 W := by
      rw [hW]
      exact (uxS1 rfl hI.2.2.2.2.2.2.2.2.2.2.2.2.2.2.2.2.2.2.2.2.2.1)
    have k_xS2 : xS2 W := by
      rw [hW]
      exact (uxS2 rfl hI.2.2.2.2.2.2.2.2.2.2.2.2.2.2.2.2.2.2.2.2.2.2.1)
    have k_xS3 : xS3 W := by
      rw [hW]
      exact (uxS3 rfl hI.2.2.2.2.2.2.2.2.2.2.2.2.2.2.2.2.2.2.2.2.2.2.2.1)
    have k_xS4 : xS4 W := by
      rw [hW]
      exact (uxS4 rfl hI.2.2.2.2.2.2.2.2.2.2.2.2.2.2.2.2.2.2.2.2.2.2.2.2.1)
    have k_xS5 : xS5 W := by
      rw [hW]
      exact (uxS5 rfl hI.2.2.2.2.2.2.2.2.2.2.2.2.2.2.2.2.2.2.2.2.2.2.2.2.2.1)
    have k_xS6 : xS6 W := by
      rw [hW]
      exact (uxS6 rfl hI.2.2.2.2.2.2.2.2.2.2.2.2.2.2.2.2.2.2.2.2.2.2.2.2.2.2.1)
    have k_xS7 : xS7 W := by
      rw [hW]
      exact (uxS7 rfl hI.2.2.2.2.2.2.2.2.2.2.2.2.2.2.2.2.2.2.2.2.2.2.2.2.2.2.2.1)
    have k_xS8 : xS8 W := by
      rw [hW]
      exact (uxS8 rfl hI.2.2.2.2.2.2.2.2.2.2.2.2.2.2.2.2.2.2.2.2.2.2.2.2.2.2.2.2.1)
    have k_xS9 : xS9 W := by
      rw [hW]
      exact (uxS9 rfl hI.2.2.2.2.2.2.2.2.2.2.2.2.2.2.2.2.2.2.2.2.2.2.2.2.2.2.2.2.2.1)
    have k_xSA : xSA W := by
      rw [hW]
      exact (uxSA rfl hI.2.2.2.2.2.2.2.2.2.2.2.2.2.2.2.2.2.2.2.2.2.2.2.2.2.2.2.2.2.2.1)
    have k_xSG : xSG W := by
      rw [hW]
      exact (uxSG rfl hI.2.2.2.2.2.2.2.2.2.2.2.2.2.2.2.2.2.2.2.2.2.2.2.2.2.2.2.2.2.2.2.1)
    have k_xSF : xSF W := by
      rw [hW]
      exact (uxSF rfl hI.2.2.2.2.2.2.2.2.2.2.2.2.2.2.2.2.2.2.2.2.2.2.2.2.2.2.2.2.2.2.2.2.1)
    have k_xSB : xSB W := by
      rw [hW]
      exact (uxSB rfl hI.2.2.2.2.2.2.2.2.2.2.2.2.2.2.2.2.2.2.2.2.2.2.2.2.2.2.2.2.2.2.2.2.2.1)
    have k_xSC : xSC W := by
      rw [hW]
      exact (uxSC rfl hI.2.2.2.2.2.2.2.2.2.2.2.2.2.2.2.2.2.2.2.2.2.2.2.2.2.2.2.2.2.2.2.2.2.2.1)
    have k_xSD : xSD W := by
      rw [hW]
      exact (uxSD rfl hI.2.2.2.2.2.2.2.2.2.2.2.2.2.2.2.2.2.2.2.2.2.2.2.2.2.2.2.2.2.2.2.2.2.2.2.1)
    have k_xSE : xSE W := by
      rw [hW]
      exact (uxSE rfl hI.2.2.2.2.2.2.2.2.2.2.2.2.2.2.2.2.2.2.2.2.2.2.2.2.2.2.2.2.2.2.2.2.2.2.2.2.1)
    have k_xSW : xSW W := by
      rw [hW]
      exact (uxSW rfl hI.2.2.2.2.2.2.2.2.2.2.2.2.2.2.2.2.2.2.2.2.2.2.2.2.2.2.2.2.2.2.2.2.2.2.2.2.2.1)
    have k_xST : xST W := by
      rw [hW]
      exact (uxST rfl hI.2.2.2.2.2.2.2.2.2.2.2.2.2.2.2.2.2.2.2.2.2.2.2.2.2.2.2.2.2.2.2.2.2.2.2.2.2.2.1)
    have k_xSP : xSP W := by
      rw [hW]
      exact (uxSP rfl hI.2.2.2.2.2.2.2.2.2.2.2.2.2.2.2.2.2.2.2.2.2.2.2.2.2.2.2.2.2.2.2.2.2.2.2.2.2.2.2.1)
    have k_xSL : xSL W := by
      rw [hW]
      exact (uxSL rfl hI.2.2.2.2.2.2.2.2.2.2.2.2.2.2.2.2.2.2.2.2.2.2.2.2.2.2.2.2.2.2.2.2.2.2.2.2.2.2.2.2.1)
    have k_xSM : xSM W := by
      rw [hW]
      exact (uxSM rfl hI.2.2.2.2.2.2.2.2.2.2.2.2.2.2.2.2.2.2.2.2.2.2.2.2.2.2.2.2.2.2.2.2.2.2.2.2.2.2.2.2.2.1)
    have k_xSI : xSI W := by
      rw [hW]
      exact (uxSI rfl hI.2.2.2.2.2.2.2.2.2.2.2.2.2.2.2.2.2.2.2.2.2.2.2.2.2.2.2.2.2.2.2.2.2.2.2.2.2.2.2.2.2.2.1)
    have k_xD3 : xD3 W := by
      rw [hW]
      exact (uxD3 rfl hI.2.2.2.2.2.2.2.2.2.2.2.2.2.2.2.2.2.2.2.2.2.2.2.2.2.2.2.2.2.2.2.2.2.2.2.2.2.2.2.2.2.2.2.1)
    have k_xDV : xDV W := by
      rw [hW]
      exact (uxDV rfl hI.2.2.2.2.2.2.2.2.2.2.2.2.2.2.2.2.2.2.2.2.2.2.2.2.2.2.2.2.2.2.2.2.2.2.2.2.2.2.2.2.2.2.2.2.1)
    have k_xDP : xDP W := by
      rw [hW]
      exact (uxDP rfl hI.2.2.2.2.2.2.2.2.2.2.2.2.2.2.2.2.2.2.2.2.2.2.2.2.2.2.2.2.2.2.2.2.2.2.2.2.2.2.2.2.2.2.2.2.2.1)
    have k_xDE : xDE W := by
      rw [hW]
      exact (uxDE rfl hI.2.2.2.2.2.2.2.2.2.2.2.2.2.2.2.2.2.2.2.2.2.2.2.2.2.2.2.2.2.2.2.2.2.2.2.2.2.2.2.2.2.2.2.2.2.2.1)
    have k_xQ5 : xQ5 W := by
      rw [hW]
      exact (uxQ5 rfl hI.2.2.2.2.2.2.2.2.2.2.2.2.2.2.2.2.2.2.2.2.2.2.2.2.2.2.2.2.2.2.2.2.2.2.2.2.2.2.2.2.2.2.2.2.2.2.2.1)
    have k_xQL : xQL W := by
      have r4_350 : W 4 350 = M 4 350 := by rw [hW, sU_ne (fun z => by omega)]
      have r4_360 : W 4 360 = M 4 360 := by rw [hW, sU_ne (fun z => by omega)]
      have r4_361 : W 4 361 = M 4 361 := by rw [hW, sU_ne (fun z => by omega)]
      have r4_362 : W 4 362 = 1 * ρ 0 + (1 * ρ 3 + 0) := by rw [hW, sU_at]
      have r4_363 : W 4 363 = M 4 363 := by rw [hW, sU_ne (fun z => by omega)]
      have r4_364 : W 4 364 = M 4 364 := by rw [hW, sU_ne (fun z => by omega)]
      have r4_365 : W 4 365 = M 4 365 := by rw [hW, sU_ne (fun z => by omega)]
      have r4_366 : W 4 366 = M 4 366 := by rw [hW, sU_ne (fun z => by omega)]
      have r4_367 : W 4 367 = M 4 367 := by rw [hW, sU_ne (fun z => by omega)]
      have r4_369 : W 4 369 = M 4 369 := by rw [hW, sU_ne (fun z => by omega)]
      have r4_370 : W 4 370 = M 4 370 := by rw [hW, sU_ne (fun z => by omega)]
      have r4_371 : W 4 371 = M 4 371 := by rw [hW, sU_ne (fun z => by omega)]
      have r4_372 : W 4 372 = M 4 372 := by rw [hW, sU_ne (fun z => by omega)]
      have r93_0 : W 93 0 = M 93 0 := by rw [hW, sU_ne (fun z => by omega)]
      have c95 : ∀ k, W 95 k = M 95 k := fun k => by rw [hW, sU_ne (fun z => by omega)]
      have e95 : W 95 = M 95 := funext c95
      have c97 : ∀ k, W 97 k = M 97 k := fun k => by rw [hW, sU_ne (fun z => by omega)]
      have e97 : W 97 = M 97 := funext c97
      intro _
      obtain ⟨b1, b2, b3, b4, b5, b6, b7, b8⟩ := gx_xQL hI (by omega)
      rw [r4_360, r4_361, r4_362, r4_363, r4_364, r4_365, r4_366, r4_367, r4_369, r4_370, r4_371, r4_372, db3_c e95 e97, db3_c e95 e97, dws_c r93_0 e95 e97, dws_c r93_0 e95 e97, r93_0, c95]
      (try rw [h0])

      have hs : (1 * ρ 0 + (1 * ρ 3 + 0)).toNat = (M 4 362).toNat + 1 := by rw [h0]; omega
      rw [h0] at hs
      have hv : M 95 (M 4 362).toNat = ρ 5 := by rw [show (M 4 362).toNat = (ρ 4).toNat by omega]; omega
      have h2 : (dB3 M (M 4 360) (M 4 362).toNat).2.1 = M 4 370 := by rw [← b1]
      refine ⟨?_, by omega, b3, b4, b5, b6, b7, b8⟩
      rw [hs]
      show _ = (if M 95 (M 4 362).toNat ≤ M 4 360 ∧ (dB3 M (M 4 360) (M 4 362).toNat).2.1 < M 95 (M 4 362).toNat then (((M 4 362).toNat : Int), M 95 (M 4 362).toNat, M 97 (M 4 362).toNat) else dB3 M (M 4 360) (M 4 362).toNat)
      rw [h2, hv, if_neg (by omega)]
      exact b1
    have k_xQW : xQW W := by
      rw [hW]
      exact (uxQW rfl hI.2.2.2.2.2.2.2.2.2.2.2.2.2.2.2.2.2.2.2.2.2.2.2.2.2.2.2.2.2.2.2.2.2.2.2.2.2.2.2.2.2.2.2.2.2.2.2.2.2.1)
    have k_xQM : xQM W := by
      rw [hW]
      exact (uxQM rfl hI.2.2.2.2.2.2.2.2.2.2.2.2.2.2.2.2.2.2.2.2.2.2.2.2.2.2.2.2.2.2.2.2.2.2.2.2.2.2.2.2.2.2.2.2.2.2.2.2.2.2.1)
    have k_xQH : xQH W := by
      rw [hW]
      exact (uxQH rfl hI.2.2.2.2.2.2.2.2.2.2.2.2.2.2.2.2.2.2.2.2.2.2.2.2.2.2.2.2.2.2.2.2.2.2.2.2.2.2.2.2.2.2.2.2.2.2.2.2.2.2.2)
    have k_XC : XC W := ⟨k_xS1, k_xS2, k_xS3, k_xS4, k_xS5, k_xS6, k_xS7, k_xS8, k_xS9, k_xSA, k_xSG, k_xSF, k_xSB, k_xSC, k_xSD, k_xSE, k_xSW, k_xST, k_xSP, k_xSL, k_xSM, k_xSI, k_xD3, k_xDV, k_xDP, k_xDE, k_xQ5, k_xQL, k_xQW, k_xQM, k_xQH⟩
    have kXB : XB W := ⟨k_xN1, k_xN2, k_xN3, k_xN4, k_xN5, k_xN6, k_xH1, k_xK1, k_xC1, k_xRW, k_xWT, k_xCU, k_xG2, k_xG3, k_xG4, k_xG5, k_xG6, k_XC⟩
    exact ⟨base, k2, k3, kXA, kXB⟩
-- lNoB
def xr_649 : qRu := (6, [[(-1, 3), (1, 4)], [(1, 3), (-1, 4)], [(1, 2), (-1, 5)]], [(4, 350, [(30, 0)]), (4, 360, [(1, 1)]), (4, 370, [(1, 2)]), (4, 362, [(1, 3)]), (95, 1004, [(1, 5)])], [], [(4, 362, [(1, 0), (1, 3)])], [])
theorem xo_649 : qRok xr_649 := by
  intro ρ M h0 hf hm hI
  have f0 := hf [(-1, 3), (1, 4)] (by decide)
  have f1 := hf [(1, 3), (-1, 4)] (by decide)
  have f2 := hf [(1, 2), (-1, 5)] (by decide)
  simp only [qD, h0] at f0 f1 f2
  have m0 : M 4 350 = 30 * ρ 0 + 0 := hm (4, 350, [(30, 0)]) (by decide)
  have m1 : M 4 360 = 1 * ρ 1 + 0 := hm (4, 360, [(1, 1)]) (by decide)
  have m2 : M 4 370 = 1 * ρ 2 + 0 := hm (4, 370, [(1, 2)]) (by decide)
  have m3 : M 4 362 = 1 * ρ 3 + 0 := hm (4, 362, [(1, 3)]) (by decide)
  have m4 : M 95 (zIx ρ (1000 + 4)) = 1 * ρ 5 + 0 := hm (95, 1004, [(1, 5)]) (by decide)
  rw [zix_p] at m4
  simp only [h0] at m0
  have qxQL := hI.2.2.2.2.2.2.2.2.2.2.2.2.2.2.2.2.2.2.2.2.2.2.2.2.2.2.2.2.2.2.2.2.2.2.2.2.2.2.2.2.2.2.2.2.2.2.2.2.1
  refine ⟨ρ, fun _ _ => rfl, fun f h => ?_, ?_⟩
  · exact nomatch h
  · show sI (sU M 4 362 (1 * ρ 0 + (1 * ρ 3 + 0)))
    obtain ⟨W, hW⟩ : ∃ W, W = (sU M 4 362 (1 * ρ 0 + (1 * ρ 3 + 0))) := ⟨_, rfl⟩
    rw [← hW]
    have base : sI0 W := by
      rw [hW]
      exact (si_u0 hI.1 (fun r hr => by cases hr))
    have k2 : XI2 W := by
      rw [hW]
      exact (xi2_u rfl hI.2.1)
    have k3 : XI3 W := by
      rw [hW]
      exact (xi3_u rfl hI.2.2.1)
    have kXA : XA W := by
      rw [hW]
      exact (uXA rfl hI.2.2.2.1)
    have k_xN1 : xN1 W := by
      rw [hW]
      exact (uxN1 rfl hI.2.2.2.2.1)
    have k_xN2 : xN2 W := by
      rw [hW]
      exact (uxN2 rfl hI.2.2.2.2.2.1)
    have k_xN3 : xN3 W := by
      rw [hW]
      exact (uxN3 rfl hI.2.2.2.2.2.2.1)
    have k_xN4 : xN4 W := by
      rw [hW]
      exact (uxN4 rfl hI.2.2.2.2.2.2.2.1)
    have k_xN5 : xN5 W := by
      rw [hW]
      exact (uxN5 rfl hI.2.2.2.2.2.2.2.2.1)
    have k_xN6 : xN6 W := by
      rw [hW]
      exact (uxN6 rfl hI.2.2.2.2.2.2.2.2.2.1)
    have k_xH1 : xH1 W := by
      rw [hW]
      exact (uxH1 rfl hI.2.2.2.2.2.2.2.2.2.2.1)
    have k_xK1 : xK1 W := by
      rw [hW]
      exact (uxK1 rfl hI.2.2.2.2.2.2.2.2.2.2.2.1)
    have k_xC1 : xC1 W := by
      rw [hW]
      exact (uxC1 rfl hI.2.2.2.2.2.2.2.2.2.2.2.2.1)
    have k_xRW : xRW W := by
      rw [hW]
      exact (uxRW rfl hI.2.2.2.2.2.2.2.2.2.2.2.2.2.1)
    have k_xWT : xWT W := by
      rw [hW]
      exact (uxWT rfl hI.2.2.2.2.2.2.2.2.2.2.2.2.2.2.1)
    have k_xCU : xCU W := by
      rw [hW]
      exact (uxCU rfl hI.2.2.2.2.2.2.2.2.2.2.2.2.2.2.2.1)
    have k_xG2 : xG2 W := by
      rw [hW]
      exact (uxG2 rfl hI.2.2.2.2.2.2.2.2.2.2.2.2.2.2.2.2.1)
    have k_xG3 : xG3 W := by
      rw [hW]
      exact (uxG3 rfl hI.2.2.2.2.2.2.2.2.2.2.2.2.2.2.2.2.2.1)
    have k_xG4 : xG4 W := by
      rw [hW]
      exact (uxG4 rfl hI.2.2.2.2.2.2.2.2.2.2.2.2.2.2.2.2.2.2.1)
    have k_xG5 : xG5 W := by
      rw [hW]
      exact (uxG5 rfl hI.2.2.2.2.2.2.2.2.2.2.2.2.2.2.2.2.2.2.2.1)
    have k_xG6 : xG6 W := by
      rw [hW]
      exact (uxG6 rfl hI.2.2.2.2.2.2.2.2.2.2.2.2.2.2.2.2.2.2.2.2.1)
    have k_xS1 : xS1 W := by
      rw [hW]
      exact (uxS1 rfl hI.2.2.2.2.2.2.2.2.2.2.2.2.2.2.2.2.2.2.2.2.2.1)
    have k_xS2 : xS2 W := by
      rw [hW]
      exact (uxS2 rfl hI.2.2.2.2.2.2.2.2.2.2.2.2.2.2.2.2.2.2.2.2.2.2.1)
    have k_xS3 : xS3 W := by
      rw [hW]
      exact (uxS3 rfl hI.2.2.2.2.2.2.2.2.2.2.2.2.2.2.2.2.2.2.2.2.2.2.2.1)
    have k_xS4 : xS4 W := by
      rw [hW]
      exact (uxS4 rfl hI.2.2.2.2.2.2.2.2.2.2.2.2.2.2.2.2.2.2.2.2.2.2.2.2.1)
    have k_xS5 : xS5 W := by
      rw [hW]
      exact (uxS5 rfl hI.2.2.2.2.2.2.2.2.2.2.2.2.2.2.2.2.2.2.2.2.2.2.2.2.2.1)
    have k_xS6 : xS6 W := by
      rw [hW]
      exact (uxS6 rfl hI.2.2.2.2.2.2.2.2.2.2.2.2.2.2.2.2.2.2.2.2.2.2.2.2.2.2.1)
    have k_xS7 : xS7 W := by
      rw [hW]
      exact (uxS7 rfl hI.2.2.2.2.2.2.2.2.2.2.2.2.2.2.2.2.2.2.2.2.2.2.2.2.2.2.2.1)
    have k_xS8 : xS8 W := by
      rw [hW]
      exact (uxS8 rfl hI.2.2.2.2.2.2.2.2.2.2.2.2.2.2.2.2.2.2.2.2.2.2.2.2.2.2.2.2.1)
    have k_xS9 : xS9 W := by
      rw [hW]
      exact (uxS9 rfl hI.2.2.2.2.2.2.2.2.2.2.2.2.2.2.2.2.2.2.2.2.2.2.2.2.2.2.2.2.2.1)
    have k_xSA : xSA W := by
      rw [hW]
      exact (uxSA rfl hI.2.2.2.2.2.2.2.2.2.2.2.2.2.2.2.2.2.2.2.2.2.2.2.2.2.2.2.2.2.2.1)
    have k_xSG : xSG W := by
      rw [hW]
      exact (uxSG rfl hI.2.2.2.2.2.2.2.2.2.2.2.2.2.2.2.2.2.2.2.2.2.2.2.2.2.2.2.2.2.2.2.1)
    have k_xSF : xSF W := by
      rw [hW]
      exact (uxSF rfl hI.2.2.2.2.2.2.2.2.2.2.2.2.2.2.2.2.2.2.2.2.2.2.2.2.2.2.2.2.2.2.2.2.1)
    have k_xSB : xSB W := by
      rw [hW]
      exact (uxSB rfl hI.2.2.2.2.2.2.2.2.2.2.2.2.2.2.2.2.2.2.2.2.2.2.2.2.2.2.2.2.2.2.2.2.2.1)
    have k_xSC : xSC W := by
      rw [hW]
      exact (uxSC rfl hI.2.2.2.2.2.2.2.2.2.2.2.2.2.2.2.2.2.2.2.2.2.2.2.2.2.2.2.2.2.2.2.2.2.2.1)
    have k_xSD : xSD W := by
      rw [hW]
      exact (uxSD rfl hI.2.2.2.2.2.2.2.2.2.2.2.2.2.2.2.2.2.2.2.2.2.2.2.2.2.2.2.2.2.2.2.2.2.2.2.1)
    have k_xSE : xSE W := by
      rw [hW]
      exact (uxSE rfl hI.2.2.2.2.2.2.2.2.2.2.2.2.2.2.2.2.2.2.2.2.2.2.2.2.2.2.2.2.2.2.2.2.2.2.2.2.1)
    have k_xSW : xSW W := by
      rw [hW]
      exact (uxSW rfl hI.2.2.2.2.2.2.2.2.2.2.2.2.2.2.2.2.2.2.2.2.2.2.2.2.2.2.2.2.2.2.2.2.2.2.2.2.2.1)
    have k_xST : xST W := by
      rw [hW]
      exact (uxST rfl hI.2.2.2.2.2.2.2.2.2.2.2.2.2.2.2.2.2.2.2.2.2.2.2.2.2.2.2.2.2.2.2.2.2.2.2.2.2.2.1)
    have k_xSP : xSP W := by
      rw [hW]
      exact (uxSP rfl hI.2.2.2.2.2.2.2.2.2.2.2.2.2.2.2.2.2.2.2.2.2.2.2.2.2.2.2.2.2.2.2.2.2.2.2.2.2.2.2.1)
    have k_xSL : xSL W := by
      rw [hW]
      exact (uxSL rfl hI.2.2.2.2.2.2.2.2.2.2.2.2.2.2.2.2.2.2.2.2.2.2.2.2.2.2.2.2.2.2.2.2.2.2.2.2.2.2.2.2.1)
    have k_xSM : xSM W := by
      rw [hW]
      exact (uxSM rfl hI.2.2.2.2.2.2.2.2.2.2.2.2.2.2.2.2.2.2.2.2.2.2.2.2.2.2.2.2.2.2.2.2.2.2.2.2.2.2.2.2.2.1)
    have k_xSI : xSI W := by
      rw [hW]
      exact (uxSI rfl hI.2.2.2.2.2.2.2.2.2.2.2.2.2.2.2.2.2.2.2.2.2.2.2.2.2.2.2.2.2.2.2.2.2.2.2.2.2.2.2.2.2.2.1)
    have k_xD3 : xD3 W := by
      rw [hW]
      exact (uxD3 rfl hI.2.2.2.2.2.2.2.2.2.2.2.2.2.2.2.2.2.2.2.2.2.2.2.2.2.2.2.2.2.2.2.2.2.2.2.2.2.2.2.2.2.2.2.1)
    have k_xDV : xDV W := by
      rw [hW]
      exact (uxDV rfl hI.2.2.2.2.2.2.2.2.2.2.2.2.2.2.2.2.2.2.2.2.2.2.2.2.2.2.2.2.2.2.2.2.2.2.2.2.2.2.2.2.2.2.2.2.1)
    have k_xDP : xDP W := by
      rw [hW]
      exact (uxDP rfl hI.2.2.2.2.2.2.2.2.2.2.2.2.2.2.2.2.2.2.2.2.2.2.2.2.2.2.2.2.2.2.2.2.2.2.2.2.2.2.2.2.2.2.2.2.2.1)
    have k_xDE : xDE W := by
      rw [hW]
      exact (uxDE rfl hI.2.2.2.2.2.2.2.2.2.2.2.2.2.2.2.2.2.2.2.2.2.2.2.2.2.2.2.2.2.2.2.2.2.2.2.2.2.2.2.2.2.2.2.2.2.2.1)
    have k_xQ5 : xQ5 W := by
      rw [hW]
      exact (uxQ5 rfl hI.2.2.2.2.2.2.2.2.2.2.2.2.2.2.2.2.2.2.2.2.2.2.2.2.2.2.2.2.2.2.2.2.2.2.2.2.2.2.2.2.2.2.2.2.2.2.2.1)
    have k_xQL : xQL W := by
      have r4_350 : W 4 350 = M 4 350 := by rw [hW, sU_ne (fun z => by omega)]
      have r4_360 : W 4 360 = M 4 360 := by rw [hW, sU_ne (fun z => by omega)]
      have r4_361 : W 4 361 = M 4 361 := by rw [hW, sU_ne (fun z => by omega)]
      have r4_362 : W 4 362 = 1 * ρ 0 + (1 * ρ 3 + 0) := by rw [hW, sU_at]
      have r4_363 : W 4 363 = M 4 363 := by rw [hW, sU_ne (fun z => by omega)]
      have r4_364 : W 4 364 = M 4 364 := by rw [hW, sU_ne (fun z => by omega)]
      have r4_365 : W 4 365 = M 4 365 := by rw [hW, sU_ne (fun z => by omega)]
      have r4_366 : W 4 366 = M 4 366 := by rw [hW, sU_ne (fun z => by omega)]
      have r4_367 : W 4 367 = M 4 367 := by rw [hW, sU_ne (fun z => by omega)]
      have r4_369 : W 4 369 = M 4 369 := by rw [hW, sU_ne (fun z => by omega)]
      have r4_370 : W 4 370 = M 4 370 := by rw [hW, sU_ne (fun z => by omega)]
      have r4_371 : W 4 371 = M 4 371 := by rw [hW, sU_ne (fun z => by omega)]
      have r4_372 : W 4 372 = M 4 372 := by rw [hW, sU_ne (fun z => by omega)]
      have r93_0 : W 93 0 = M 93 0 := by rw [hW, sU_ne (fun z => by omega)]
      have c95 : ∀ k, W 95 k = M 95 k := fun k => by rw [hW, sU_ne (fun z => by omega)]
      have e95 : W 95 = M 95 := funext c95
      have c97 : ∀ k, W 97 k = M 97 k := fun k => by rw [hW, sU_ne (fun z => by omega)]
      have e97 : W 97 = M 97 := funext c97
      intro _
      obtain ⟨b1, b2, b3, b4, b5, b6, b7, b8⟩ := gx_xQL hI (by omega)
      rw [r4_360, r4_361, r4_362, r4_363, r4_364, r4_365, r4_366, r4_367, r4_369, r4_370, r4_371, r4_372, db3_c e95 e97, db3_c e95 e97, dws_c r93_0 e95 e97, dws_c r93_0 e95 e97, r93_0, c95]
      (try rw [h0])

      have hs : (1 * ρ 0 + (1 * ρ 3 + 0)).toNat = (M 4 362).toNat + 1 := by rw [h0]; omega
      rw [h0] at hs
      have hv : M 95 (M 4 362).toNat = ρ 5 := by rw [show (M 4 362).toNat = (ρ 4).toNat by omega]; omega
      have h2 : (dB3 M (M 4 360) (M 4 362).toNat).2.1 = M 4 370 := by rw [← b1]
      refine ⟨?_, by omega, b3, b4, b5, b6, b7, b8⟩
      rw [hs]
      show _ = (if M 95 (M 4 362).toNat ≤ M 4 360 ∧ (dB3 M (M 4 360) (M 4 362).toNat).2.1 < M 95 (M 4 362).toNat then (((M 4 362).toNat : Int), M 95 (M 4 362).toNat, M 97 (M 4 362).toNat) else dB3 M (M 4 360) (M 4 362).toNat)
      rw [h2, hv, if_neg (by omega)]
      exact b1
    have k_xQW : xQW W := by
      rw [hW]
      exact (uxQW rfl hI.2.2.2.2.2.2.2.2.2.2.2.2.2.2.2.2.2.2.2.2.2.2.2.2.2.2.2.2.2.2.2.2.2.2.2.2.2.2.2.2.2.2.2.2.2.2.2.2.2.1)
    have k_xQM : xQM W := by
      rw [hW]
      exact (uxQM rfl hI.2.2.2.2.2.2.2.2.2.2.2.2.2.2.2.2.2.2.2.2.2.2.2.2.2.2.2.2.2.2.2.2.2.2.2.2.2.2.2.2.2.2.2.2.2.2.2.2.2.2.1)
    have k_xQH : xQH W := by
      rw [hW]
      exact (uxQH rfl hI.2.2.2.2.2.2.2.2.2.2.2.2.2.2.2.2.2.2.2.2.2.2.2.2.2.2.2.2.2.2.2.2.2.2.2.2.2.2.2.2.2.2.2.2.2.2.2.2.2.2.2)
    have k_XC : XC W := ⟨k_xS1, k_xS2, k_xS3, k_xS4, k_xS5, k_xS6, k_xS7, k_xS8, k_xS9, k_xSA, k_xSG, k_xSF, k_xSB, k_xSC, k_xSD, k_xSE, k_xSW, k_xST, k_xSP, k_xSL, k_xSM, k_xSI, k_xD3, k_xDV, k_xDP, k_xDE, k_xQ5, k_xQL, k_xQW, k_xQM, k_xQH⟩
    have kXB : XB W := ⟨k_xN1, k_xN2, k_xN3, k_xN4, k_xN5, k_xN6, k_xH1, k_xK1, k_xC1, k_xRW, k_xWT, k_xCU, k_xG2, k_xG3, k_xG4, k_xG5, k_xG6, k_XC⟩
    exact ⟨base, k2, k3, kXA, kXB⟩
-- lEnd
def xr_650 : qRu := (5, [[(1, 1), (-1, 2)], [(-1, 1), (1, 2)]], [(4, 350, [(30, 0)]), (4, 362, [(1, 1)]), (93, 0, [(1, 2)]), (4, 369, [(1, 3)]), (4, 371, [(1, 4)])], [], [], [[(1, 3), (-1, 4)], [(-1, 3), (1, 4)]])
theorem xo_650 : qRok xr_650 := by
  intro ρ M h0 hf hm hI
  have f0 := hf [(1, 1), (-1, 2)] (by decide)
  have f1 := hf [(-1, 1), (1, 2)] (by decide)
  simp only [qD, h0] at f0 f1
  have m0 : M 4 350 = 30 * ρ 0 + 0 := hm (4, 350, [(30, 0)]) (by decide)
  have m1 : M 4 362 = 1 * ρ 1 + 0 := hm (4, 362, [(1, 1)]) (by decide)
  have m2 : M 93 0 = 1 * ρ 2 + 0 := hm (93, 0, [(1, 2)]) (by decide)
  have m3 : M 4 369 = 1 * ρ 3 + 0 := hm (4, 369, [(1, 3)]) (by decide)
  have m4 : M 4 371 = 1 * ρ 4 + 0 := hm (4, 371, [(1, 4)]) (by decide)
  simp only [h0] at m0
  obtain ⟨b1, b2, b3, b4, b5, b6, b7, b8⟩ := gx_xQL hI (by omega)

  rw [show (M 93 0).toNat = (M 4 362).toNat by omega, ← b1] at b3
  have b3 : M 4 369 = M 4 371 := b3
  refine ⟨ρ, fun _ _ => rfl, fun f h => ?_, ?_⟩
  · have h : f ∈ ([[(1, 3), (-1, 4)], [(-1, 3), (1, 4)]] : List qF) := h
    simp only [List.mem_cons, List.not_mem_nil, or_false] at h
    rcases h with rfl | rfl
    · show 0 ≤ 1 * ρ 3 + (-1 * ρ 4 + 0)
      (try rw [h0]); omega
    · show 0 ≤ -1 * ρ 3 + (1 * ρ 4 + 0)
      (try rw [h0]); omega
  · show sI M
    exact hI
-- lBw
def xr_651 : qRu := (6, [[(-1, 1), (1, 4)], [(1, 1), (-1, 4)], [(1, 1)]], [(4, 350, [(30, 0)]), (4, 361, [(1, 1)]), (4, 371, [(1, 2)]), (97, 1004, [(1, 5)])], [], [], [[(1, 2), (-1, 5)], [(-1, 2), (1, 5)]])
theorem xo_651 : qRok xr_651 := by
  intro ρ M h0 hf hm hI
  have f0 := hf [(-1, 1), (1, 4)] (by decide)
  have f1 := hf [(1, 1), (-1, 4)] (by decide)
  have f2 := hf [(1, 1)] (by decide)
  simp only [qD, h0] at f0 f1 f2
  have m0 : M 4 350 = 30 * ρ 0 + 0 := hm (4, 350, [(30, 0)]) (by decide)
  have m1 : M 4 361 = 1 * ρ 1 + 0 := hm (4, 361, [(1, 1)]) (by decide)
  have m2 : M 4 371 = 1 * ρ 2 + 0 := hm (4, 371, [(1, 2)]) (by decide)
  have m3 : M 97 (zIx ρ (1000 + 4)) = 1 * ρ 5 + 0 := hm (97, 1004, [(1, 5)]) (by decide)
  rw [zix_p] at m3
  simp only [h0] at m0
  obtain ⟨b1, b2, b3, b4, b5, b6, b7, b8⟩ := gx_xQL hI (by omega)

  have hb := db3_b M (M 4 360) (M 4 362).toNat
  rw [← b1] at hb
  have hb : ((M 4 361, M 4 370, M 4 371) = ((-1 : Int), (-1 : Int), (0 : Int))) ∨ (0 ≤ M 4 361 ∧ M 4 361 < ((M 4 362).toNat : Int) ∧ M 4 370 = M 95 (M 4 361).toNat ∧ M 4 371 = M 97 (M 4 361).toNat) := hb
  simp only [Prod.mk.injEq] at hb

  rcases hb with hb | hb
  · omega
  have hb4 := hb.2.2.2
  rw [show (M 4 361).toNat = (ρ 4).toNat by omega] at hb4
  refine ⟨ρ, fun _ _ => rfl, fun f h => ?_, ?_⟩
  · have h : f ∈ ([[(1, 2), (-1, 5)], [(-1, 2), (1, 5)]] : List qF) := h
    simp only [List.mem_cons, List.not_mem_nil, or_false] at h
    rcases h with rfl | rfl
    · show 0 ≤ 1 * ρ 2 + (-1 * ρ 5 + 0)
      (try rw [h0]); omega
    · show 0 ≤ -1 * ρ 2 + (1 * ρ 5 + 0)
      (try rw [h0]); omega
  · show sI M
    exact hI
-- lBx
def xr_652 : qRu := (6, [[(-1, 1), (1, 4)], [(1, 1), (-1, 4)], [(1, 1)]], [(4, 350, [(30, 0)]), (4, 361, [(1, 1)]), (4, 370, [(1, 2)]), (95, 1004, [(1, 5)])], [], [], [[(1, 2), (-1, 5)], [(-1, 2), (1, 5)]])
theorem xo_652 : qRok xr_652 := by
  intro ρ M h0 hf hm hI
  have f0 := hf [(-1, 1), (1, 4)] (by decide)
  have f1 := hf [(1, 1), (-1, 4)] (by decide)
  have f2 := hf [(1, 1)] (by decide)
  simp only [qD, h0] at f0 f1 f2
  have m0 : M 4 350 = 30 * ρ 0 + 0 := hm (4, 350, [(30, 0)]) (by decide)
  have m1 : M 4 361 = 1 * ρ 1 + 0 := hm (4, 361, [(1, 1)]) (by decide)
  have m2 : M 4 370 = 1 * ρ 2 + 0 := hm (4, 370, [(1, 2)]) (by decide)
  have m3 : M 95 (zIx ρ (1000 + 4)) = 1 * ρ 5 + 0 := hm (95, 1004, [(1, 5)]) (by decide)
  rw [zix_p] at m3
  simp only [h0] at m0
  obtain ⟨b1, b2, b3, b4, b5, b6, b7, b8⟩ := gx_xQL hI (by omega)

  have hb := db3_b M (M 4 360) (M 4 362).toNat
  rw [← b1] at hb
  have hb : ((M 4 361, M 4 370, M 4 371) = ((-1 : Int), (-1 : Int), (0 : Int))) ∨ (0 ≤ M 4 361 ∧ M 4 361 < ((M 4 362).toNat : Int) ∧ M 4 370 = M 95 (M 4 361).toNat ∧ M 4 371 = M 97 (M 4 361).toNat) := hb
  simp only [Prod.mk.injEq] at hb

  rcases hb with hb | hb
  · omega
  have hb4 := hb.2.2.1
  rw [show (M 4 361).toNat = (ρ 4).toNat by omega] at hb4
  refine ⟨ρ, fun _ _ => rfl, fun f h => ?_, ?_⟩
  · have h : f ∈ ([[(1, 2), (-1, 5)], [(-1, 2), (1, 5)]] : List qF) := h
    simp only [List.mem_cons, List.not_mem_nil, or_false] at h
    rcases h with rfl | rfl
    · show 0 ≤ 1 * ρ 2 + (-1 * ρ 5 + 0)
      (try rw [h0]); omega
    · show 0 ≤ -1 * ρ 2 + (1 * ρ 5 + 0)
      (try rw [h0]); omega
  · show sI M
    exact hI
-- lB0
def xr_653 : qRu := (4, [[(-1, 0), (-1, 1)]], [(4, 350, [(30, 0)]), (4, 361, [(1, 1)]), (4, 370, [(1, 2)]), (4, 371, [(1, 3)])], [], [], [[(1, 0), (1, 2)], [(-1, 0), (-1, 2)], [(1, 3)], [(-1, 3)]])
theorem xo_653 : qRok xr_653 := by
  intro ρ M h0 hf hm hI
  have f0 := hf [(-1, 0), (-1, 1)] (by decide)
  simp only [qD, h0] at f0
  have m0 : M 4 350 = 30 * ρ 0 + 0 := hm (4, 350, [(30, 0)]) (by decide)
  have m1 : M 4 361 = 1 * ρ 1 + 0 := hm (4, 361, [(1, 1)]) (by decide)
  have m2 : M 4 370 = 1 * ρ 2 + 0 := hm (4, 370, [(1, 2)]) (by decide)
  have m3 : M 4 371 = 1 * ρ 3 + 0 := hm (4, 371, [(1, 3)]) (by decide)
  simp only [h0] at m0
  obtain ⟨b1, b2, b3, b4, b5, b6, b7, b8⟩ := gx_xQL hI (by omega)

  have hb := db3_b M (M 4 360) (M 4 362).toNat
  rw [← b1] at hb
  have hb : ((M 4 361, M 4 370, M 4 371) = ((-1 : Int), (-1 : Int), (0 : Int))) ∨ (0 ≤ M 4 361 ∧ M 4 361 < ((M 4 362).toNat : Int) ∧ M 4 370 = M 95 (M 4 361).toNat ∧ M 4 371 = M 97 (M 4 361).toNat) := hb
  simp only [Prod.mk.injEq] at hb

  have hc : M 4 370 = -1 ∧ M 4 371 = 0 := by
    rcases hb with hb | hb
    · exact hb.2
    · omega
  refine ⟨ρ, fun _ _ => rfl, fun f h => ?_, ?_⟩
  · have h : f ∈ ([[(1, 0), (1, 2)], [(-1, 0), (-1, 2)], [(1, 3)], [(-1, 3)]] : List qF) := h
    simp only [List.mem_cons, List.not_mem_nil, or_false] at h
    rcases h with rfl | rfl | rfl | rfl
    · show 0 ≤ 1 * ρ 0 + (1 * ρ 2 + 0)
      (try rw [h0]); omega
    · show 0 ≤ -1 * ρ 0 + (-1 * ρ 2 + 0)
      (try rw [h0]); omega
    · show 0 ≤ 1 * ρ 3 + 0
      (try rw [h0]); omega
    · show 0 ≤ -1 * ρ 3 + 0
      (try rw [h0]); omega
  · show sI M
    exact hI
-- lStep
def xr_654 : qRu := (6, [[(7, 0), (1, 1), (-1, 2), (7, 3)], [(-7, 0), (-1, 1), (1, 2), (-7, 3)]], [(4, 350, [(30, 0)]), (4, 360, [(1, 1)]), (4, 365, [(1, 2)]), (4, 363, [(1, 3)]), (4, 369, [(1, 4)]), (4, 364, [(1, 5)])], [], [(4, 363, [(1, 0), (1, 3)]), (4, 364, [(1, 4), (1, 5)])], [])
theorem xo_654 : qRok xr_654 := by
  intro ρ M h0 hf hm hI
  have f0 := hf [(7, 0), (1, 1), (-1, 2), (7, 3)] (by decide)
  have f1 := hf [(-7, 0), (-1, 1), (1, 2), (-7, 3)] (by decide)
  simp only [qD, h0] at f0 f1
  have m0 : M 4 350 = 30 * ρ 0 + 0 := hm (4, 350, [(30, 0)]) (by decide)
  have m1 : M 4 360 = 1 * ρ 1 + 0 := hm (4, 360, [(1, 1)]) (by decide)
  have m2 : M 4 365 = 1 * ρ 2 + 0 := hm (4, 365, [(1, 2)]) (by decide)
  have m3 : M 4 363 = 1 * ρ 3 + 0 := hm (4, 363, [(1, 3)]) (by decide)
  have m4 : M 4 369 = 1 * ρ 4 + 0 := hm (4, 369, [(1, 4)]) (by decide)
  have m5 : M 4 364 = 1 * ρ 5 + 0 := hm (4, 364, [(1, 5)]) (by decide)
  simp only [h0] at m0
  have qxQL := hI.2.2.2.2.2.2.2.2.2.2.2.2.2.2.2.2.2.2.2.2.2.2.2.2.2.2.2.2.2.2.2.2.2.2.2.2.2.2.2.2.2.2.2.2.2.2.2.2.1
  refine ⟨ρ, fun _ _ => rfl, fun f h => ?_, ?_⟩
  · exact nomatch h
  · show sI (sU (sU M 4 363 (1 * ρ 0 + (1 * ρ 3 + 0))) 4 364 (1 * ρ 4 + (1 * ρ 5 + 0)))
    obtain ⟨W, hW⟩ : ∃ W, W = (sU (sU M 4 363 (1 * ρ 0 + (1 * ρ 3 + 0))) 4 364 (1 * ρ 4 + (1 * ρ 5 + 0))) := ⟨_, rfl⟩
    rw [← hW]
    have base : sI0 W := by
      rw [hW]
      exact (si_u0 (si_u0 hI.1 (fun r hr => by cases hr)) (fun r hr => by cases hr))
    have k2 : XI2 W := by
      rw [hW]
      exact (xi2_u rfl (xi2_u rfl hI.2.1))
    have k3 : XI3 W := by
      rw [hW]
      exact (xi3_u rfl (xi3_u rfl hI.2.2.1))
    have kXA : XA W := by
      rw [hW]
      exact (uXA rfl (uXA rfl hI.2.2.2.1))
    have k_xN1 : xN1 W := by
      rw [hW]
      exact (uxN1 rfl (uxN1 rfl hI.2.2.2.2.1))
    have k_xN2 : xN2 W := by
      rw [hW]
      exact (uxN2 rfl (uxN2 rfl hI.2.2.2.2.2.1))
    have k_xN3 : xN3 W := by
      rw [hW]
      exact (uxN3 rfl (uxN3 rfl hI.2.2.2.2.2.2.1))
    have k_xN4 : xN4 W := by
      rw [hW]
      exact (uxN4 rfl (uxN4 rfl hI.2.2.2.2.2.2.2.1))
    have k_xN5 : xN5 W := by
      rw [hW]
      exact (uxN5 rfl (uxN5 rfl hI.2.2.2.2.2.2.2.2.1))
    have k_xN6 : xN6 W := by
      rw [hW]
      exact (uxN6 rfl (uxN6 rfl hI.2.2.2.2.2.2.2.2.2.1))
    have k_xH1 : xH1 W := by
      rw [hW]
      exact (uxH1 rfl (uxH1 rfl hI.2.2.2.2.2.2.2.2.2.2.1))
    have k_xK1 : xK1 W := by
      rw [hW]
      exact (uxK1 rfl (uxK1 rfl hI.2.2.2.2.2.2.2.2.2.2.2.1))
    have k_xC1 : xC1 W := by
      rw [hW]
      exact (uxC1 rfl (uxC1 rfl hI.2.2.2.2.2.2.2.2.2.2.2.2.1))
    have k_xRW : xRW W := by
      rw [hW]
      exact (uxRW rfl (uxRW rfl hI.2.2.2.2.2.2.2.2.2.2.2.2.2.1))
    have k_xWT : xWT W := by
      rw [hW]
      exact (uxWT rfl (uxWT rfl hI.2.2.2.2.2.2.2.2.2.2.2.2.2.2.1))
    have k_xCU : xCU W := by
      rw [hW]
      exact (uxCU rfl (uxCU rfl hI.2.2.2.2.2.2.2.2.2.2.2.2.2.2.2.1))
    have k_xG2 : xG2 W := by
      rw [hW]
      exact (uxG2 rfl (uxG2 rfl hI.2.2.2.2.2.2.2.2.2.2.2.2.2.2.2.2.1))
    have k_xG3 : xG3 W := by
      rw [hW]
      exact (uxG3 rfl (uxG3 rfl hI.2.2.2.2.2.2.2.2.2.2.2.2.2.2.2.2.2.1))
    have k_xG4 : xG4 W := by
      rw [hW]
      exact (uxG4 rfl (uxG4 rfl hI.2.2.2.2.2.2.2.2.2.2.2.2.2.2.2.2.2.2.1))
    have k_xG5 : xG5 W := by
      rw [hW]
      exact (uxG5 rfl (uxG5 rfl hI.2.2.2.2.2.2.2.2.2.2.2.2.2.2.2.2.2.2.2.1))
    have k_xG6 : xG6 W := by
      rw [hW]
      exact (uxG6 rfl (uxG6 rfl hI.2.2.2.2.2.2.2.2.2.2.2.2.2.2.2.2.2.2.2.2.1))
    have k_xS1 : xS1 W := by
      rw [hW]
      exact (uxS1 rfl (uxS1 rfl hI.2.2.2.2.2.2.2.2.2.2.2.2.2.2.2.2.2.2.2.2.2.1))
    have k_xS2 : xS2 W := by
      rw [hW]
      exact (uxS2 rfl (uxS2 rfl hI.2.2.2.2.2.2.2.2.2.2.2.2.2.2.2.2.2.2.2.2.2.2.1))
    have k_xS3 : xS3 W := by
      rw [hW]
      exact (uxS3 rfl (uxS3 rfl hI.2.2.2.2.2.2.2.2.2.2.2.2.2.2.2.2.2.2.2.2.2.2.2.1))
    have k_xS4 : xS4 W := by
      rw [hW]
      exact (uxS4 rfl (uxS4 rfl hI.2.2.2.2.2.2.2.2.2.2.2.2.2.2.2.2.2.2.2.2.2.2.2.2.1))
    have k_xS5 : xS5 W := by
      rw [hW]
      exact (uxS5 rfl (uxS5 rfl hI.2.2.2.2.2.2.2.2.2.2.2.2.2.2.2.2.2.2.2.2.2.2.2.2.2.1))
    have k_xS6 : xS6 W := by
      rw [hW]
      exact (uxS6 rfl (uxS6 rfl hI.2.2.2.2.2.2.2.2.2.2.2.2.2.2.2.2.2.2.2.2.2.2.2.2.2.2.1))
    have k_xS7 : xS7 W := by
      rw [hW]
      exact (uxS7 rfl (uxS7 rfl hI.2.2.2.2.2.2.2.2.2.2.2.2.2.2.2.2.2.2.2.2.2.2.2.2.2.2.2.1))
    have k_xS8 : xS8 W := by
      rw [hW]
      exact (uxS8 rfl (uxS8 rfl hI.2.2.2.2.2.2.2.2.2.2.2.2.2.2.2.2.2.2.2.2.2.2.2.2.2.2.2.2.1))
    have k_xS9 : xS9 W := by
      rw [hW]
      exact (uxS9 rfl (uxS9 rfl hI.2.2.2.2.2.2.2.2.2.2.2.2.2.2.2.2.2.2.2.2.2.2.2.2.2.2.2.2.2.1))
    have k_xSA : xSA W := by
      rw [hW]
      exact (uxSA rfl (uxSA rfl hI.2.2.2.2.2.2.2.2.2.2.2.2.2.2.2.2.2.2.2.2.2.2.2.2.2.2.2.2.2.2.1))
    have k_xSG : xSG W := by
      rw [hW]
      exact (uxSG rfl (uxSG rfl hI.2.2.2.2.2.2.2.2.2.2.2.2.2.2.2.2.2.2.2.2.2.2.2.2.2.2.2.2.2.2.2.1))
    have k_xSF : xSF W := by
      rw [hW]
      exact (uxSF rfl (uxSF rfl hI.2.2.2.2.2.2.2.2.2.2.2.2.2.2.2.2.2.2.2.2.2.2.2.2.2.2.2.2.2.2.2.2.1))
    have k_xSB : xSB W := by
      rw [hW]
      exact (uxSB rfl (uxSB rfl hI.2.2.2.2.2.2.2.2.2.2.2.2.2.2.2.2.2.2.2.2.2.2.2.2.2.2.2.2.2.2.2.2.2.1))
    have k_xSC : xSC W := by
      rw [hW]
      exact (uxSC rfl (uxSC rfl hI.2.2.2.2.2.2.2.2.2.2.2.2.2.2.2.2.2.2.2.2.2.2.2.2.2.2.2.2.2.2.2.2.2.2.1))
    have k_xSD : xSD W := by
      rw [hW]
      exact (uxSD rfl (uxSD rfl hI.2.2.2.2.2.2.2.2.2.2.2.2.2.2.2.2.2.2.2.2.2.2.2.2.2.2.2.2.2.2.2.2.2.2.2.1))
    have k_xSE : xSE W := by
      rw [hW]
      exact (uxSE rfl (uxSE rfl hI.2.2.2.2.2.2.2.2.2.2.2.2.2.2.2.2.2.2.2.2.2.2.2.2.2.2.2.2.2.2.2.2.2.2.2.2.1))
    have k_xSW : xSW W := by
      rw [hW]
      exact (uxSW rfl (uxSW rfl hI.2.2.2.2.2.2.2.2.2.2.2.2.2.2.2.2.2.2.2.2.2.2.2.2.2.2.2.2.2.2.2.2.2.2.2.2.2.1))
    have k_xST : xST W := by
      rw [hW]
      exact (uxST rfl (uxST rfl hI.2.2.2.2.2.2.2.2.2.2.2.2.2.2.2.2.2.2.2.2.2.2.2.2.2.2.2.2.2.2.2.2.2.2.2.2.2.2.1))
    have k_xSP : xSP W := by
      rw [hW]
      exact (uxSP rfl (uxSP rfl hI.2.2.2.2.2.2.2.2.2.2.2.2.2.2.2.2.2.2.2.2.2.2.2.2.2.2.2.2.2.2.2.2.2.2.2.2.2.2.2.1))
    have k_xSL : xSL W := by
      rw [hW]
      exact (uxSL rfl (uxSL rfl hI.2.2.2.2.2.2.2.2.2.2.2.2.2.2.2.2.2.2.2.2.2.2.2.2.2.2.2.2.2.2.2.2.2.2.2.2.2.2.2.2.1))
    have k_xSM : xSM W := by
      rw [hW]
      exact (uxSM rfl (uxSM rfl hI.2.2.2.2.2.2.2.2.2.2.2.2.2.2.2.2.2.2.2.2.2.2.2.2.2.2.2.2.2.2.2.2.2.2.2.2.2.2.2.2.2.1))
    have k_xSI : xSI W := by
      rw [hW]
      exact (uxSI rfl (uxSI rfl hI.2.2.2.2.2.2.2.2.2.2.2.2.2.2.2.2.2.2.2.2.2.2.2.2.2.2.2.2.2.2.2.2.2.2.2.2.2.2.2.2.2.2.1))
    have k_xD3 : xD3 W := by
      rw [hW]
      exact (uxD3 rfl (uxD3 rfl hI.2.2.2.2.2.2.2.2.2.2.2.2.2.2.2.2.2.2.2.2.2.2.2.2.2.2.2.2.2.2.2.2.2.2.2.2.2.2.2.2.2.2.2.1))
    have k_xDV : xDV W := by
      rw [hW]
      exact (uxDV rfl (uxDV rfl hI.2.2.2.2.2.2.2.2.2.2.2.2.2.2.2.2.2.2.2.2.2.2.2.2.2.2.2.2.2.2.2.2.2.2.2.2.2.2.2.2.2.2.2.2.1))
    have k_xDP : xDP W := by
      rw [hW]
      exact (uxDP rfl (uxDP rfl hI.2.2.2.2.2.2.2.2.2.2.2.2.2.2.2.2.2.2.2.2.2.2.2.2.2.2.2.2.2.2.2.2.2.2.2.2.2.2.2.2.2.2.2.2.2.1))
    have k_xDE : xDE W := by
      rw [hW]
      exact (uxDE rfl (uxDE rfl hI.2.2.2.2.2.2.2.2.2.2.2.2.2.2.2.2.2.2.2.2.2.2.2.2.2.2.2.2.2.2.2.2.2.2.2.2.2.2.2.2.2.2.2.2.2.2.1))
    have k_xQ5 : xQ5 W := by
      rw [hW]
      exact (uxQ5 rfl (uxQ5 rfl hI.2.2.2.2.2.2.2.2.2.2.2.2.2.2.2.2.2.2.2.2.2.2.2.2.2.2.2.2.2.2.2.2.2.2.2.2.2.2.2.2.2.2.2.2.2.2.2.1))
    have k_xQL : xQL W := by
      have r4_350 : W 4 350 = M 4 350 := by rw [hW, sU_ne (fun z => by omega), sU_ne (fun z => by omega)]
      have r4_360 : W 4 360 = M 4 360 := by rw [hW, sU_ne (fun z => by omega), sU_ne (fun z => by omega)]
      have r4_361 : W 4 361 = M 4 361 := by rw [hW, sU_ne (fun z => by omega), sU_ne (fun z => by omega)]
      have r4_362 : W 4 362 = M 4 362 := by rw [hW, sU_ne (fun z => by omega), sU_ne (fun z => by omega)]
      have r4_363 : W 4 363 = 1 * ρ 0 + (1 * ρ 3 + 0) := by rw [hW, sU_ne (fun z => by omega), sU_at]
      have r4_364 : W 4 364 = 1 * ρ 4 + (1 * ρ 5 + 0) := by rw [hW, sU_at]
      have r4_365 : W 4 365 = M 4 365 := by rw [hW, sU_ne (fun z => by omega), sU_ne (fun z => by omega)]
      have r4_366 : W 4 366 = M 4 366 := by rw [hW, sU_ne (fun z => by omega), sU_ne (fun z => by omega)]
      have r4_367 : W 4 367 = M 4 367 := by rw [hW, sU_ne (fun z => by omega), sU_ne (fun z => by omega)]
      have r4_369 : W 4 369 = M 4 369 := by rw [hW, sU_ne (fun z => by omega), sU_ne (fun z => by omega)]
      have r4_370 : W 4 370 = M 4 370 := by rw [hW, sU_ne (fun z => by omega), sU_ne (fun z => by omega)]
      have r4_371 : W 4 371 = M 4 371 := by rw [hW, sU_ne (fun z => by omega), sU_ne (fun z => by omega)]
      have r4_372 : W 4 372 = M 4 372 := by rw [hW, sU_ne (fun z => by omega), sU_ne (fun z => by omega)]
      have r93_0 : W 93 0 = M 93 0 := by rw [hW, sU_ne (fun z => by omega), sU_ne (fun z => by omega)]
      have c95 : ∀ k, W 95 k = M 95 k := fun k => by rw [hW, sU_ne (fun z => by omega), sU_ne (fun z => by omega)]
      have e95 : W 95 = M 95 := funext c95
      have c97 : ∀ k, W 97 k = M 97 k := fun k => by rw [hW, sU_ne (fun z => by omega), sU_ne (fun z => by omega)]
      have e97 : W 97 = M 97 := funext c97
      intro _
      obtain ⟨b1, b2, b3, b4, b5, b6, b7, b8⟩ := gx_xQL hI (by omega)
      rw [r4_360, r4_361, r4_362, r4_363, r4_364, r4_365, r4_366, r4_367, r4_369, r4_370, r4_371, r4_372, db3_c e95 e97, db3_c e95 e97, dws_c r93_0 e95 e97, dws_c r93_0 e95 e97, r93_0, c95]
      (try rw [h0])

      have hs : (1 * ρ 0 + (1 * ρ 3 + 0)).toNat = (M 4 363).toNat + 1 := by rw [h0]; omega
      rw [h0] at hs
      refine ⟨b1, b2, b3, by omega, ?_, b6, b7, b8⟩
      rw [hs]
      show _ = dWs M (M 4 365) (M 4 363).toNat + (dB3 M (M 4 365 - 7 * (((M 4 363).toNat : Int) + 1)) (M 93 0).toNat).2.2
      rw [← b5, show M 4 365 - 7 * (((M 4 363).toNat : Int) + 1) = M 4 360 by omega, ← b3]
      omega
    have k_xQW : xQW W := by
      rw [hW]
      exact (uxQW rfl (uxQW rfl hI.2.2.2.2.2.2.2.2.2.2.2.2.2.2.2.2.2.2.2.2.2.2.2.2.2.2.2.2.2.2.2.2.2.2.2.2.2.2.2.2.2.2.2.2.2.2.2.2.2.1))
    have k_xQM : xQM W := by
      rw [hW]
      exact (uxQM rfl (uxQM rfl hI.2.2.2.2.2.2.2.2.2.2.2.2.2.2.2.2.2.2.2.2.2.2.2.2.2.2.2.2.2.2.2.2.2.2.2.2.2.2.2.2.2.2.2.2.2.2.2.2.2.2.1))
    have k_xQH : xQH W := by
      rw [hW]
      exact (uxQH rfl (uxQH rfl hI.2.2.2.2.2.2.2.2.2.2.2.2.2.2.2.2.2.2.2.2.2.2.2.2.2.2.2.2.2.2.2.2.2.2.2.2.2.2.2.2.2.2.2.2.2.2.2.2.2.2.2))
    have k_XC : XC W := ⟨k_xS1, k_xS2, k_xS3, k_xS4, k_xS5, k_xS6, k_xS7, k_xS8, k_xS9, k_xSA, k_xSG, k_xSF, k_xSB, k_xSC, k_xSD, k_xSE, k_xSW, k_xST, k_xSP, k_xSL, k_xSM, k_xSI, k_xD3, k_xDV, k_xDP, k_xDE, k_xQ5, k_xQL, k_xQW, k_xQM, k_xQH⟩
    have kXB : XB W := ⟨k_xN1, k_xN2, k_xN3, k_xN4, k_xN5, k_xN6, k_xH1, k_xK1, k_xC1, k_xRW, k_xWT, k_xCU, k_xG2, k_xG3, k_xG4, k_xG5, k_xG6, k_XC⟩
    exact ⟨base, k2, k3, kXA, kXB⟩
-- lFin
def xr_655 : qRu := (3, [], [(4, 350, [(30, 0)]), (4, 363, [(1, 1)]), (4, 364, [(1, 2)])], [], [(4, 367, [(1, 1)]), (4, 366, [(1, 2)])], [])
theorem xo_655 : qRok xr_655 := by
  intro ρ M h0 hf hm hI
  have m0 : M 4 350 = 30 * ρ 0 + 0 := hm (4, 350, [(30, 0)]) (by decide)
  have m1 : M 4 363 = 1 * ρ 1 + 0 := hm (4, 363, [(1, 1)]) (by decide)
  have m2 : M 4 364 = 1 * ρ 2 + 0 := hm (4, 364, [(1, 2)]) (by decide)
  simp only [h0] at m0
  have qxQL := hI.2.2.2.2.2.2.2.2.2.2.2.2.2.2.2.2.2.2.2.2.2.2.2.2.2.2.2.2.2.2.2.2.2.2.2.2.2.2.2.2.2.2.2.2.2.2.2.2.1
  refine ⟨ρ, fun _ _ => rfl, fun f h => ?_, ?_⟩
  · exact nomatch h
  · show sI (sU (sU M 4 367 (1 * ρ 1 + 0)) 4 366 (1 * ρ 2 + 0))
    obtain ⟨W, hW⟩ : ∃ W, W = (sU (sU M 4 367 (1 * ρ 1 + 0)) 4 366 (1 * ρ 2 + 0)) := ⟨_, rfl⟩
    rw [← hW]
    have base : sI0 W := by
      rw [hW]
      exact (si_u0 (si_u0 hI.1 (fun r hr => by cases hr)) (fun r hr => by cases hr))
    have k2 : XI2 W := by
      rw [hW]
      exact (xi2_u rfl (xi2_u rfl hI.2.1))
    have k3 : XI3 W := by
      rw [hW]
      exact (xi3_u rfl (xi3_u rfl hI.2.2.1))
    have kXA : XA W := by
      rw [hW]
      exact (uXA rfl (uXA rfl hI.2.2.2.1))
    have k_xN1 : xN1 W := by
      rw [hW]
      exact (uxN1 rfl (uxN1 rfl hI.2.2.2.2.1))
    have k_xN2 : xN2 W := by
      rw [hW]
      exact (uxN2 rfl (uxN2 rfl hI.2.2.2.2.2.1))
    have k_xN3 : xN3 W := by
      rw [hW]
      exact (uxN3 rfl (uxN3 rfl hI.2.2.2.2.2.2.1))
    have k_xN4 : xN4 W := by
      rw [hW]
      exact (uxN4 rfl (uxN4 rfl hI.2.2.2.2.2.2.2.1))
    have k_xN5 : xN5 W := by
      rw [hW]
      exact (uxN5 rfl (uxN5 rfl hI.2.2.2.2.2.2.2.2.1))
    have k_xN6 : xN6 W := by
      rw [hW]
      exact (uxN6 rfl (uxN6 rfl hI.2.2.2.2.2.2.2.2.2.1))
    have k_xH1 : xH1 W := by
      rw [hW]
      exact (uxH1 rfl (uxH1 rfl hI.2.2.2.2.2.2.2.2.2.2.1))
    have k_xK1 : xK1 W := by
      rw [hW]
      exact (uxK1 rfl (uxK1 rfl hI.2.2.2.2.2.2.2.2.2.2.2.1))
    have k_xC1 : xC1 W := by
      rw [hW]
      exact (uxC1 rfl (uxC1 rfl hI.2.2.2.2.2.2.2.2.2.2.2.2.1))
    have k_xRW : xRW W := by
      rw [hW]
      exact (uxRW rfl (uxRW rfl hI.2.2.2.2.2.2.2.2.2.2.2.2.2.1))
    have k_xWT : xWT W := by
      rw [hW]
      exact (uxWT rfl (uxWT rfl hI.2.2.2.2.2.2.2.2.2.2.2.2.2.2.1))
    have k_xCU : xCU W := by
      rw [hW]
      exact (uxCU rfl (uxCU rfl hI.2.2.2.2.2.2.2.2.2.2.2.2.2.2.2.1))
    have k_xG2 : xG2 W := by
      rw [hW]
      exact (uxG2 rfl (uxG2 rfl hI.2.2.2.2.2.2.2.2.2.2.2.2.2.2.2.2.1))
    have k_xG3 : xG3 W := by
      rw [hW]
      exact (uxG3 rfl (uxG3 rfl hI.2.2.2.2.2.2.2.2.2.2.2.2.2.2.2.2.2.1))
    have k_xG4 : xG4 W := by
      rw [hW]
      exact (uxG4 rfl (uxG4 rfl hI.2.2.2.2.2.2.2.2.2.2.2.2.2.2.2.2.2.2.1))
    have k_xG5 : xG5 W := by
      rw [hW]
      exact (uxG5 rfl (uxG5 rfl hI.2.2.2.2.2.2.2.2.2.2.2.2.2.2.2.2.2.2.2.1))
    have k_xG6 : xG6 W := by
      rw [hW]
      exact (uxG6 rfl (uxG6 rfl hI.2.2.2.2.2.2.2.2.2.2.2.2.2.2.2.2.2.2.2.2.1))
    have k_xS1 : xS1 W := by
      rw [hW]
      exact (uxS1 rfl (uxS1 rfl hI.2.2.2.2.2.2.2.2.2.2.2.2.2.2.2.2.2.2.2.2.2.1))
    have k_xS2 : xS2 W := by
      rw [hW]
      exact (uxS2 rfl (uxS2 rfl hI.2.2.2.2.2.2.2.2.2.2.2.2.2.2.2.2.2.2.2.2.2.2.1))
    have k_xS3 : xS3 W := by
      rw [hW]
      exact (uxS3 rfl (uxS3 rfl hI.2.2.2.2.2.2.2.2.2.2.2.2.2.2.2.2.2.2.2.2.2.2.2.1))
    have k_xS4 : xS4 W := by
      rw [hW]
      exact (uxS4 rfl (uxS4 rfl hI.2.2.2.2.2.2.2.2.2.2.2.2.2.2.2.2.2.2.2.2.2.2.2.2.1))
    have k_xS5 : xS5 W := by
      rw [hW]
      exact (uxS5 rfl (uxS5 rfl hI.2.2.2.2.2.2.2.2.2.2.2.2.2.2.2.2.2.2.2.2.2.2.2.2.2.1))
    have k_xS6 : xS6 W := by
      rw [hW]
      exact (uxS6 rfl (uxS6 rfl hI.2.2.2.2.2.2.2.2.2.2.2.2.2.2.2.2.2.2.2.2.2.2.2.2.2.2.1))
    have k_xS7 : xS7 W := by
      rw [hW]
      exact (uxS7 rfl (uxS7 rfl hI.2.2.2.2.2.2.2.2.2.2.2.2.2.2.2.2.2.2.2.2.2.2.2.2.2.2.2.1))
    have k_xS8 : xS8 W := by
      rw [hW]
      exact (uxS8 rfl (uxS8 rfl hI.2.2.2.2.2.2.2.2.2.2.2.2.2.2.2.2.2.2.2.2.2.2.2.2.2.2.2.2.1))
    have k_xS9 : xS9 W := by
      rw [hW]
      exact (uxS9 rfl (uxS9 rfl hI.2.2.2.2.2.2.2.2.2.2.2.2.2.2.2.2.2.2.2.2.2.2.2.2.2.2.2.2.2.1))
    have k_xSA : xSA W := by
      rw [hW]
      exact (uxSA rfl (uxSA rfl hI.2.2.2.2.2.2.2.2.2.2.2.2.2.2.2.2.2.2.2.2.2.2.2.2.2.2.2.2.2.2.1))
    have k_xSG : xSG W := by
      rw [hW]
      exact (uxSG rfl (uxSG rfl hI.2.2.2.2.2.2.2.2.2.2.2.2.2.2.2.2.2.2.2.2.2.2.2.2.2.2.2.2.2.2.2.1))
    have k_xSF : xSF W := by
      rw [hW]
      exact (uxSF rfl (uxSF rfl hI.2.2.2.2.2.2.2.2.2.2.2.2.2.2.2.2.2.2.2.2.2.2.2.2.2.2.2.2.2.2.2.2.1))
    have k_xSB : xSB W := by
      rw [hW]
      exact (uxSB rfl (uxSB rfl hI.2.2.2.2.2.2.2.2.2.2.2.2.2.2.2.2.2.2.2.2.2.2.2.2.2.2.2.2.2.2.2.2.2.1))
    have k_xSC : xSC W := by
      rw [hW]
      exact (uxSC rfl (uxSC rfl hI.2.2.2.2.2.2.2.2.2.2.2.2.2.2.2.2.2.2.2.2.2.2.2.2.2.2.2.2.2.2.2.2.2.2.1))
    have k_xSD : xSD W := by
      rw [hW]
      exact (uxSD rfl (uxSD rfl hI.2.2.2.2.2.2.2.2.2.2.2.2.2.2.2.2.2.2.2.2.2.2.2.2.2.2.2.2.2.2.2.2.2.2.2.1))
    have k_xSE : xSE W := by
      rw [hW]
      exact (uxSE rfl (uxSE rfl hI.2.2.2.2.2.2.2.2.2.2.2.2.2.2.2.2.2.2.2.2.2.2.2.2.2.2.2.2.2.2.2.2.2.2.2.2.1))
    have k_xSW : xSW W := by
      rw [hW]
      exact (uxSW rfl (uxSW rfl hI.2.2.2.2.2.2.2.2.2.2.2.2.2.2.2.2.2.2.2.2.2.2.2.2.2.2.2.2.2.2.2.2.2.2.2.2.2.1))
    have k_xST : xST W := by
      rw [hW]
      exact (uxST rfl (uxST rfl hI.2.2.2.2.2.2.2.2.2.2.2.2.2.2.2.2.2.2.2.2.2.2.2.2.2.2.2.2.2.2.2.2.2.2.2.2.2.2.1))
    have k_xSP : xSP W := by
      rw [hW]
      exact (uxSP rfl (uxSP rfl hI.2.2.2.2.2.2.2.2.2.2.2.2.2.2.2.2.2.2.2.2.2.2.2.2.2.2.2.2.2.2.2.2.2.2.2.2.2.2.2.1))
    have k_xSL : xSL W := by
      rw [hW]
      exact (uxSL rfl (uxSL rfl hI.2.2.2.2.2.2.2.2.2.2.2.2.2.2.2.2.2.2.2.2.2.2.2.2.2.2.2.2.2.2.2.2.2.2.2.2.2.2.2.2.1))
    have k_xSM : xSM W := by
      rw [hW]
      exact (uxSM rfl (uxSM rfl hI.2.2.2.2.2.2.2.2.2.2.2.2.2.2.2.2.2.2.2.2.2.2.2.2.2.2.2.2.2.2.2.2.2.2.2.2.2.2.2.2.2.1))
    have k_xSI : xSI W := by
      rw [hW]
      exact (uxSI rfl (uxSI rfl hI.2.2.2.2.2.2.2.2.2.2.2.2.2.2.2.2.2.2.2.2.2.2.2.2.2.2.2.2.2.2.2.2.2.2.2.2.2.2.2.2.2.2.1))
    have k_xD3 : xD3 W := by
      rw [hW]
      exact (uxD3 rfl (uxD3 rfl hI.2.2.2.2.2.2.2.2.2.2.2.2.2.2.2.2.2.2.2.2.2.2.2.2.2.2.2.2.2.2.2.2.2.2.2.2.2.2.2.2.2.2.2.1))
    have k_xDV : xDV W := by
      rw [hW]
      exact (uxDV rfl (uxDV rfl hI.2.2.2.2.2.2.2.2.2.2.2.2.2.2.2.2.2.2.2.2.2.2.2.2.2.2.2.2.2.2.2.2.2.2.2.2.2.2.2.2.2.2.2.2.1))
    have k_xDP : xDP W := by
      rw [hW]
      exact (uxDP rfl (uxDP rfl hI.2.2.2.2.2.2.2.2.2.2.2.2.2.2.2.2.2.2.2.2.2.2.2.2.2.2.2.2.2.2.2.2.2.2.2.2.2.2.2.2.2.2.2.2.2.1))
    have k_xDE : xDE W := by
      rw [hW]
      exact (uxDE rfl (uxDE rfl hI.2.2.2.2.2.2.2.2.2.2.2.2.2.2.2.2.2.2.2.2.2.2.2.2.2.2.2.2.2.2.2.2.2.2.2.2.2.2.2.2.2.2.2.2.2.2.1))
    have k_xQ5 : xQ5 W := by
      rw [hW]
      exact (uxQ5 rfl (uxQ5 rfl hI.2.2.2.2.2.2.2.2.2.2.2.2.2.2.2.2.2.2.2.2.2.2.2.2.2.2.2.2.2.2.2.2.2.2.2.2.2.2.2.2.2.2.2.2.2.2.2.1))
    have k_xQL : xQL W := by
      have r4_350 : W 4 350 = M 4 350 := by rw [hW, sU_ne (fun z => by omega), sU_ne (fun z => by omega)]
      have r4_360 : W 4 360 = M 4 360 := by rw [hW, sU_ne (fun z => by omega), sU_ne (fun z => by omega)]
      have r4_361 : W 4 361 = M 4 361 := by rw [hW, sU_ne (fun z => by omega), sU_ne (fun z => by omega)]
      have r4_362 : W 4 362 = M 4 362 := by rw [hW, sU_ne (fun z => by omega), sU_ne (fun z => by omega)]
      have r4_363 : W 4 363 = M 4 363 := by rw [hW, sU_ne (fun z => by omega), sU_ne (fun z => by omega)]
      have r4_364 : W 4 364 = M 4 364 := by rw [hW, sU_ne (fun z => by omega), sU_ne (fun z => by omega)]
      have r4_365 : W 4 365 = M 4 365 := by rw [hW, sU_ne (fun z => by omega), sU_ne (fun z => by omega)]
      have r4_366 : W 4 366 = 1 * ρ 2 + 0 := by rw [hW, sU_at]
      have r4_367 : W 4 367 = 1 * ρ 1 + 0 := by rw [hW, sU_ne (fun z => by omega), sU_at]
      have r4_369 : W 4 369 = M 4 369 := by rw [hW, sU_ne (fun z => by omega), sU_ne (fun z => by omega)]
      have r4_370 : W 4 370 = M 4 370 := by rw [hW, sU_ne (fun z => by omega), sU_ne (fun z => by omega)]
      have r4_371 : W 4 371 = M 4 371 := by rw [hW, sU_ne (fun z => by omega), sU_ne (fun z => by omega)]
      have r4_372 : W 4 372 = M 4 372 := by rw [hW, sU_ne (fun z => by omega), sU_ne (fun z => by omega)]
      have r93_0 : W 93 0 = M 93 0 := by rw [hW, sU_ne (fun z => by omega), sU_ne (fun z => by omega)]
      have c95 : ∀ k, W 95 k = M 95 k := fun k => by rw [hW, sU_ne (fun z => by omega), sU_ne (fun z => by omega)]
      have e95 : W 95 = M 95 := funext c95
      have c97 : ∀ k, W 97 k = M 97 k := fun k => by rw [hW, sU_ne (fun z => by omega), sU_ne (fun z => by omega)]
      have e97 : W 97 = M 97 := funext c97
      intro _
      obtain ⟨b1, b2, b3, b4, b5, b6, b7, b8⟩ := gx_xQL hI (by omega)
      rw [r4_360, r4_361, r4_362, r4_363, r4_364, r4_365, r4_366, r4_367, r4_369, r4_370, r4_371, r4_372, db3_c e95 e97, db3_c e95 e97, dws_c r93_0 e95 e97, dws_c r93_0 e95 e97, r93_0, c95]
      (try rw [h0])

      rw [show (1 * ρ 1 + 0 : Int) = M 4 363 by omega, show (1 * ρ 2 + 0 : Int) = M 4 364 by omega]
      exact ⟨b1, b2, b3, b4, b5, b4, b5, b8⟩
    have k_xQW : xQW W := by
      rw [hW]
      exact (uxQW rfl (uxQW rfl hI.2.2.2.2.2.2.2.2.2.2.2.2.2.2.2.2.2.2.2.2.2.2.2.2.2.2.2.2.2.2.2.2.2.2.2.2.2.2.2.2.2.2.2.2.2.2.2.2.2.1))
    have k_xQM : xQM W := by
      rw [hW]
      exact (uxQM rfl (uxQM rfl hI.2.2.2.2.2.2.2.2.2.2.2.2.2.2.2.2.2.2.2.2.2.2.2.2.2.2.2.2.2.2.2.2.2.2.2.2.2.2.2.2.2.2.2.2.2.2.2.2.2.2.1))
    have k_xQH : xQH W := by
      rw [hW]
      exact (uxQH rfl (uxQH rfl hI.2.2.2.2.2.2.2.2.2.2.2.2.2.2.2.2.2.2.2.2.2.2.2.2.2.2.2.2.2.2.2.2.2.2.2.2.2.2.2.2.2.2.2.2.2.2.2.2.2.2.2))
    have k_XC : XC W := ⟨k_xS1, k_xS2, k_xS3, k_xS4, k_xS5, k_xS6, k_xS7, k_xS8, k_xS9, k_xSA, k_xSG, k_xSF, k_xSB, k_xSC, k_xSD, k_xSE, k_xSW, k_xST, k_xSP, k_xSL, k_xSM, k_xSI, k_xD3, k_xDV, k_xDP, k_xDE, k_xQ5, k_xQL, k_xQW, k_xQM, k_xQH⟩
    have kXB : XB W := ⟨k_xN1, k_xN2, k_xN3, k_xN4, k_xN5, k_xN6, k_xH1, k_xK1, k_xC1, k_xRW, k_xWT, k_xCU, k_xG2, k_xG3, k_xG4, k_xG5, k_xG6, k_XC⟩
    exact ⟨base, k2, k3, kXA, kXB⟩
-- lRe
def xr_656 : qRu := (1, [], [(4, 350, [(30, 0)])], [], [(4, 363, []), (4, 364, [])], [])
theorem xo_656 : qRok xr_656 := by
  intro ρ M h0 hf hm hI
  have m0 : M 4 350 = 30 * ρ 0 + 0 := hm (4, 350, [(30, 0)]) (by decide)
  simp only [h0] at m0
  have qxQL := hI.2.2.2.2.2.2.2.2.2.2.2.2.2.2.2.2.2.2.2.2.2.2.2.2.2.2.2.2.2.2.2.2.2.2.2.2.2.2.2.2.2.2.2.2.2.2.2.2.1
  refine ⟨ρ, fun _ _ => rfl, fun f h => ?_, ?_⟩
  · exact nomatch h
  · show sI (sU (sU M 4 363 (0)) 4 364 (0))
    obtain ⟨W, hW⟩ : ∃ W, W = (sU (sU M 4 363 (0)) 4 364 (0)) := ⟨_, rfl⟩
    rw [← hW]
    have base : sI0 W := by
      rw [hW]
      exact (si_u0 (si_u0 hI.1 (fun r hr => by cases hr)) (fun r hr => by cases hr))
    have k2 : XI2 W := by
      rw [hW]
      exact (xi2_u rfl (xi2_u rfl hI.2.1))
    have k3 : XI3 W := by
      rw [hW]
      exact (xi3_u rfl (xi3_u rfl hI.2.2.1))
    have kXA : XA W := by
      rw [hW]
      exact (uXA rfl (uXA rfl hI.2.2.2.1))
    have k_xN1 : xN1 W := by
      rw [hW]
      exact (uxN1 rfl (uxN1 rfl hI.2.2.2.2.1))
    have k_xN2 : xN2 W := by
      rw [hW]
      exact (uxN2 rfl (uxN2 rfl hI.2.2.2.2.2.1))
    have k_xN3 : xN3 W := by
      rw [hW]
      exact (uxN3 rfl (uxN3 rfl hI.2.2.2.2.2.2.1))
    have k_xN4 : xN4 W := by
      rw [hW]
      exact (uxN4 rfl (uxN4 rfl hI.2.2.2.2.2.2.2.1))
    have k_xN5 : xN5 W := by
      rw [hW]
      exact (uxN5 rfl (uxN5 rfl hI.2.2.2.2.2.2.2.2.1))
    have k_xN6 : xN6 W := by
      rw [hW]
      exact (uxN6 rfl (uxN6 rfl hI.2.2.2.2.2.2.2.2.2.1))
    have k_xH1 : xH1 W := by
      rw [hW]
      exact (uxH1 rfl (uxH1 rfl hI.2.2.2.2.2.2.2.2.2.2.1))
    have k_xK1 : xK1 W := by
      rw [hW]
      exact (uxK1 rfl (uxK1 rfl hI.2.2.2.2.2.2.2.2.2.2.2.1))
    have k_xC1 : xC1 W := by
      rw [hW]
      exact (uxC1 rfl (uxC1 rfl hI.2.2.2.2.2.2.2.2.2.2.2.2.1))
    have k_xRW : xRW W := by
      rw [hW]
      exact (uxRW rfl (uxRW rfl hI.2.2.2.2.2.2.2.2.2.2.2.2.2.1))
    have k_xWT : xWT W := by
      rw [hW]
      exact (uxWT rfl (uxWT rfl hI.2.2.2.2.2.2.2.2.2.2.2.2.2.2.1))
    have k_xCU : xCU W := by
      rw [hW]
      exact (uxCU rfl (uxCU rfl hI.2.2.2.2.2.2.2.2.2.2.2.2.2.2.2.1))
    have k_xG2 : xG2 W := by
      rw [hW]
      exact (uxG2 rfl (uxG2 rfl hI.2.2.2.2.2.2.2.2.2.2.2.2.2.2.2.2.1))
    have k_xG3 : xG3 W := by
      rw [hW]
      exact (uxG3 rfl (uxG3 rfl hI.2.2.2.2.2.2.2.2.2.2.2.2.2.2.2.2.2.1))
    have k_xG4 : xG4 W := by
      rw [hW]
      exact (uxG4 rfl (uxG4 rfl hI.2.2.2.2.2.2.2.2.2.2.2.2.2.2.2.2.2.2.1))
    have k_xG5 : xG5 W := by
      rw [hW]
      exact (uxG5 rfl (uxG5 rfl hI.2.2.2.2.2.2.2.2.2.2.2.2.2.2.2.2.2.2.2.1))
    have k_xG6 : xG6 W := by
      rw [hW]
      exact (uxG6 rfl (uxG6 rfl hI.2.2.2.2.2.2.2.2.2.2.2.2.2.2.2.2.2.2.2.2.1))
    have k_xS1 : xS1 W := by
      rw [hW]
      exact (uxS1 rfl (uxS1 rfl hI.2.2.2.2.2.2.2.2.2.2.2.2.2.2.2.2.2.2.2.2.2.1))
    have k_xS2 : xS2 W := by
      rw [hW]
      exact (uxS2 rfl (uxS2 rfl hI.2.2.2.2.2.2.2.2.2.2.2.2.2.2.2.2.2.2.2.2.2.2.1))
    have k_xS3 : xS3 W := by
      rw [hW]
      exact (uxS3 rfl (uxS3 rfl hI.2.2.2.2.2.2.2.2.2.2.2.2.2.2.2.2.2.2.2.2.2.2.2.1))
    have k_xS4 : xS4 W := by
      rw [hW]
      exact (uxS4 rfl (uxS4 rfl hI.2.2.2.2.2.2.2.2.2.2.2.2.2.2.2.2.2.2.2.2.2.2.2.2.1))
    have k_xS5 : xS5 W := by
      rw [hW]
      exact (uxS5 rfl (uxS5 rfl hI.2.2.2.2.2.2.2.2.2.2.2.2.2.2.2.2.2.2.2.2.2.2.2.2.2.1))
    have k_xS6 : xS6 W := by
      rw [hW]
      exact (uxS6 rfl (uxS6 rfl hI.2.2.2.2.2.2.2.2.2.2.2.2.2.2.2.2.2.2.2.2.2.2.2.2.2.2.1))
    have k_xS7 : xS7 W := by
      rw [hW]
      exact (uxS7 rfl (uxS7 rfl hI.2.2.2.2.2.2.2.2.2.2.2.2.2.2.2.2.2.2.2.2.2.2.2.2.2.2.2.1))
    have k_xS8 : xS8 W := by
      rw [hW]
      exact (uxS8 rfl (uxS8 rfl hI.2.2.2.2.2.2.2.2.2.2.2.2.2.2.2.2.2.2.2.2.2.2.2.2.2.2.2.2.1))
    have k_xS9 : xS9 W := by
      rw [hW]
      exact (uxS9 rfl (uxS9 rfl hI.2.2.2.2.2.2.2.2.2.2.2.2.2.2.2.2.2.2.2.2.2.2.2.2.2.2.2.2.2.1))
    have k_xSA : xSA W := by
      rw [hW]
      exact (uxSA rfl (uxSA rfl hI.2.2.2.2.2.2.2.2.2.2.2.2.2.2.2.2.2.2.2.2.2.2.2.2.2.2.2.2.2.2.1))
    have k_xSG : xSG W := by
      rw [hW]
      exact (uxSG rfl (uxSG rfl hI.2.2.2.2.2.2.2.2.2.2.2.2.2.2.2.2.2.2.2.2.2.2.2.2.2.2.2.2.2.2.2.1))
    have k_xSF : xSF W := by
      rw [hW]
      exact (uxSF rfl (uxSF rfl hI.2.2.2.2.2.2.2.2.2.2.2.2.2.2.2.2.2.2.2.2.2.2.2.2.2.2.2.2.2.2.2.2.1))
    have k_xSB : xSB W := by
      rw [hW]
      exact (uxSB rfl (uxSB rfl hI.2.2.2.2.2.2.2.2.2.2.2.2.2.2.2.2.2.2.2.2.2.2.2.2.2.2.2.2.2.2.2.2.2.1))
    have k_xSC : xSC W := by
      rw [hW]
      exact (uxSC rfl (uxSC rfl hI.2.2.2.2.2.2.2.2.2.2.2.2.2.2.2.2.2.2.2.2.2.2.2.2.2.2.2.2.2.2.2.2.2.2.1))
    have k_xSD : xSD W := by
      rw [hW]
      exact (uxSD rfl (uxSD rfl hI.2.2.2.2.2.2.2.2.2.2.2.2.2.2.2.2.2.2.2.2.2.2.2.2.2.2.2.2.2.2.2.2.2.2.2.1))
    have k_xSE : xSE W := by
      rw [hW]
      exact (uxSE rfl (uxSE rfl hI.2.2.2.2.2.2.2.2.2.2.2.2.2.2.2.2.2.2.2.2.2.2.2.2.2.2.2.2.2.2.2.2.2.2.2.2.1))
    have k_xSW : xSW W := by
      rw [hW]
      exact (uxSW rfl (uxSW rfl hI.2.2.2.2.2.2.2.2.2.2.2.2.2.2.2.2.2.2.2.2.2.2.2.2.2.2.2.2.2.2.2.2.2.2.2.2.2.1))
    have k_xST : xST W := by
      rw [hW]
      exact (uxST rfl (uxST rfl hI.2.2.2.2.2.2.2.2.2.2.2.2.2.2.2.2.2.2.2.2.2.2.2.2.2.2.2.2.2.2.2.2.2.2.2.2.2.2.1))
    have k_xSP : xSP W := by
      rw [hW]
      exact (uxSP rfl (uxSP rfl hI.2.2.2.2.2.2.2.2.2.2.2.2.2.2.2.2.2.2.2.2.2.2.2.2.2.2.2.2.2.2.2.2.2.2.2.2.2.2.2.1))
    have k_xSL : xSL W := by
      rw [hW]
      exact (uxSL rfl (uxSL rfl hI.2.2.2.2.2.2.2.2.2.2.2.2.2.2.2.2.2.2.2.2.2.2.2.2.2.2.2.2.2.2.2.2.2.2.2.2.2.2.2.2.1))
    have k_xSM : xSM W := by
      rw [hW]
      exact (uxSM rfl (uxSM rfl hI.2.2.2.2.2.2.2.2.2.2.2.2.2.2.2.2.2.2.2.2.2.2.2.2.2.2.2.2.2.2.2.2.2.2.2.2.2.2.2.2.2.1))
    have k_xSI : xSI W := by
      rw [hW]
      exact (uxSI rfl (uxSI rfl hI.2.2.2.2.2.2.2.2.2.2.2.2.2.2.2.2.2.2.2.2.2.2.2.2.2.2.2.2.2.2.2.2.2.2.2.2.2.2.2.2.2.2.1))
    have k_xD3 : xD3 W := by
      rw [hW]
      exact (uxD3 rfl (uxD3 rfl hI.2.2.2.2.2.2.2.2.2.2.2.2.2.2.2.2.2.2.2.2.2.2.2.2.2.2.2.2.2.2.2.2.2.2.2.2.2.2.2.2.2.2.2.1))
    have k_xDV : xDV W := by
      rw [hW]
      exact (uxDV rfl (uxDV rfl hI.2.2.2.2.2.2.2.2.2.2.2.2.2.2.2.2.2.2.2.2.2.2.2.2.2.2.2.2.2.2.2.2.2.2.2.2.2.2.2.2.2.2.2.2.1))
    have k_xDP : xDP W := by
      rw [hW]
      exact (uxDP rfl (uxDP rfl hI.2.2.2.2.2.2.2.2.2.2.2.2.2.2.2.2.2.2.2.2.2.2.2.2.2.2.2.2.2.2.2.2.2.2.2.2.2.2.2.2.2.2.2.2.2.1))
    have k_xDE : xDE W := by
      rw [hW]
      exact (uxDE rfl (uxDE rfl hI.2.2.2.2.2.2.2.2.2.2.2.2.2.2.2.2.2.2.2.2.2.2.2.2.2.2.2.2.2.2.2.2.2.2.2.2.2.2.2.2.2.2.2.2.2.2.1))
    have k_xQ5 : xQ5 W := by
      rw [hW]
      exact (uxQ5 rfl (uxQ5 rfl hI.2.2.2.2.2.2.2.2.2.2.2.2.2.2.2.2.2.2.2.2.2.2.2.2.2.2.2.2.2.2.2.2.2.2.2.2.2.2.2.2.2.2.2.2.2.2.2.1))
    have k_xQL : xQL W := by
      have r4_350 : W 4 350 = M 4 350 := by rw [hW, sU_ne (fun z => by omega), sU_ne (fun z => by omega)]
      have r4_360 : W 4 360 = M 4 360 := by rw [hW, sU_ne (fun z => by omega), sU_ne (fun z => by omega)]
      have r4_361 : W 4 361 = M 4 361 := by rw [hW, sU_ne (fun z => by omega), sU_ne (fun z => by omega)]
      have r4_362 : W 4 362 = M 4 362 := by rw [hW, sU_ne (fun z => by omega), sU_ne (fun z => by omega)]
      have r4_363 : W 4 363 = 0 := by rw [hW, sU_ne (fun z => by omega), sU_at]
      have r4_364 : W 4 364 = 0 := by rw [hW, sU_at]
      have r4_365 : W 4 365 = M 4 365 := by rw [hW, sU_ne (fun z => by omega), sU_ne (fun z => by omega)]
      have r4_366 : W 4 366 = M 4 366 := by rw [hW, sU_ne (fun z => by omega), sU_ne (fun z => by omega)]
      have r4_367 : W 4 367 = M 4 367 := by rw [hW, sU_ne (fun z => by omega), sU_ne (fun z => by omega)]
      have r4_369 : W 4 369 = M 4 369 := by rw [hW, sU_ne (fun z => by omega), sU_ne (fun z => by omega)]
      have r4_370 : W 4 370 = M 4 370 := by rw [hW, sU_ne (fun z => by omega), sU_ne (fun z => by omega)]
      have r4_371 : W 4 371 = M 4 371 := by rw [hW, sU_ne (fun z => by omega), sU_ne (fun z => by omega)]
      have r4_372 : W 4 372 = M 4 372 := by rw [hW, sU_ne (fun z => by omega), sU_ne (fun z => by omega)]
      have r93_0 : W 93 0 = M 93 0 := by rw [hW, sU_ne (fun z => by omega), sU_ne (fun z => by omega)]
      have c95 : ∀ k, W 95 k = M 95 k := fun k => by rw [hW, sU_ne (fun z => by omega), sU_ne (fun z => by omega)]
      have e95 : W 95 = M 95 := funext c95
      have c97 : ∀ k, W 97 k = M 97 k := fun k => by rw [hW, sU_ne (fun z => by omega), sU_ne (fun z => by omega)]
      have e97 : W 97 = M 97 := funext c97
      intro _
      obtain ⟨b1, b2, b3, b4, b5, b6, b7, b8⟩ := gx_xQL hI (by omega)
      rw [r4_360, r4_361, r4_362, r4_363, r4_364, r4_365, r4_366, r4_367, r4_369, r4_370, r4_371, r4_372, db3_c e95 e97, db3_c e95 e97, dws_c r93_0 e95 e97, dws_c r93_0 e95 e97, r93_0, c95]
      (try rw [h0])

      exact ⟨b1, b2, b3, Int.le_refl _, rfl, b6, b7, b8⟩
    have k_xQW : xQW W := by
      rw [hW]
      exact (uxQW rfl (uxQW rfl hI.2.2.2.2.2.2.2.2.2.2.2.2.2.2.2.2.2.2.2.2.2.2.2.2.2.2.2.2.2.2.2.2.2.2.2.2.2.2.2.2.2.2.2.2.2.2.2.2.2.1))
    have k_xQM : xQM W := by
      rw [hW]
      exact (uxQM rfl (uxQM rfl hI.2.2.2.2.2.2.2.2.2.2.2.2.2.2.2.2.2.2.2.2.2.2.2.2.2.2.2.2.2.2.2.2.2.2.2.2.2.2.2.2.2.2.2.2.2.2.2.2.2.2.1))
    have k_xQH : xQH W := by
      rw [hW]
      exact (uxQH rfl (uxQH rfl hI.2.2.2.2.2.2.2.2.2.2.2.2.2.2.2.2.2.2.2.2.2.2.2.2.2.2.2.2.2.2.2.2.2.2.2.2.2.2.2.2.2.2.2.2.2.2.2.2.2.2.2))
    have k_XC : XC W := ⟨k_xS1, k_xS2, k_xS3, k_xS4, k_xS5, k_xS6, k_xS7, k_xS8, k_xS9, k_xSA, k_xSG, k_xSF, k_xSB, k_xSC, k_xSD, k_xSE, k_xSW, k_xST, k_xSP, k_xSL, k_xSM, k_xSI, k_xD3, k_xDV, k_xDP, k_xDE, k_xQ5, k_xQL, k_xQW, k_xQM, k_xQH⟩
    have kXB : XB W := ⟨k_xN1, k_xN2, k_xN3, k_xN4, k_xN5, k_xN6, k_xH1, k_xK1, k_xC1, k_xRW, k_xWT, k_xCU, k_xG2, k_xG3, k_xG4, k_xG5, k_xG6, k_XC⟩
    exact ⟨base, k2, k3, kXA, kXB⟩
-- lGet
def xr_657 : qRu := (6, [[(-1, 1), (1, 4)], [(1, 1), (-1, 4)]], [(4, 350, [(30, 0)]), (4, 372, [(1, 1)]), (4, 365, [(1, 2)]), (95, 1004, [(1, 5)])], [], [], [[(1, 2), (-1, 5)], [(-1, 2), (1, 5)]])
theorem xo_657 : qRok xr_657 := by
  intro ρ M h0 hf hm hI
  have f0 := hf [(-1, 1), (1, 4)] (by decide)
  have f1 := hf [(1, 1), (-1, 4)] (by decide)
  simp only [qD, h0] at f0 f1
  have m0 : M 4 350 = 30 * ρ 0 + 0 := hm (4, 350, [(30, 0)]) (by decide)
  have m1 : M 4 372 = 1 * ρ 1 + 0 := hm (4, 372, [(1, 1)]) (by decide)
  have m2 : M 4 365 = 1 * ρ 2 + 0 := hm (4, 365, [(1, 2)]) (by decide)
  have m3 : M 95 (zIx ρ (1000 + 4)) = 1 * ρ 5 + 0 := hm (95, 1004, [(1, 5)]) (by decide)
  rw [zix_p] at m3
  simp only [h0] at m0
  obtain ⟨b1, b2, b3, b4, b5, b6, b7, b8⟩ := gx_xQL hI (by omega)

  rw [show (M 4 372).toNat = (ρ 4).toNat by omega] at b8
  refine ⟨ρ, fun _ _ => rfl, fun f h => ?_, ?_⟩
  · have h : f ∈ ([[(1, 2), (-1, 5)], [(-1, 2), (1, 5)]] : List qF) := h
    simp only [List.mem_cons, List.not_mem_nil, or_false] at h
    rcases h with rfl | rfl
    · show 0 ≤ 1 * ρ 2 + (-1 * ρ 5 + 0)
      (try rw [h0]); omega
    · show 0 ≤ -1 * ρ 2 + (1 * ρ 5 + 0)
      (try rw [h0]); omega
  · show sI M
    exact hI
-- lEq
def xr_658 : qRu := (6, [[(7, 1), (-1, 3)], [(6, 0), (-7, 1), (1, 3)], [(7, 2), (-1, 3)], [(6, 0), (-7, 2), (1, 3)]], [(4, 350, [(30, 0)]), (4, 363, [(1, 1)]), (4, 367, [(1, 2)]), (4, 365, [(1, 3)]), (4, 364, [(1, 4)]), (4, 366, [(1, 5)])], [], [], [[(1, 4), (-1, 5)], [(-1, 4), (1, 5)]])
theorem xo_658 : qRok xr_658 := by
  intro ρ M h0 hf hm hI
  have f0 := hf [(7, 1), (-1, 3)] (by decide)
  have f1 := hf [(6, 0), (-7, 1), (1, 3)] (by decide)
  have f2 := hf [(7, 2), (-1, 3)] (by decide)
  have f3 := hf [(6, 0), (-7, 2), (1, 3)] (by decide)
  simp only [qD, h0] at f0 f1 f2 f3
  have m0 : M 4 350 = 30 * ρ 0 + 0 := hm (4, 350, [(30, 0)]) (by decide)
  have m1 : M 4 363 = 1 * ρ 1 + 0 := hm (4, 363, [(1, 1)]) (by decide)
  have m2 : M 4 367 = 1 * ρ 2 + 0 := hm (4, 367, [(1, 2)]) (by decide)
  have m3 : M 4 365 = 1 * ρ 3 + 0 := hm (4, 365, [(1, 3)]) (by decide)
  have m4 : M 4 364 = 1 * ρ 4 + 0 := hm (4, 364, [(1, 4)]) (by decide)
  have m5 : M 4 366 = 1 * ρ 5 + 0 := hm (4, 366, [(1, 5)]) (by decide)
  simp only [h0] at m0
  obtain ⟨b1, b2, b3, b4, b5, b6, b7, b8⟩ := gx_xQL hI (by omega)

  rw [show (M 4 363).toNat = (M 4 367).toNat by omega, ← b7] at b5
  refine ⟨ρ, fun _ _ => rfl, fun f h => ?_, ?_⟩
  · have h : f ∈ ([[(1, 4), (-1, 5)], [(-1, 4), (1, 5)]] : List qF) := h
    simp only [List.mem_cons, List.not_mem_nil, or_false] at h
    rcases h with rfl | rfl
    · show 0 ≤ 1 * ρ 4 + (-1 * ρ 5 + 0)
      (try rw [h0]); omega
    · show 0 ≤ -1 * ρ 4 + (1 * ρ 5 + 0)
      (try rw [h0]); omega
  · show sI M
    exact hI
-- vSet
def xr_659 : qRu := (2, [], [(4, 350, [])], [], [(4, 350, [(27, 0)]), (4, 380, [(1, 1)]), (4, 381, []), (4, 382, [(1, 2)])], [])
theorem xo_659 : qRok xr_659 := by
  intro ρ M h0 hf hm hI
  have m0 : M 4 350 = 0 := hm (4, 350, []) (by decide)
  have qxQW := hI.2.2.2.2.2.2.2.2.2.2.2.2.2.2.2.2.2.2.2.2.2.2.2.2.2.2.2.2.2.2.2.2.2.2.2.2.2.2.2.2.2.2.2.2.2.2.2.2.2.1
  refine ⟨fun a => cond (Nat.blt a 2) (ρ a) (([tFi (fun n : Nat => dOw M (1 * ρ 1 + 0 + (n : Int))) 1 24] : List Int).getD (a - 2) 0), fun a ha => ?_, fun f h => ?_, ?_⟩
  · show cond (Nat.blt a 2) (ρ a) _ = ρ a
    rw [show Nat.blt a 2 = true from Nat.ble_eq_true_of_le ha]; rfl
  · exact nomatch h
  · show sI (sU (sU (sU (sU M 4 350 (27 * ρ 0 + 0)) 4 380 (1 * ρ 1 + 0)) 4 381 (0)) 4 382 (1 * (tFi (fun n : Nat => dOw M (1 * ρ 1 + 0 + (n : Int))) 1 24) + 0))
    obtain ⟨W, hW⟩ : ∃ W, W = (sU (sU (sU (sU M 4 350 (27 * ρ 0 + 0)) 4 380 (1 * ρ 1 + 0)) 4 381 (0)) 4 382 (1 * (tFi (fun n : Nat => dOw M (1 * ρ 1 + 0 + (n : Int))) 1 24) + 0)) := ⟨_, rfl⟩
    rw [← hW]
    have base : sI0 W := by
      rw [hW]
      exact (si_u0 (si_u0 (si_u0 (si_u0 hI.1 (fun r hr => by cases hr)) (fun r hr => by cases hr)) (fun r hr => by cases hr)) (fun r hr => by cases hr))
    have k2 : XI2 W := by
      rw [hW]
      exact (xi2_u rfl (xi2_u rfl (xi2_u rfl (xi2_u rfl hI.2.1))))
    have k3 : XI3 W := by
      rw [hW]
      exact (xi3_u rfl (xi3_u rfl (xi3_u rfl (xi3_u rfl hI.2.2.1))))
    have kXA : XA W := by
      rw [hW]
      exact (uXA rfl (uXA rfl (uXA rfl (uXA rfl hI.2.2.2.1))))
    have k_xN1 : xN1 W := by
      rw [hW]
      exact (uxN1 rfl (uxN1 rfl (uxN1 rfl (uxN1 rfl hI.2.2.2.2.1))))
    have k_xN2 : xN2 W := by
      rw [hW]
      exact (uxN2 rfl (uxN2 rfl (uxN2 rfl (uxN2 rfl hI.2.2.2.2.2.1))))
    have k_xN3 : xN3 W := by
      rw [hW]
      exact (uxN3 rfl (uxN3 rfl (uxN3 rfl (uxN3 rfl hI.2.2.2.2.2.2.1))))
    have k_xN4 : xN4 W := by
      rw [hW]
      exact (uxN4 rfl (uxN4 rfl (uxN4 rfl (uxN4 rfl hI.2.2.2.2.2.2.2.1))))
    have k_xN5 : xN5 W := by
      rw [hW]
      exact (uxN5 rfl (uxN5 rfl (uxN5 rfl (uxN5 rfl hI.2.2.2.2.2.2.2.2.1))))
    have k_xN6 : xN6 W := by
      rw [hW]
      exact (uxN6 rfl (uxN6 rfl (uxN6 rfl (uxN6 rfl hI.2.2.2.2.2.2.2.2.2.1))))
    have k_xH1 : xH1 W := by
      rw [hW]
      exact (uxH1 rfl (uxH1 rfl (uxH1 rfl (uxH1 rfl hI.2.2.2.2.2.2.2.2.2.2.1))))
    have k_xK1 : xK1 W := by
      rw [hW]
      exact (uxK1 rfl (uxK1 rfl (uxK1 rfl (uxK1 rfl hI.2.2.2.2.2.2.2.2.2.2.2.1))))
    have k_xC1 : xC1 W := by
      rw [hW]
      exact (uxC1 rfl (uxC1 rfl (uxC1 rfl (uxC1 rfl hI.2.2.2.2.2.2.2.2.2.2.2.2.1))))
    have k_xRW : xRW W := by
      rw [hW]
      exact (uxRW rfl (uxRW rfl (uxRW rfl (uxRW rfl hI.2.2.2.2.2.2.2.2.2.2.2.2.2.1))))
    have k_xWT : xWT W := by
      rw [hW]
      exact (uxWT rfl (uxWT rfl (uxWT rfl (uxWT rfl hI.2.2.2.2.2.2.2.2.2.2.2.2.2.2.1))))
    have k_xCU : xCU W := by
      rw [hW]
      exact (uxCU rfl (uxCU rfl (uxCU rfl (uxCU rfl hI.2.2.2.2.2.2.2.2.2.2.2.2.2.2.2.1))))
    have k_xG2 : xG2 W := by
      rw [hW]
      exact (uxG2 rfl (uxG2 rfl (uxG2 rfl (uxG2 rfl hI.2.2.2.2.2.2.2.2.2.2.2.2.2.2.2.2.1))))
    have k_xG3 : xG3 W := by
      rw [hW]
      exact (uxG3 rfl (uxG3 rfl (uxG3 rfl (uxG3 rfl hI.2.2.2.2.2.2.2.2.2.2.2.2.2.2.2.2.2.1))))
    have k_xG4 : xG4 W := by
      rw [hW]
      exact (uxG4 rfl (uxG4 rfl (uxG4 rfl (uxG4 rfl hI.2.2.2.2.2.2.2.2.2.2.2.2.2.2.2.2.2.2.1))))
    have k_xG5 : xG5 W := by
      rw [hW]
      exact (uxG5 rfl (uxG5 rfl (uxG5 rfl (uxG5 rfl hI.2.2.2.2.2.2.2.2.2.2.2.2.2.2.2.2.2.2.2.1))))
    have k_xG6 : xG6 W := by
      rw [hW]
      exact (uxG6 rfl (uxG6 rfl (uxG6 rfl (uxG6 rfl hI.2.2.2.2.2.2.2.2.2.2.2.2.2.2.2.2.2.2.2.2.1))))
    have k_xS1 : xS1 W := by
      rw [hW]
      exact (uxS1 rfl (uxS1 rfl (uxS1 rfl (uxS1 rfl hI.2.2.2.2.2.2.2.2.2.2.2.2.2.2.2.2.2.2.2.2.2.1))))
    have k_xS2 : xS2 W := by
      rw [hW]
      exact (uxS2 rfl (uxS2 rfl (uxS2 rfl (uxS2 rfl hI.2.2.2.2.2.2.2.2.2.2.2.2.2.2.2.2.2.2.2.2.2.2.1))))
    have k_xS3 : xS3 W := by
      rw [hW]
      exact (uxS3 rfl (uxS3 rfl (uxS3 rfl (uxS3 rfl hI.2.2.2.2.2.2.2.2.2.2.2.2.2.2.2.2.2.2.2.2.2.2.2.1))))
    have k_xS4 : xS4 W := by
      rw [hW]
      exact (uxS4 rfl (uxS4 rfl (uxS4 rfl (uxS4 rfl hI.2.2.2.2.2.2.2.2.2.2.2.2.2.2.2.2.2.2.2.2.2.2.2.2.1))))
    have k_xS5 : xS5 W := by
      rw [hW]
      exact (uxS5 rfl (uxS5 rfl (uxS5 rfl (uxS5 rfl hI.2.2.2.2.2.2.2.2.2.2.2.2.2.2.2.2.2.2.2.2.2.2.2.2.2.1))))
    have k_xS6 : xS6 W := by
      rw [hW]
      exact (uxS6 rfl (uxS6 rfl (uxS6 rfl (uxS6 rfl hI.2.2.2.2.2.2.2.2.2.2.2.2.2.2.2.2.2.2.2.2.2.2.2.2.2.2.1))))
    have k_xS7 : xS7 W := by
      rw [hW]
      exact (uxS7 rfl (uxS7 rfl (uxS7 rfl (uxS7 rfl hI.2.2.2.2.2.2.2.2.2.2.2.2.2.2.2.2.2.2.2.2.2.2.2.2.2.2.2.1))))
    have k_xS8 : xS8 W := by
      rw [hW]
      exact (uxS8 rfl (uxS8 rfl (uxS8 rfl (uxS8 rfl hI.2.2.2.2.2.2.2.2.2.2.2.2.2.2.2.2.2.2.2.2.2.2.2.2.2.2.2.2.1))))
    have k_xS9 : xS9 W := by
      rw [hW]
      exact (uxS9 rfl (uxS9 rfl (uxS9 rfl (uxS9 rfl hI.2.2.2.2.2.2.2.2.2.2.2.2.2.2.2.2.2.2.2.2.2.2.2.2.2.2.2.2.2.1))))
    have k_xSA : xSA W := by
      rw [hW]
      exact (uxSA rfl (uxSA rfl (uxSA rfl (uxSA rfl hI.2.2.2.2.2.2.2.2.2.2.2.2.2.2.2.2.2.2.2.2.2.2.2.2.2.2.2.2.2.2.1))))
    have k_xSG : xSG W := by
      rw [hW]
      exact (uxSG rfl (uxSG rfl (uxSG rfl (uxSG rfl hI.2.2.2.2.2.2.2.2.2.2.2.2.2.2.2.2.2.2.2.2.2.2.2.2.2.2.2.2.2.2.2.1))))
    have k_xSF : xSF W := by
      rw [hW]
      exact (uxSF rfl (uxSF rfl (uxSF rfl (uxSF rfl hI.2.2.2.2.2.2.2.2.2.2.2.2.2.2.2.2.2.2.2.2.2.2.2.2.2.2.2.2.2.2.2.2.1))))
    have k_xSB : xSB W := by
      rw [hW]
      exact (uxSB rfl (uxSB rfl (uxSB rfl (uxSB rfl hI.2.2.2.2.2.2.2.2.2.2.2.2.2.2.2.2.2.2.2.2.2.2.2.2.2.2.2.2.2.2.2.2.2.1))))
    have k_xSC : xSC W := by
      rw [hW]
      exact (uxSC rfl (uxSC rfl (uxSC rfl (uxSC rfl hI.2.2.2.2.2.2.2.2.2.2.2.2.2.2.2.2.2.2.2.2.2.2.2.2.2.2.2.2.2.2.2.2.2.2.1))))
    have k_xSD : xSD W := by
      rw [hW]
      exact (uxSD rfl (uxSD rfl (uxSD rfl (uxSD rfl hI.2.2.2.2.2.2.2.2.2.2.2.2.2.2.2.2.2.2.2.2.2.2.2.2.2.2.2.2.2.2.2.2.2.2.2.1))))
    have k_xSE : xSE W := by
      rw [hW]
      exact (uxSE rfl (uxSE rfl (uxSE rfl (uxSE rfl hI.2.2.2.2.2.2.2.2.2.2.2.2.2.2.2.2.2.2.2.2.2.2.2.2.2.2.2.2.2.2.2.2.2.2.2.2.1))))
    have k_xSW : xSW W := by
      rw [hW]
      exact (uxSW rfl (uxSW rfl (uxSW rfl (uxSW rfl hI.2.2.2.2.2.2.2.2.2.2.2.2.2.2.2.2.2.2.2.2.2.2.2.2.2.2.2.2.2.2.2.2.2.2.2.2.2.1))))
    have k_xST : xST W := by
      rw [hW]
      exact (uxST rfl (uxST rfl (uxST rfl (uxST rfl hI.2.2.2.2.2.2.2.2.2.2.2.2.2.2.2.2.2.2.2.2.2.2.2.2.2.2.2.2.2.2.2.2.2.2.2.2.2.2.1))))
    have k_xSP : xSP W := by
      rw [hW]
      exact (uxSP rfl (uxSP rfl (uxSP rfl (uxSP rfl hI.2.2.2.2.2.2.2.2.2.2.2.2.2.2.2.2.2.2.2.2.2.2.2.2.2.2.2.2.2.2.2.2.2.2.2.2.2.2.2.1))))
    have k_xSL : xSL W := by
      rw [hW]
      exact (uxSL rfl (uxSL rfl (uxSL rfl (uxSL rfl hI.2.2.2.2.2.2.2.2.2.2.2.2.2.2.2.2.2.2.2.2.2.2.2.2.2.2.2.2.2.2.2.2.2.2.2.2.2.2.2.2.1))))
    have k_xSM : xSM W := by
      rw [hW]
      exact (uxSM rfl (uxSM rfl (uxSM rfl (uxSM rfl hI.2.2.2.2.2.2.2.2.2.2.2.2.2.2.2.2.2.2.2.2.2.2.2.2.2.2.2.2.2.2.2.2.2.2.2.2.2.2.2.2.2.1))))
    have k_xSI : xSI W := by
      rw [hW]
      exact (uxSI rfl (uxSI rfl (uxSI rfl (uxSI rfl hI.2.2.2.2.2.2.2.2.2.2.2.2.2.2.2.2.2.2.2.2.2.2.2.2.2.2.2.2.2.2.2.2.2.2.2.2.2.2.2.2.2.2.1))))
    have k_xD3 : xD3 W := by
      rw [hW]
      exact (uxD3 rfl (uxD3 rfl (uxD3 rfl (uxD3 rfl hI.2.2.2.2.2.2.2.2.2.2.2.2.2.2.2.2.2.2.2.2.2.2.2.2.2.2.2.2.2.2.2.2.2.2.2.2.2.2.2.2.2.2.2.1))))
    have k_xDV : xDV W := by
      rw [hW]
      exact (uxDV rfl (uxDV rfl (uxDV rfl (uxDV rfl hI.2.2.2.2.2.2.2.2.2.2.2.2.2.2.2.2.2.2.2.2.2.2.2.2.2.2.2.2.2.2.2.2.2.2.2.2.2.2.2.2.2.2.2.2.1))))
    have k_xDP : xDP W := by
      rw [hW]
      exact (uxDP rfl (uxDP rfl (uxDP rfl (uxDP rfl hI.2.2.2.2.2.2.2.2.2.2.2.2.2.2.2.2.2.2.2.2.2.2.2.2.2.2.2.2.2.2.2.2.2.2.2.2.2.2.2.2.2.2.2.2.2.1))))
    have k_xDE : xDE W := by
      rw [hW]
      exact (uxDE rfl (uxDE rfl (uxDE rfl (uxDE rfl hI.2.2.2.2.2.2.2.2.2.2.2.2.2.2.2.2.2.2.2.2.2.2.2.2.2.2.2.2.2.2.2.2.2.2.2.2.2.2.2.2.2.2.2.2.2.2.1))))
    have k_xQ5 : xQ5 W := by
      have r : W 4 350 = 27 := by rw [hW, sU_ne (fun z => by omega), sU_ne (fun z => by omega), sU_ne (fun z => by omega), sU_at]; rw [h0]; rfl
      intro h
      rw [r] at h
      omega
    have k_xQL : xQL W := by
      have r : W 4 350 = 27 := by rw [hW, sU_ne (fun z => by omega), sU_ne (fun z => by omega), sU_ne (fun z => by omega), sU_at]; rw [h0]; rfl
      intro h
      rw [r] at h
      omega
    have k_xQW : xQW W := by
      have r4_350 : W 4 350 = 27 * ρ 0 + 0 := by rw [hW, sU_ne (fun z => by omega), sU_ne (fun z => by omega), sU_ne (fun z => by omega), sU_at]
      have r4_380 : W 4 380 = 1 * ρ 1 + 0 := by rw [hW, sU_ne (fun z => by omega), sU_ne (fun z => by omega), sU_at]
      have r4_381 : W 4 381 = 0 := by rw [hW, sU_ne (fun z => by omega), sU_at]
      have r4_382 : W 4 382 = 1 * (tFi (fun n : Nat => dOw M (1 * ρ 1 + 0 + (n : Int))) 1 24) + 0 := by rw [hW, sU_at]
      have r93_0 : W 93 0 = M 93 0 := by rw [hW, sU_ne (fun z => by omega), sU_ne (fun z => by omega), sU_ne (fun z => by omega), sU_ne (fun z => by omega)]
      have c96 : ∀ k, W 96 k = M 96 k := fun k => by rw [hW, sU_ne (fun z => by omega), sU_ne (fun z => by omega), sU_ne (fun z => by omega), sU_ne (fun z => by omega)]
      have e96 : W 96 = M 96 := funext c96
      intro _
      have ho : ∀ w, dOw W w = dOw M w := fun w => by unfold dOw; rw [c96, r93_0]
      have hf : ∀ t : Int, (fun n : Nat => dOw W (t + n)) = (fun n : Nat => dOw M (t + n)) := fun t => funext fun n => ho _
      rw [r4_380, r4_381, r4_382, hf]
      (try rw [h0])

      exact ⟨by omega, Int.le_refl _, rfl⟩
    have k_xQM : xQM W := by
      rw [hW]
      exact (uxQM rfl (uxQM rfl (uxQM rfl (uxQM rfl hI.2.2.2.2.2.2.2.2.2.2.2.2.2.2.2.2.2.2.2.2.2.2.2.2.2.2.2.2.2.2.2.2.2.2.2.2.2.2.2.2.2.2.2.2.2.2.2.2.2.2.1))))
    have k_xQH : xQH W := by
      have r : W 4 350 = 27 := by rw [hW, sU_ne (fun z => by omega), sU_ne (fun z => by omega), sU_ne (fun z => by omega), sU_at]; rw [h0]; rfl
      intro h
      rw [r] at h
      omega
    have k_XC : XC W := ⟨k_xS1, k_xS2, k_xS3, k_xS4, k_xS5, k_xS6, k_xS7, k_xS8, k_xS9, k_xSA, k_xSG, k_xSF, k_xSB, k_xSC, k_xSD, k_xSE, k_xSW, k_xST, k_xSP, k_xSL, k_xSM, k_xSI, k_xD3, k_xDV, k_xDP, k_xDE, k_xQ5, k_xQL, k_xQW, k_xQM, k_xQH⟩
    have kXB : XB W := ⟨k_xN1, k_xN2, k_xN3, k_xN4, k_xN5, k_xN6, k_xH1, k_xK1, k_xC1, k_xRW, k_xWT, k_xCU, k_xG2, k_xG3, k_xG4, k_xG5, k_xG6, k_XC⟩
    exact ⟨base, k2, k3, kXA, kXB⟩
-- vRe
def xr_660 : qRu := (1, [], [(4, 350, [(27, 0)])], [], [(4, 381, [])], [])
theorem xo_660 : qRok xr_660 := by
  intro ρ M h0 hf hm hI
  have m0 : M 4 350 = 27 * ρ 0 + 0 := hm (4, 350, [(27, 0)]) (by decide)
  simp only [h0] at m0
  have qxQW := hI.2.2.2.2.2.2.2.2.2.2.2.2.2.2.2.2.2.2.2.2.2.2.2.2.2.2.2.2.2.2.2.2.2.2.2.2.2.2.2.2.2.2.2.2.2.2.2.2.2.1
  refine ⟨ρ, fun _ _ => rfl, fun f h => ?_, ?_⟩
  · exact nomatch h
  · show sI (sU M 4 381 (0))
    obtain ⟨W, hW⟩ : ∃ W, W = (sU M 4 381 (0)) := ⟨_, rfl⟩
    rw [← hW]
    have base : sI0 W := by
      rw [hW]
      exact (si_u0 hI.1 (fun r hr => by cases hr))
    have k2 : XI2 W := by
      rw [hW]
      exact (xi2_u rfl hI.2.1)
    have k3 : XI3 W := by
      rw [hW]
      exact (xi3_u rfl hI.2.2.1)
    have kXA : XA W := by
      rw [hW]
      exact (uXA rfl hI.2.2.2.1)
    have k_xN1 : xN1 W := by
      rw [hW]
      exact (uxN1 rfl hI.2.2.2.2.1)
    have k_xN2 : xN2 W := by
      rw [hW]
      exact (uxN2 rfl hI.2.2.2.2.2.1)
    have k_xN3 : xN3 W := by
      rw [hW]
      exact (uxN3 rfl hI.2.2.2.2.2.2.1)
    have k_xN4 : xN4 W := by
      rw [hW]
      exact (uxN4 rfl hI.2.2.2.2.2.2.2.1)
    have k_xN5 : xN5 W := by
      rw [hW]
      exact (uxN5 rfl hI.2.2.2.2.2.2.2.2.1)
    have k_xN6 : xN6 W := by
      rw [hW]
      exact (uxN6 rfl hI.2.2.2.2.2.2.2.2.2.1)
    have k_xH1 : xH1 W := by
      rw [hW]
      exact (uxH1 rfl hI.2.2.2.2.2.2.2.2.2.2.1)
    have k_xK1 : xK1 W := by
      rw [hW]
      exact (uxK1 rfl hI.2.2.2.2.2.2.2.2.2.2.2.1)
    have k_xC1 : xC1 W := by
      rw [hW]
      exact (uxC1 rfl hI.2.2.2.2.2.2.2.2.2.2.2.2.1)
    have k_xRW : xRW W := by
      rw [hW]
      exact (uxRW rfl hI.2.2.2.2.2.2.2.2.2.2.2.2.2.1)
    have k_xWT : xWT W := by
      rw [hW]
      exact (uxWT rfl hI.2.2.2.2.2.2.2.2.2.2.2.2.2.2.1)
    have k_xCU : xCU W := by
      rw [hW]
      exact (uxCU rfl hI.2.2.2.2.2.2.2.2.2.2.2.2.2.2.2.1)
    have k_xG2 : xG2 W := by
      rw [hW]
      exact (uxG2 rfl hI.2.2.2.2.2.2.2.2.2.2.2.2.2.2.2.2.1)
    have k_xG3 : xG3 W := by
      rw [hW]
      exact (uxG3 rfl hI.2.2.2.2.2.2.2.2.2.2.2.2.2.2.2.2.2.1)
    have k_xG4 : xG4 W := by
      rw [hW]
      exact (uxG4 rfl hI.2.2.2.2.2.2.2.2.2.2.2.2.2.2.2.2.2.2.1)
    have k_xG5 : xG5 W := by
      rw [hW]
      exact (uxG5 rfl hI.2.2.2.2.2.2.2.2.2.2.2.2.2.2.2.2.2.2.2.1)
    have k_xG6 : xG6 W := by
      rw [hW]
      exact (uxG6 rfl hI.2.2.2.2.2.2.2.2.2.2.2.2.2.2.2.2.2.2.2.2.1)
    have k_xS1 : xS1 W := by
      rw [hW]
      exact (uxS1 rfl hI.2.2.2.2.2.2.2.2.2.2.2.2.2.2.2.2.2.2.2.2.2.1)
    have k_xS2 : xS2 W := by
      rw [hW]
      exact (uxS2 rfl hI.2.2.2.2.2.2.2.2.2.2.2.2.2.2.2.2.2.2.2.2.2.2.1)
    have k_xS3 : xS3 W := by
      rw [hW]
      exact (uxS3 rfl hI.2.2.2.2.2.2.2.2.2.2.2.2.2.2.2.2.2.2.2.2.2.2.2.1)
    have k_xS4 : xS4 W := by
      rw [hW]
      exact (uxS4 rfl hI.2.2.2.2.2.2.2.2.2.2.2.2.2.2.2.2.2.2.2.2.2.2.2.2.1)
    have k_xS5 : xS5 W := by
      rw [hW]
      exact (uxS5 rfl hI.2.2.2.2.2.2.2.2.2.2.2.2.2.2.2.2.2.2.2.2.2.2.2.2.2.1)
    have k_xS6 : xS6 W := by
      rw [hW]
      exact (uxS6 rfl hI.2.2.2.2.2.2.2.2.2.2.2.2.2.2.2.2.2.2.2.2.2.2.2.2.2.2.1)
    have k_xS7 : xS7 W := by
      rw [hW]
      exact (uxS7 rfl hI.2.2.2.2.2.2.2.2.2.2.2.2.2.2.2.2.2.2.2.2.2.2.2.2.2.2.2.1)
    have k_xS8 : xS8 W := by
      rw [hW]
      exact (uxS8 rfl hI.2.2.2.2.2.2.2.2.2.2.2.2.2.2.2.2.2.2.2.2.2.2.2.2.2.2.2.2.1)
    have k_xS9 : xS9 W := by
      rw [hW]
      exact (uxS9 rfl hI.2.2.2.2.2.2.2.2.2.2.2.2.2.2.2.2.2.2.2.2.2.2.2.2.2.2.2.2.2.1)
    have k_xSA : xSA W := by
      rw [hW]
      exact (uxSA rfl hI.2.2.2.2.2.2.2.2.2.2.2.2.2.2.2.2.2.2.2.2.2.2.2.2.2.2.2.2.2.2.1)
    have k_xSG : xSG W := by
      rw [hW]
      exact (uxSG rfl hI.2.2.2.2.2.2.2.2.2.2.2.2.2.2.2.2.2.2.2.2.2.2.2.2.2.2.2.2.2.2.2.1)
    have k_xSF : xSF W := by
      rw [hW]
      exact (uxSF rfl hI.2.2.2.2.2.2.2.2.2.2.2.2.2.2.2.2.2.2.2.2.2.2.2.2.2.2.2.2.2.2.2.2.1)
    have k_xSB : xSB W := by
      rw [hW]
      exact (uxSB rfl hI.2.2.2.2.2.2.2.2.2.2.2.2.2.2.2.2.2.2.2.2.2.2.2.2.2.2.2.2.2.2.2.2.2.1)
    have k_xSC : xSC W := by
      rw [hW]
      exact (uxSC rfl hI.2.2.2.2.2.2.2.2.2.2.2.2.2.2.2.2.2.2.2.2.2.2.2.2.2.2.2.2.2.2.2.2.2.2.1)
    have k_xSD : xSD W := by
      rw [hW]
      exact (uxSD rfl hI.2.2.2.2.2.2.2.2.2.2.2.2.2.2.2.2.2.2.2.2.2.2.2.2.2.2.2.2.2.2.2.2.2.2.2.1)
    have k_xSE : xSE W := by
      rw [hW]
      exact (uxSE rfl hI.2.2.2.2.2.2.2.2.2.2.2.2.2.2.2.2.2.2.2.2.2.2.2.2.2.2.2.2.2.2.2.2.2.2.2.2.1)
    have k_xSW : xSW W := by
      rw [hW]
      exact (uxSW rfl hI.2.2.2.2.2.2.2.2.2.2.2.2.2.2.2.2.2.2.2.2.2.2.2.2.2.2.2.2.2.2.2.2.2.2.2.2.2.1)
    have k_xST : xST W := by
      rw [hW]
      exact (uxST rfl hI.2.2.2.2.2.2.2.2.2.2.2.2.2.2.2.2.2.2.2.2.2.2.2.2.2.2.2.2.2.2.2.2.2.2.2.2.2.2.1)
    have k_xSP : xSP W := by
      rw [hW]
      exact (uxSP rfl hI.2.2.2.2.2.2.2.2.2.2.2.2.2.2.2.2.2.2.2.2.2.2.2.2.2.2.2.2.2.2.2.2.2.2.2.2.2.2.2.1)
    have k_xSL : xSL W := by
      rw [hW]
      exact (uxSL rfl hI.2.2.2.2.2.2.2.2.2.2.2.2.2.2.2.2.2.2.2.2.2.2.2.2.2.2.2.2.2.2.2.2.2.2.2.2.2.2.2.2.1)
    have k_xSM : xSM W := by
      rw [hW]
      exact (uxSM rfl hI.2.2.2.2.2.2.2.2.2.2.2.2.2.2.2.2.2.2.2.2.2.2.2.2.2.2.2.2.2.2.2.2.2.2.2.2.2.2.2.2.2.1)
    have k_xSI : xSI W := by
      rw [hW]
      exact (uxSI rfl hI.2.2.2.2.2.2.2.2.2.2.2.2.2.2.2.2.2.2.2.2.2.2.2.2.2.2.2.2.2.2.2.2.2.2.2.2.2.2.2.2.2.2.1)
    have k_xD3 : xD3 W := by
      rw [hW]
      exact (uxD3 rfl hI.2.2.2.2.2.2.2.2.2.2.2.2.2.2.2.2.2.2.2.2.2.2.2.2.2.2.2.2.2.2.2.2.2.2.2.2.2.2.2.2.2.2.2.1)
    have k_xDV : xDV W := by
      rw [hW]
      exact (uxDV rfl hI.2.2.2.2.2.2.2.2.2.2.2.2.2.2.2.2.2.2.2.2.2.2.2.2.2.2.2.2.2.2.2.2.2.2.2.2.2.2.2.2.2.2.2.2.1)
    have k_xDP : xDP W := by
      rw [hW]
      exact (uxDP rfl hI.2.2.2.2.2.2.2.2.2.2.2.2.2.2.2.2.2.2.2.2.2.2.2.2.2.2.2.2.2.2.2.2.2.2.2.2.2.2.2.2.2.2.2.2.2.1)
    have k_xDE : xDE W := by
      rw [hW]
      exact (uxDE rfl hI.2.2.2.2.2.2.2.2.2.2.2.2.2.2.2.2.2.2.2.2.2.2.2.2.2.2.2.2.2.2.2.2.2.2.2.2.2.2.2.2.2.2.2.2.2.2.1)
    have k_xQ5 : xQ5 W := by
      rw [hW]
      exact (uxQ5 rfl hI.2.2.2.2.2.2.2.2.2.2.2.2.2.2.2.2.2.2.2.2.2.2.2.2.2.2.2.2.2.2.2.2.2.2.2.2.2.2.2.2.2.2.2.2.2.2.2.1)
    have k_xQL : xQL W := by
      rw [hW]
      exact (uxQL rfl hI.2.2.2.2.2.2.2.2.2.2.2.2.2.2.2.2.2.2.2.2.2.2.2.2.2.2.2.2.2.2.2.2.2.2.2.2.2.2.2.2.2.2.2.2.2.2.2.2.1)
    have k_xQW : xQW W := by
      have r4_350 : W 4 350 = M 4 350 := by rw [hW, sU_ne (fun z => by omega)]
      have r4_380 : W 4 380 = M 4 380 := by rw [hW, sU_ne (fun z => by omega)]
      have r4_381 : W 4 381 = 0 := by rw [hW, sU_at]
      have r4_382 : W 4 382 = M 4 382 := by rw [hW, sU_ne (fun z => by omega)]
      have r93_0 : W 93 0 = M 93 0 := by rw [hW, sU_ne (fun z => by omega)]
      have c96 : ∀ k, W 96 k = M 96 k := fun k => by rw [hW, sU_ne (fun z => by omega)]
      have e96 : W 96 = M 96 := funext c96
      intro _
      have ho : ∀ w, dOw W w = dOw M w := fun w => by unfold dOw; rw [c96, r93_0]
      have hf : ∀ t : Int, (fun n : Nat => dOw W (t + n)) = (fun n : Nat => dOw M (t + n)) := fun t => funext fun n => ho _
      rw [r4_380, r4_381, r4_382, hf]
      (try rw [h0])

      obtain ⟨b1, b2, b3⟩ := gx_xQW hI (by omega)
      exact ⟨b1, Int.le_refl _, rfl⟩
    have k_xQM : xQM W := by
      rw [hW]
      exact (uxQM rfl hI.2.2.2.2.2.2.2.2.2.2.2.2.2.2.2.2.2.2.2.2.2.2.2.2.2.2.2.2.2.2.2.2.2.2.2.2.2.2.2.2.2.2.2.2.2.2.2.2.2.2.1)
    have k_xQH : xQH W := by
      rw [hW]
      exact (uxQH rfl hI.2.2.2.2.2.2.2.2.2.2.2.2.2.2.2.2.2.2.2.2.2.2.2.2.2.2.2.2.2.2.2.2.2.2.2.2.2.2.2.2.2.2.2.2.2.2.2.2.2.2.2)
    have k_XC : XC W := ⟨k_xS1, k_xS2, k_xS3, k_xS4, k_xS5, k_xS6, k_xS7, k_xS8, k_xS9, k_xSA, k_xSG, k_xSF, k_xSB, k_xSC, k_xSD, k_xSE, k_xSW, k_xST, k_xSP, k_xSL, k_xSM, k_xSI, k_xD3, k_xDV, k_xDP, k_xDE, k_xQ5, k_xQL, k_xQW, k_xQM, k_xQH⟩
    have kXB : XB W := ⟨k_xN1, k_xN2, k_xN3, k_xN4, k_xN5, k_xN6, k_xH1, k_xK1, k_xC1, k_xRW, k_xWT, k_xCU, k_xG2, k_xG3, k_xG4, k_xG5, k_xG6, k_XC⟩
    exact ⟨base, k2, k3, kXA, kXB⟩
-- vHitL
def xr_661 : qRu := (5, [[(-1, 0), (-1, 1), (-1, 2)], [(1, 2)], [(23, 0), (-1, 2)]], [(4, 350, [(27, 0)]), (4, 380, [(1, 1)]), (4, 381, [(1, 2)]), (93, 0, [(1, 3)]), (4, 382, [(1, 4)])], [], [], [[(-1, 2), (1, 4)], [(1, 2), (-1, 4)]])
theorem xo_661 : qRok xr_661 := by
  intro ρ M h0 hf hm hI
  have f0 := hf [(-1, 0), (-1, 1), (-1, 2)] (by decide)
  have f1 := hf [(1, 2)] (by decide)
  have f2 := hf [(23, 0), (-1, 2)] (by decide)
  simp only [qD, h0] at f0 f1 f2
  have m0 : M 4 350 = 27 * ρ 0 + 0 := hm (4, 350, [(27, 0)]) (by decide)
  have m1 : M 4 380 = 1 * ρ 1 + 0 := hm (4, 380, [(1, 1)]) (by decide)
  have m2 : M 4 381 = 1 * ρ 2 + 0 := hm (4, 381, [(1, 2)]) (by decide)
  have m3 : M 93 0 = 1 * ρ 3 + 0 := hm (93, 0, [(1, 3)]) (by decide)
  have m4 : M 4 382 = 1 * ρ 4 + 0 := hm (4, 382, [(1, 4)]) (by decide)
  simp only [h0] at m0
  obtain ⟨b1, b2, b3⟩ := gx_xQW hI (by omega)
  have hw : M 4 380 + ((M 4 381).toNat : Int) = ρ 1 + ρ 2 := by omega

  have hd : dOw M (M 4 380 + ((M 4 381).toNat : Int)) = 1 := by
    rw [hw]
    unfold dOw
    rw [if_pos (by omega)]
  have hh := tfi_hit (f := fun n : Nat => dOw M (M 4 380 + (n : Int))) b3 hd 24 (by omega)
  rw [hh] at b1
  refine ⟨ρ, fun _ _ => rfl, fun f h => ?_, ?_⟩
  · have h : f ∈ ([[(-1, 2), (1, 4)], [(1, 2), (-1, 4)]] : List qF) := h
    simp only [List.mem_cons, List.not_mem_nil, or_false] at h
    rcases h with rfl | rfl
    · show 0 ≤ -1 * ρ 2 + (1 * ρ 4 + 0)
      (try rw [h0]); omega
    · show 0 ≤ 1 * ρ 2 + (-1 * ρ 4 + 0)
      (try rw [h0]); omega
  · show sI M
    exact hI
-- vHitH
def xr_662 : qRu := (5, [[(1, 0), (1, 1), (1, 2), (-2, 3)], [(1, 2)], [(23, 0), (-1, 2)]], [(4, 350, [(27, 0)]), (4, 380, [(1, 1)]), (4, 381, [(1, 2)]), (93, 0, [(1, 3)]), (4, 382, [(1, 4)])], [], [], [[(-1, 2), (1, 4)], [(1, 2), (-1, 4)]])
theorem xo_662 : qRok xr_662 := by
  intro ρ M h0 hf hm hI
  have f0 := hf [(1, 0), (1, 1), (1, 2), (-2, 3)] (by decide)
  have f1 := hf [(1, 2)] (by decide)
  have f2 := hf [(23, 0), (-1, 2)] (by decide)
  simp only [qD, h0] at f0 f1 f2
  have m0 : M 4 350 = 27 * ρ 0 + 0 := hm (4, 350, [(27, 0)]) (by decide)
  have m1 : M 4 380 = 1 * ρ 1 + 0 := hm (4, 380, [(1, 1)]) (by decide)
  have m2 : M 4 381 = 1 * ρ 2 + 0 := hm (4, 381, [(1, 2)]) (by decide)
  have m3 : M 93 0 = 1 * ρ 3 + 0 := hm (93, 0, [(1, 3)]) (by decide)
  have m4 : M 4 382 = 1 * ρ 4 + 0 := hm (4, 382, [(1, 4)]) (by decide)
  simp only [h0] at m0
  obtain ⟨b1, b2, b3⟩ := gx_xQW hI (by omega)
  have hw : M 4 380 + ((M 4 381).toNat : Int) = ρ 1 + ρ 2 := by omega

  have hd : dOw M (M 4 380 + ((M 4 381).toNat : Int)) = 1 := by
    rw [hw]
    unfold dOw
    rw [if_pos (by omega)]
  have hh := tfi_hit (f := fun n : Nat => dOw M (M 4 380 + (n : Int))) b3 hd 24 (by omega)
  rw [hh] at b1
  refine ⟨ρ, fun _ _ => rfl, fun f h => ?_, ?_⟩
  · have h : f ∈ ([[(-1, 2), (1, 4)], [(1, 2), (-1, 4)]] : List qF) := h
    simp only [List.mem_cons, List.not_mem_nil, or_false] at h
    rcases h with rfl | rfl
    · show 0 ≤ -1 * ρ 2 + (1 * ρ 4 + 0)
      (try rw [h0]); omega
    · show 0 ≤ 1 * ρ 2 + (-1 * ρ 4 + 0)
      (try rw [h0]); omega
  · show sI M
    exact hI
-- vHitR
def xr_663 : qRu := (7, [[(1, 1), (1, 2), (-2, 5)], [(-1, 1), (-1, 2), (2, 5)], [(1, 5)], [(-2, 0), (-1, 1), (-1, 2), (2, 3)], [(-1, 0), (1, 6)], [(1, 0), (-1, 6)], [(1, 2)], [(23, 0), (-1, 2)]], [(4, 350, [(27, 0)]), (4, 380, [(1, 1)]), (4, 381, [(1, 2)]), (93, 0, [(1, 3)]), (96, 1005, [(1, 6)]), (4, 382, [(1, 4)])], [], [], [[(-1, 2), (1, 4)], [(1, 2), (-1, 4)]])
theorem xo_663 : qRok xr_663 := by
  intro ρ M h0 hf hm hI
  have f0 := hf [(1, 1), (1, 2), (-2, 5)] (by decide)
  have f1 := hf [(-1, 1), (-1, 2), (2, 5)] (by decide)
  have f2 := hf [(1, 5)] (by decide)
  have f3 := hf [(-2, 0), (-1, 1), (-1, 2), (2, 3)] (by decide)
  have f4 := hf [(-1, 0), (1, 6)] (by decide)
  have f5 := hf [(1, 0), (-1, 6)] (by decide)
  have f6 := hf [(1, 2)] (by decide)
  have f7 := hf [(23, 0), (-1, 2)] (by decide)
  simp only [qD, h0] at f0 f1 f2 f3 f4 f5 f6 f7
  have m0 : M 4 350 = 27 * ρ 0 + 0 := hm (4, 350, [(27, 0)]) (by decide)
  have m1 : M 4 380 = 1 * ρ 1 + 0 := hm (4, 380, [(1, 1)]) (by decide)
  have m2 : M 4 381 = 1 * ρ 2 + 0 := hm (4, 381, [(1, 2)]) (by decide)
  have m3 : M 93 0 = 1 * ρ 3 + 0 := hm (93, 0, [(1, 3)]) (by decide)
  have m4 : M 96 (zIx ρ (1000 + 5)) = 1 * ρ 6 + 0 := hm (96, 1005, [(1, 6)]) (by decide)
  rw [zix_p] at m4
  have m5 : M 4 382 = 1 * ρ 4 + 0 := hm (4, 382, [(1, 4)]) (by decide)
  simp only [h0] at m0
  obtain ⟨b1, b2, b3⟩ := gx_xQW hI (by omega)
  have hw : M 4 380 + ((M 4 381).toNat : Int) = ρ 1 + ρ 2 := by omega

  have hd : dOw M (M 4 380 + ((M 4 381).toNat : Int)) = 1 := by
    rw [hw]
    unfold dOw
    rw [if_neg (by omega), if_pos (by omega), show (ρ 1 + ρ 2) / 2 = ρ 5 by omega]
    omega
  have hh := tfi_hit (f := fun n : Nat => dOw M (M 4 380 + (n : Int))) b3 hd 24 (by omega)
  rw [hh] at b1
  refine ⟨ρ, fun _ _ => rfl, fun f h => ?_, ?_⟩
  · have h : f ∈ ([[(-1, 2), (1, 4)], [(1, 2), (-1, 4)]] : List qF) := h
    simp only [List.mem_cons, List.not_mem_nil, or_false] at h
    rcases h with rfl | rfl
    · show 0 ≤ -1 * ρ 2 + (1 * ρ 4 + 0)
      (try rw [h0]); omega
    · show 0 ≤ 1 * ρ 2 + (-1 * ρ 4 + 0)
      (try rw [h0]); omega
  · show sI M
    exact hI
-- vMissB
def xr_664 : qRu := (5, [[(-1, 0), (1, 1), (1, 2), (-2, 4)], [(1, 0), (-1, 1), (-1, 2), (2, 4)], [(1, 4)], [(-2, 0), (-1, 1), (-1, 2), (2, 3)], [(1, 2)]], [(4, 350, [(27, 0)]), (4, 380, [(1, 1)]), (4, 381, [(1, 2)]), (93, 0, [(1, 3)])], [], [(4, 381, [(1, 0), (1, 2)])], [])
theorem xo_664 : qRok xr_664 := by
  intro ρ M h0 hf hm hI
  have f0 := hf [(-1, 0), (1, 1), (1, 2), (-2, 4)] (by decide)
  have f1 := hf [(1, 0), (-1, 1), (-1, 2), (2, 4)] (by decide)
  have f2 := hf [(1, 4)] (by decide)
  have f3 := hf [(-2, 0), (-1, 1), (-1, 2), (2, 3)] (by decide)
  have f4 := hf [(1, 2)] (by decide)
  simp only [qD, h0] at f0 f1 f2 f3 f4
  have m0 : M 4 350 = 27 * ρ 0 + 0 := hm (4, 350, [(27, 0)]) (by decide)
  have m1 : M 4 380 = 1 * ρ 1 + 0 := hm (4, 380, [(1, 1)]) (by decide)
  have m2 : M 4 381 = 1 * ρ 2 + 0 := hm (4, 381, [(1, 2)]) (by decide)
  have m3 : M 93 0 = 1 * ρ 3 + 0 := hm (93, 0, [(1, 3)]) (by decide)
  simp only [h0] at m0
  have qxQW := hI.2.2.2.2.2.2.2.2.2.2.2.2.2.2.2.2.2.2.2.2.2.2.2.2.2.2.2.2.2.2.2.2.2.2.2.2.2.2.2.2.2.2.2.2.2.2.2.2.2.1
  refine ⟨ρ, fun _ _ => rfl, fun f h => ?_, ?_⟩
  · exact nomatch h
  · show sI (sU M 4 381 (1 * ρ 0 + (1 * ρ 2 + 0)))
    obtain ⟨W, hW⟩ : ∃ W, W = (sU M 4 381 (1 * ρ 0 + (1 * ρ 2 + 0))) := ⟨_, rfl⟩
    rw [← hW]
    have base : sI0 W := by
      rw [hW]
      exact (si_u0 hI.1 (fun r hr => by cases hr))
    have k2 : XI2 W := by
      rw [hW]
      exact (xi2_u rfl hI.2.1)
    have k3 : XI3 W := by
      rw [hW]
      exact (xi3_u rfl hI.2.2.1)
    have kXA : XA W := by
      rw [hW]
      exact (uXA rfl hI.2.2.2.1)
    have k_xN1 : xN1 W := by
      rw [hW]
      exact (uxN1 rfl hI.2.2.2.2.1)
    have k_xN2 : xN2 W := by
      rw [hW]
      exact (uxN2 rfl hI.2.2.2.2.2.1)
    have k_xN3 : xN3 W := by
      rw [hW]
      exact (uxN3 rfl hI.2.2.2.2.2.2.1)
    have k_xN4 : xN4 W := by
      rw [hW]
      exact (uxN4 rfl hI.2.2.2.2.2.2.2.1)
    have k_xN5 : xN5 W := by
      rw [hW]
      exact (uxN5 rfl hI.2.2.2.2.2.2.2.2.1)
    have k_xN6 : xN6 W := by
      rw [hW]
      exact (uxN6 rfl hI.2.2.2.2.2.2.2.2.2.1)
    have k_xH1 : xH1 W := by
      rw [hW]
      exact (uxH1 rfl hI.2.2.2.2.2.2.2.2.2.2.1)
    have k_xK1 : xK1 W := by
      rw [hW]
      exact (uxK1 rfl hI.2.2.2.2.2.2.2.2.2.2.2.1)
    have k_xC1 : xC1 W := by
      rw [hW]
      exact (uxC1 rfl hI.2.2.2.2.2.2.2.2.2.2.2.2.1)
    have k_xRW : xRW W := by
      rw [hW]
      exact (uxRW rfl hI.2.2.2.2.2.2.2.2.2.2.2.2.2.1)
    have k_xWT : xWT W := by
      rw [hW]
      exact (uxWT rfl hI.2.2.2.2.2.2.2.2.2.2.2.2.2.2.1)
    have k_xCU : xCU W := by
      rw [hW]
      exact (uxCU rfl hI.2.2.2.2.2.2.2.2.2.2.2.2.2.2.2.1)
    have k_xG2 : xG2 W := by
      rw [hW]
      exact (uxG2 rfl hI.2.2.2.2.2.2.2.2.2.2.2.2.2.2.2.2.1)
    have k_xG3 : xG3 W := by
      rw [hW]
      exact (uxG3 rfl hI.2.2.2.2.2.2.2.2.2.2.2.2.2.2.2.2.2.1)
    have k_xG4 : xG4 W := by
      rw [hW]
      exact (uxG4 rfl hI.2.2.2.2.2.2.2.2.2.2.2.2.2.2.2.2.2.2.1)
    have k_xG5 : xG5 W := by
      rw [hW]
      exact (uxG5 rfl hI.2.2.2.2.2.2.2.2.2.2.2.2.2.2.2.2.2.2.2.1)
    have k_xG6 : xG6 W := by
      rw [hW]
      exact (uxG6 rfl hI.2.2.2.2.2.2.2.2.2.2.2.2.2.2.2.2.2.2.2.2.1)
    have k_xS1 : xS1 W := by
      rw [hW]
      exact (uxS1 rfl hI.2.2.2.2.2.2.2.2.2.2.2.2.2.2.2.2.2.2.2.2.2.1)
    have k_xS2 : xS2 W := by
      rw [hW]
      exact (uxS2 rfl hI.2.2.2.2.2.2.2.2.2.2.2.2.2.2.2.2.2.2.2.2.2.2.1)
    have k_xS3 : xS3 W := by
      rw [hW]
      exact (uxS3 rfl hI.2.2.2.2.2.2.2.2.2.2.2.2.2.2.2.2.2.2.2.2.2.2.2.1)
    have k_xS4 : xS4 W := by
      rw [hW]
      exact (uxS4 rfl hI.2.2.2.2.2.2.2.2.2.2.2.2.2.2.2.2.2.2.2.2.2.2.2.2.1)
    have k_xS5 : xS5 W := by
      rw [hW]
      exact (uxS5 rfl hI.2.2.2.2.2.2.2.2.2.2.2.2.2.2.2.2.2.2.2.2.2.2.2.2.2.1)
    have k_xS6 : xS6 W := by
      rw [hW]
      exact (uxS6 rfl hI.2.2.2.2.2.2.2.2.2.2.2.2.2.2.2.2.2.2.2.2.2.2.2.2.2.2.1)
    have k_xS7 : xS7 W := by
      rw [hW]
      exact (uxS7 rfl hI.2.2.2.2.2.2.2.2.2.2.2.2.2.2.2.2.2.2.2.2.2.2.2.2.2.2.2.1)
    have k_xS8 : xS8 W := by
      rw [hW]
      exact (uxS8 rfl hI.2.2.2.2.2.2.2.2.2.2.2.2.2.2.2.2.2.2.2.2.2.2.2.2.2.2.2.2.1)
    have k_xS9 : xS9 W := by
      rw [hW]
      exact (uxS9 rfl hI.2.2.2.2.2.2.2.2.2.2.2.2.2.2.2.2.2.2.2.2.2.2.2.2.2.2.2.2.2.1)
    have k_xSA : xSA W := by
      rw [hW]
      exact (uxSA rfl hI.2.2.2.2.2.2.2.2.2.2.2.2.2.2.2.2.2.2.2.2.2.2.2.2.2.2.2.2.2.2.1)
    have k_xSG : xSG W := by
      rw [hW]
      exact (uxSG rfl hI.2.2.2.2.2.2.2.2.2.2.2.2.2.2.2.2.2.2.2.2.2.2.2.2.2.2.2.2.2.2.2.1)
    have k_xSF : xSF W := by
      rw [hW]
      exact (uxSF rfl hI.2.2.2.2.2.2.2.2.2.2.2.2.2.2.2.2.2.2.2.2.2.2.2.2.2.2.2.2.2.2.2.2.1)
    have k_xSB : xSB W := by
      rw [hW]
      exact (uxSB rfl hI.2.2.2.2.2.2.2.2.2.2.2.2.2.2.2.2.2.2.2.2.2.2.2.2.2.2.2.2.2.2.2.2.2.1)
    have k_xSC : xSC W := by
      rw [hW]
      exact (uxSC rfl hI.2.2.2.2.2.2.2.2.2.2.2.2.2.2.2.2.2.2.2.2.2.2.2.2.2.2.2.2.2.2.2.2.2.2.1)
    have k_xSD : xSD W := by
      rw [hW]
      exact (uxSD rfl hI.2.2.2.2.2.2.2.2.2.2.2.2.2.2.2.2.2.2.2.2.2.2.2.2.2.2.2.2.2.2.2.2.2.2.2.1)
    have k_xSE : xSE W := by
      rw [hW]
      exact (uxSE rfl hI.2.2.2.2.2.2.2.2.2.2.2.2.2.2.2.2.2.2.2.2.2.2.2.2.2.2.2.2.2.2.2.2.2.2.2.2.1)
    have k_xSW : xSW W := by
      rw [hW]
      exact (uxSW rfl hI.2.2.2.2.2.2.2.2.2.2.2.2.2.2.2.2.2.2.2.2.2.2.2.2.2.2.2.2.2.2.2.2.2.2.2.2.2.1)
    have k_xST : xST W := by
      rw [hW]
      exact (uxST rfl hI.2.2.2.2.2.2.2.2.2.2.2.2.2.2.2.2.2.2.2.2.2.2.2.2.2.2.2.2.2.2.2.2.2.2.2.2.2.2.1)
    have k_xSP : xSP W := by
      rw [hW]
      exact (uxSP rfl hI.2.2.2.2.2.2.2.2.2.2.2.2.2.2.2.2.2.2.2.2.2.2.2.2.2.2.2.2.2.2.2.2.2.2.2.2.2.2.2.1)
    have k_xSL : xSL W := by
      rw [hW]
      exact (uxSL rfl hI.2.2.2.2.2.2.2.2.2.2.2.2.2.2.2.2.2.2.2.2.2.2.2.2.2.2.2.2.2.2.2.2.2.2.2.2.2.2.2.2.1)
    have k_xSM : xSM W := by
      rw [hW]
      exact (uxSM rfl hI.2.2.2.2.2.2.2.2.2.2.2.2.2.2.2.2.2.2.2.2.2.2.2.2.2.2.2.2.2.2.2.2.2.2.2.2.2.2.2.2.2.1)
    have k_xSI : xSI W := by
      rw [hW]
      exact (uxSI rfl hI.2.2.2.2.2.2.2.2.2.2.2.2.2.2.2.2.2.2.2.2.2.2.2.2.2.2.2.2.2.2.2.2.2.2.2.2.2.2.2.2.2.2.1)
    have k_xD3 : xD3 W := by
      rw [hW]
      exact (uxD3 rfl hI.2.2.2.2.2.2.2.2.2.2.2.2.2.2.2.2.2.2.2.2.2.2.2.2.2.2.2.2.2.2.2.2.2.2.2.2.2.2.2.2.2.2.2.1)
    have k_xDV : xDV W := by
      rw [hW]
      exact (uxDV rfl hI.2.2.2.2.2.2.2.2.2.2.2.2.2.2.2.2.2.2.2.2.2.2.2.2.2.2.2.2.2.2.2.2.2.2.2.2.2.2.2.2.2.2.2.2.1)
    have k_xDP : xDP W := by
      rw [hW]
      exact (uxDP rfl hI.2.2.2.2.2.2.2.2.2.2.2.2.2.2.2.2.2.2.2.2.2.2.2.2.2.2.2.2.2.2.2.2.2.2.2.2.2.2.2.2.2.2.2.2.2.1)
    have k_xDE : xDE W := by
      rw [hW]
      exact (uxDE rfl hI.2.2.2.2.2.2.2.2.2.2.2.2.2.2.2.2.2.2.2.2.2.2.2.2.2.2.2.2.2.2.2.2.2.2.2.2.2.2.2.2.2.2.2.2.2.2.1)
    have k_xQ5 : xQ5 W := by
      rw [hW]
      exact (uxQ5 rfl hI.2.2.2.2.2.2.2.2.2.2.2.2.2.2.2.2.2.2.2.2.2.2.2.2.2.2.2.2.2.2.2.2.2.2.2.2.2.2.2.2.2.2.2.2.2.2.2.1)
    have k_xQL : xQL W := by
      rw [hW]
      exact (uxQL rfl hI.2.2.2.2.2.2.2.2.2.2.2.2.2.2.2.2.2.2.2.2.2.2.2.2.2.2.2.2.2.2.2.2.2.2.2.2.2.2.2.2.2.2.2.2.2.2.2.2.1)
    have k_xQW : xQW W := by
      have r4_350 : W 4 350 = M 4 350 := by rw [hW, sU_ne (fun z => by omega)]
      have r4_380 : W 4 380 = M 4 380 := by rw [hW, sU_ne (fun z => by omega)]
      have r4_381 : W 4 381 = 1 * ρ 0 + (1 * ρ 2 + 0) := by rw [hW, sU_at]
      have r4_382 : W 4 382 = M 4 382 := by rw [hW, sU_ne (fun z => by omega)]
      have r93_0 : W 93 0 = M 93 0 := by rw [hW, sU_ne (fun z => by omega)]
      have c96 : ∀ k, W 96 k = M 96 k := fun k => by rw [hW, sU_ne (fun z => by omega)]
      have e96 : W 96 = M 96 := funext c96
      intro _
      have ho : ∀ w, dOw W w = dOw M w := fun w => by unfold dOw; rw [c96, r93_0]
      have hf : ∀ t : Int, (fun n : Nat => dOw W (t + n)) = (fun n : Nat => dOw M (t + n)) := fun t => funext fun n => ho _
      rw [r4_380, r4_381, r4_382, hf]
      (try rw [h0])

      obtain ⟨b1, b2, b3⟩ := gx_xQW hI (by omega)
      have hw : M 4 380 + ((M 4 381).toNat : Int) = ρ 1 + ρ 2 := by omega
      refine ⟨b1, by omega, ?_⟩
      rw [show (1 * 1 + (1 * ρ 2 + 0) : Int).toNat = (M 4 381).toNat + 1 by omega]
      refine tfi_no b3 ?_
      show dOw M (M 4 380 + ((M 4 381).toNat : Int)) ≠ 1
      rw [hw]
      unfold dOw
      rw [if_neg (by omega), if_neg (by omega)]
      omega
    have k_xQM : xQM W := by
      rw [hW]
      exact (uxQM rfl hI.2.2.2.2.2.2.2.2.2.2.2.2.2.2.2.2.2.2.2.2.2.2.2.2.2.2.2.2.2.2.2.2.2.2.2.2.2.2.2.2.2.2.2.2.2.2.2.2.2.2.1)
    have k_xQH : xQH W := by
      rw [hW]
      exact (uxQH rfl hI.2.2.2.2.2.2.2.2.2.2.2.2.2.2.2.2.2.2.2.2.2.2.2.2.2.2.2.2.2.2.2.2.2.2.2.2.2.2.2.2.2.2.2.2.2.2.2.2.2.2.2)
    have k_XC : XC W := ⟨k_xS1, k_xS2, k_xS3, k_xS4, k_xS5, k_xS6, k_xS7, k_xS8, k_xS9, k_xSA, k_xSG, k_xSF, k_xSB, k_xSC, k_xSD, k_xSE, k_xSW, k_xST, k_xSP, k_xSL, k_xSM, k_xSI, k_xD3, k_xDV, k_xDP, k_xDE, k_xQ5, k_xQL, k_xQW, k_xQM, k_xQH⟩
    have kXB : XB W := ⟨k_xN1, k_xN2, k_xN3, k_xN4, k_xN5, k_xN6, k_xH1, k_xK1, k_xC1, k_xRW, k_xWT, k_xCU, k_xG2, k_xG3, k_xG4, k_xG5, k_xG6, k_XC⟩
    exact ⟨base, k2, k3, kXA, kXB⟩
-- vMissR
def xr_665 : qRu := (6, [[(1, 1), (1, 2), (-2, 4)], [(-1, 1), (-1, 2), (2, 4)], [(1, 4)], [(-2, 0), (-1, 1), (-1, 2), (2, 3)], [(-1, 5)], [(1, 2)]], [(4, 350, [(27, 0)]), (4, 380, [(1, 1)]), (4, 381, [(1, 2)]), (93, 0, [(1, 3)]), (96, 1004, [(1, 5)])], [], [(4, 381, [(1, 0), (1, 2)])], [])
theorem xo_665 : qRok xr_665 := by
  intro ρ M h0 hf hm hI
  have f0 := hf [(1, 1), (1, 2), (-2, 4)] (by decide)
  have f1 := hf [(-1, 1), (-1, 2), (2, 4)] (by decide)
  have f2 := hf [(1, 4)] (by decide)
  have f3 := hf [(-2, 0), (-1, 1), (-1, 2), (2, 3)] (by decide)
  have f4 := hf [(-1, 5)] (by decide)
  have f5 := hf [(1, 2)] (by decide)
  simp only [qD, h0] at f0 f1 f2 f3 f4 f5
  have m0 : M 4 350 = 27 * ρ 0 + 0 := hm (4, 350, [(27, 0)]) (by decide)
  have m1 : M 4 380 = 1 * ρ 1 + 0 := hm (4, 380, [(1, 1)]) (by decide)
  have m2 : M 4 381 = 1 * ρ 2 + 0 := hm (4, 381, [(1, 2)]) (by decide)
  have m3 : M 93 0 = 1 * ρ 3 + 0 := hm (93, 0, [(1, 3)]) (by decide)
  have m4 : M 96 (zIx ρ (1000 + 4)) = 1 * ρ 5 + 0 := hm (96, 1004, [(1, 5)]) (by decide)
  rw [zix_p] at m4
  simp only [h0] at m0
  have qxQW := hI.2.2.2.2.2.2.2.2.2.2.2.2.2.2.2.2.2.2.2.2.2.2.2.2.2.2.2.2.2.2.2.2.2.2.2.2.2.2.2.2.2.2.2.2.2.2.2.2.2.1
  refine ⟨ρ, fun _ _ => rfl, fun f h => ?_, ?_⟩
  · exact nomatch h
  · show sI (sU M 4 381 (1 * ρ 0 + (1 * ρ 2 + 0)))
    obtain ⟨W, hW⟩ : ∃ W, W = (sU M 4 381 (1 * ρ 0 + (1 * ρ 2 + 0))) := ⟨_, rfl⟩
    rw [← hW]
    have base : sI0 W := by
      rw [hW]
      exact (si_u0 hI.1 (fun r hr => by cases hr))
    have k2 : XI2 W := by
      rw [hW]
      exact (xi2_u rfl hI.2.1)
    have k3 : XI3 W := by
      rw [hW]
      exact (xi3_u rfl hI.2.2.1)
    have kXA : XA W := by
      rw [hW]
      exact (uXA rfl hI.2.2.2.1)
    have k_xN1 : xN1 W := by
      rw [hW]
      exact (uxN1 rfl hI.2.2.2.2.1)
    have k_xN2 : xN2 W := by
      rw [hW]
      exact (uxN2 rfl hI.2.2.2.2.2.1)
    have k_xN3 : xN3 W := by
      rw [hW]
      exact (uxN3 rfl hI.2.2.2.2.2.2.1)
    have k_xN4 : xN4 W := by
      rw [hW]
      exact (uxN4 rfl hI.2.2.2.2.2.2.2.1)
    have k_xN5 : xN5 W := by
      rw [hW]
      exact (uxN5 rfl hI.2.2.2.2.2.2.2.2.1)
    have k_xN6 : xN6 W := by
      rw [hW]
      exact (uxN6 rfl hI.2.2.2.2.2.2.2.2.2.1)
    have k_xH1 : xH1 W := by
      rw [hW]
      exact (uxH1 rfl hI.2.2.2.2.2.2.2.2.2.2.1)
    have k_xK1 : xK1 W := by
      rw [hW]
      exact (uxK1 rfl hI.2.2.2.2.2.2.2.2.2.2.2.1)
    have k_xC1 : xC1 W := by
      rw [hW]
      exact (uxC1 rfl hI.2.2.2.2.2.2.2.2.2.2.2.2.1)
    have k_xRW : xRW W := by
      rw [hW]
      exact (uxRW rfl hI.2.2.2.2.2.2.2.2.2.2.2.2.2.1)
    have k_xWT : xWT W := by
      rw [hW]
      exact (uxWT rfl hI.2.2.2.2.2.2.2.2.2.2.2.2.2.2.1)
    have k_xCU : xCU W := by
      rw [hW]
      exact (uxCU rfl hI.2.2.2.2.2.2.2.2.2.2.2.2.2.2.2.1)
    have k_xG2 : xG2 W := by
      rw [hW]
      exact (uxG2 rfl hI.2.2.2.2.2.2.2.2.2.2.2.2.2.2.2.2.1)
    have k_xG3 : xG3 W := by
      rw [hW]
      exact (uxG3 rfl hI.2.2.2.2.2.2.2.2.2.2.2.2.2.2.2.2.2.1)
    have k_xG4 : xG4 W := by
      rw [hW]
      exact (uxG4 rfl hI.2.2.2.2.2.2.2.2.2.2.2.2.2.2.2.2.2.2.1)
    have k_xG5 : xG5 W := by
      rw [hW]
      exact (uxG5 rfl hI.2.2.2.2.2.2.2.2.2.2.2.2.2.2.2.2.2.2.2.1)
    have k_xG6 : xG6 W := by
      rw [hW]
      exact (uxG6 rfl hI.2.2.2.2.2.2.2.2.2.2.2.2.2.2.2.2.2.2.2.2.1)
    have k_xS1 : xS1 W := by
      rw [hW]
      exact (uxS1 rfl hI.2.2.2.2.2.2.2.2.2.2.2.2.2.2.2.2.2.2.2.2.2.1)
    have k_xS2 : xS2 W := by
      rw [hW]
      exact (uxS2 rfl hI.2.2.2.2.2.2.2.2.2.2.2.2.2.2.2.2.2.2.2.2.2.2.1)
    have k_xS3 : xS3 W := by
      rw [hW]
      exact (uxS3 rfl hI.2.2.2.2.2.2.2.2.2.2.2.2.2.2.2.2.2.2.2.2.2.2.2.1)
    have k_xS4 : xS4 W := by
      rw [hW]
      exact (uxS4 rfl hI.2.2.2.2.2.2.2.2.2.2.2.2.2.2.2.2.2.2.2.2.2.2.2.2.1)
    have k_xS5 : xS5 W := by
      rw [hW]
      exact (uxS5 rfl hI.2.2.2.2.2.2.2.2.2.2.2.2.2.2.2.2.2.2.2.2.2.2.2.2.2.1)
    have k_xS6 : xS6 W := by
      rw [hW]
      exact (uxS6 rfl hI.2.2.2.2.2.2.2.2.2.2.2.2.2.2.2.2.2.2.2.2.2.2.2.2.2.2.1)
    have k_xS7 : xS7 W := by
      rw [hW]
      exact (uxS7 rfl hI.2.2.2.2.2.2.2.2.2.2.2.2.2.2.2.2.2.2.2.2.2.2.2.2.2.2.2.1)
    have k_xS8 : xS8 W := by
      rw [hW]
      exact (uxS8 rfl hI.2.2.2.2.2.2.2.2.2.2.2.2.2.2.2.2.2.2.2.2.2.2.2.2.2.2.2.2.1)
    have k_xS9 : xS9 W := by
      rw [hW]
      exact (uxS9 rfl hI.2.2.2.2.2.2.2.2.2.2.2.2.2.2.2.2.2.2.2.2.2.2.2.2.2.2.2.2.2.1)
    have k_xSA : xSA W := by
      rw [hW]
      exact (uxSA rfl hI.2.2.2.2.2.2.2.2.2.2.2.2.2.2.2.2.2.2.2.2.2.2.2.2.2.2.2.2.2.2.1)
    have k_xSG : xSG W := by
      rw [hW]
      exact (uxSG rfl hI.2.2.2.2.2.2.2.2.2.2.2.2.2.2.2.2.2.2.2.2.2.2.2.2.2.2.2.2.2.2.2.1)
    have k_xSF : xSF W := by
      rw [hW]
      exact (uxSF rfl hI.2.2.2.2.2.2.2.2.2.2.2.2.2.2.2.2.2.2.2.2.2.2.2.2.2.2.2.2.2.2.2.2.1)
    have k_xSB : xSB W := by
      rw [hW]
      exact (uxSB rfl hI.2.2.2.2.2.2.2.2.2.2.2.2.2.2.2.2.2.2.2.2.2.2.2.2.2.2.2.2.2.2.2.2.2.1)
    have k_xSC : xSC W := by
      rw [hW]
      exact (uxSC rfl hI.2.2.2.2.2.2.2.2.2.2.2.2.2.2.2.2.2.2.2.2.2.2.2.2.2.2.2.2.2.2.2.2.2.2.1)
    have k_xSD : xSD W := by
      rw [hW]
      exact (uxSD rfl hI.2.2.2.2.2.2.2.2.2.2.2.2.2.2.2.2.2.2.2.2.2.2.2.2.2.2.2.2.2.2.2.2.2.2.2.1)
    have k_xSE : xSE W := by
      rw [hW]
      exact (uxSE rfl hI.2.2.2.2.2.2.2.2.2.2.2.2.2.2.2.2.2.2.2.2.2.2.2.2.2.2.2.2.2.2.2.2.2.2.2.2.1)
    have k_xSW : xSW W := by
      rw [hW]
      exact (uxSW rfl hI.2.2.2.2.2.2.2.2.2.2.2.2.2.2.2.2.2.2.2.2.2.2.2.2.2.2.2.2.2.2.2.2.2.2.2.2.2.1)
    have k_xST : xST W := by
      rw [hW]
      exact (uxST rfl hI.2.2.2.2.2.2.2.2.2.2.2.2.2.2.2.2.2.2.2.2.2.2.2.2.2.2.2.2.2.2.2.2.2.2.2.2.2.2.1)
    have k_xSP : xSP W := by
      rw [hW]
      exact (uxSP rfl hI.2.2.2.2.2.2.2.2.2.2.2.2.2.2.2.2.2.2.2.2.2.2.2.2.2.2.2.2.2.2.2.2.2.2.2.2.2.2.2.1)
    have k_xSL : xSL W := by
      rw [hW]
      exact (uxSL rfl hI.2.2.2.2.2.2.2.2.2.2.2.2.2.2.2.2.2.2.2.2.2.2.2.2.2.2.2.2.2.2.2.2.2.2.2.2.2.2.2.2.1)
    have k_xSM : xSM W := by
      rw [hW]
      exact (uxSM rfl hI.2.2.2.2.2.2.2.2.2.2.2.2.2.2.2.2.2.2.2.2.2.2.2.2.2.2.2.2.2.2.2.2.2.2.2.2.2.2.2.2.2.1)
    have k_xSI : xSI W := by
      rw [hW]
      exact (uxSI rfl hI.2.2.2.2.2.2.2.2.2.2.2.2.2.2.2.2.2.2.2.2.2.2.2.2.2.2.2.2.2.2.2.2.2.2.2.2.2.2.2.2.2.2.1)
    have k_xD3 : xD3 W := by
      rw [hW]
      exact (uxD3 rfl hI.2.2.2.2.2.2.2.2.2.2.2.2.2.2.2.2.2.2.2.2.2.2.2.2.2.2.2.2.2.2.2.2.2.2.2.2.2.2.2.2.2.2.2.1)
    have k_xDV : xDV W := by
      rw [hW]
      exact (uxDV rfl hI.2.2.2.2.2.2.2.2.2.2.2.2.2.2.2.2.2.2.2.2.2.2.2.2.2.2.2.2.2.2.2.2.2.2.2.2.2.2.2.2.2.2.2.2.1)
    have k_xDP : xDP W := by
      rw [hW]
      exact (uxDP rfl hI.2.2.2.2.2.2.2.2.2.2.2.2.2.2.2.2.2.2.2.2.2.2.2.2.2.2.2.2.2.2.2.2.2.2.2.2.2.2.2.2.2.2.2.2.2.1)
    have k_xDE : xDE W := by
      rw [hW]
      exact (uxDE rfl hI.2.2.2.2.2.2.2.2.2.2.2.2.2.2.2.2.2.2.2.2.2.2.2.2.2.2.2.2.2.2.2.2.2.2.2.2.2.2.2.2.2.2.2.2.2.2.1)
    have k_xQ5 : xQ5 W := by
      rw [hW]
      exact (uxQ5 rfl hI.2.2.2.2.2.2.2.2.2.2.2.2.2.2.2.2.2.2.2.2.2.2.2.2.2.2.2.2.2.2.2.2.2.2.2.2.2.2.2.2.2.2.2.2.2.2.2.1)
    have k_xQL : xQL W := by
      rw [hW]
      exact (uxQL rfl hI.2.2.2.2.2.2.2.2.2.2.2.2.2.2.2.2.2.2.2.2.2.2.2.2.2.2.2.2.2.2.2.2.2.2.2.2.2.2.2.2.2.2.2.2.2.2.2.2.1)
    have k_xQW : xQW W := by
      have r4_350 : W 4 350 = M 4 350 := by rw [hW, sU_ne (fun z => by omega)]
      have r4_380 : W 4 380 = M 4 380 := by rw [hW, sU_ne (fun z => by omega)]
      have r4_381 : W 4 381 = 1 * ρ 0 + (1 * ρ 2 + 0) := by rw [hW, sU_at]
      have r4_382 : W 4 382 = M 4 382 := by rw [hW, sU_ne (fun z => by omega)]
      have r93_0 : W 93 0 = M 93 0 := by rw [hW, sU_ne (fun z => by omega)]
      have c96 : ∀ k, W 96 k = M 96 k := fun k => by rw [hW, sU_ne (fun z => by omega)]
      have e96 : W 96 = M 96 := funext c96
      intro _
      have ho : ∀ w, dOw W w = dOw M w := fun w => by unfold dOw; rw [c96, r93_0]
      have hf : ∀ t : Int, (fun n : Nat => dOw W (t + n)) = (fun n : Nat => dOw M (t + n)) := fun t => funext fun n => ho _
      rw [r4_380, r4_381, r4_382, hf]
      (try rw [h0])

      obtain ⟨b1, b2, b3⟩ := gx_xQW hI (by omega)
      have hw : M 4 380 + ((M 4 381).toNat : Int) = ρ 1 + ρ 2 := by omega
      refine ⟨b1, by omega, ?_⟩
      rw [show (1 * 1 + (1 * ρ 2 + 0) : Int).toNat = (M 4 381).toNat + 1 by omega]
      refine tfi_no b3 ?_
      show dOw M (M 4 380 + ((M 4 381).toNat : Int)) ≠ 1
      rw [hw]
      unfold dOw
      rw [if_neg (by omega), if_pos (by omega), show (ρ 1 + ρ 2) / 2 = ρ 4 by omega]
      omega
    have k_xQM : xQM W := by
      rw [hW]
      exact (uxQM rfl hI.2.2.2.2.2.2.2.2.2.2.2.2.2.2.2.2.2.2.2.2.2.2.2.2.2.2.2.2.2.2.2.2.2.2.2.2.2.2.2.2.2.2.2.2.2.2.2.2.2.2.1)
    have k_xQH : xQH W := by
      rw [hW]
      exact (uxQH rfl hI.2.2.2.2.2.2.2.2.2.2.2.2.2.2.2.2.2.2.2.2.2.2.2.2.2.2.2.2.2.2.2.2.2.2.2.2.2.2.2.2.2.2.2.2.2.2.2.2.2.2.2)
    have k_XC : XC W := ⟨k_xS1, k_xS2, k_xS3, k_xS4, k_xS5, k_xS6, k_xS7, k_xS8, k_xS9, k_xSA, k_xSG, k_xSF, k_xSB, k_xSC, k_xSD, k_xSE, k_xSW, k_xST, k_xSP, k_xSL, k_xSM, k_xSI, k_xD3, k_xDV, k_xDP, k_xDE, k_xQ5, k_xQL, k_xQW, k_xQM, k_xQH⟩
    have kXB : XB W := ⟨k_xN1, k_xN2, k_xN3, k_xN4, k_xN5, k_xN6, k_xH1, k_xK1, k_xC1, k_xRW, k_xWT, k_xCU, k_xG2, k_xG3, k_xG4, k_xG5, k_xG6, k_XC⟩
    exact ⟨base, k2, k3, kXA, kXB⟩
-- vEnd
def xr_666 : qRu := (3, [[(-24, 0), (1, 1)], [(24, 0), (-1, 1)]], [(4, 350, [(27, 0)]), (4, 381, [(1, 1)]), (4, 382, [(1, 2)])], [], [], [[(1, 0), (1, 2)], [(-1, 0), (-1, 2)]])
theorem xo_666 : qRok xr_666 := by
  intro ρ M h0 hf hm hI
  have f0 := hf [(-24, 0), (1, 1)] (by decide)
  have f1 := hf [(24, 0), (-1, 1)] (by decide)
  simp only [qD, h0] at f0 f1
  have m0 : M 4 350 = 27 * ρ 0 + 0 := hm (4, 350, [(27, 0)]) (by decide)
  have m1 : M 4 381 = 1 * ρ 1 + 0 := hm (4, 381, [(1, 1)]) (by decide)
  have m2 : M 4 382 = 1 * ρ 2 + 0 := hm (4, 382, [(1, 2)]) (by decide)
  simp only [h0] at m0
  obtain ⟨b1, b2, b3⟩ := gx_xQW hI (by omega)
  rw [show (M 4 381).toNat = 24 by omega] at b3
  rw [b3] at b1
  refine ⟨ρ, fun _ _ => rfl, fun f h => ?_, ?_⟩
  · have h : f ∈ ([[(1, 0), (1, 2)], [(-1, 0), (-1, 2)]] : List qF) := h
    simp only [List.mem_cons, List.not_mem_nil, or_false] at h
    rcases h with rfl | rfl
    · show 0 ≤ 1 * ρ 0 + (1 * ρ 2 + 0)
      (try rw [h0]); omega
    · show 0 ≤ -1 * ρ 0 + (-1 * ρ 2 + 0)
      (try rw [h0]); omega
  · show sI M
    exact hI
-- qMul
def xr_667 : qRu := (3, [], [], [], [(91, 720, [(1, 0)]), (91, 721, [(1, 1)]), (91, 722, [(1, 2)]), (91, 723, [(1, 3)]), (91, 724, []), (91, 725, [(1, 0)]), (91, 726, [(1, 4)])], [])
theorem xo_667 : qRok xr_667 := by
  intro ρ M h0 hf hm hI
  have qxQM := hI.2.2.2.2.2.2.2.2.2.2.2.2.2.2.2.2.2.2.2.2.2.2.2.2.2.2.2.2.2.2.2.2.2.2.2.2.2.2.2.2.2.2.2.2.2.2.2.2.2.2.1
  refine ⟨fun a => cond (Nat.blt a 3) (ρ a) (([xop 2 (1 * ρ 1 + 0) (1 * ρ 2 + 0), xop 6 0 (1 * 1 + 0)] : List Int).getD (a - 3) 0), fun a ha => ?_, fun f h => ?_, ?_⟩
  · show cond (Nat.blt a 3) (ρ a) _ = ρ a
    rw [show Nat.blt a 3 = true from Nat.ble_eq_true_of_le ha]; rfl
  · exact nomatch h
  · show sI (sU (sU (sU (sU (sU (sU (sU M 91 720 (1 * ρ 0 + 0)) 91 721 (1 * ρ 1 + 0)) 91 722 (1 * ρ 2 + 0)) 91 723 (1 * (xop 2 (1 * ρ 1 + 0) (1 * ρ 2 + 0)) + 0)) 91 724 (0)) 91 725 (1 * ρ 0 + 0)) 91 726 (1 * (xop 6 0 (1 * 1 + 0)) + 0))
    obtain ⟨W, hW⟩ : ∃ W, W = (sU (sU (sU (sU (sU (sU (sU M 91 720 (1 * ρ 0 + 0)) 91 721 (1 * ρ 1 + 0)) 91 722 (1 * ρ 2 + 0)) 91 723 (1 * (xop 2 (1 * ρ 1 + 0) (1 * ρ 2 + 0)) + 0)) 91 724 (0)) 91 725 (1 * ρ 0 + 0)) 91 726 (1 * (xop 6 0 (1 * 1 + 0)) + 0)) := ⟨_, rfl⟩
    rw [← hW]
    have base : sI0 W := by
      rw [hW]
      exact (si_u0 (si_u0 (si_u0 (si_u0 (si_u0 (si_u0 (si_u0 hI.1 (fun r hr => by cases hr)) (fun r hr => by cases hr)) (fun r hr => by cases hr)) (fun r hr => by cases hr)) (fun r hr => by cases hr)) (fun r hr => by cases hr)) (fun r hr => by cases hr))
    have k2 : XI2 W := by
      rw [hW]
      exact (xi2_u rfl (xi2_u rfl (xi2_u rfl (xi2_u rfl (xi2_u rfl (xi2_u rfl (xi2_u rfl hI.2.1)))))))
    have k3 : XI3 W := by
      rw [hW]
      exact (xi3_u rfl (xi3_u rfl (xi3_u rfl (xi3_u rfl (xi3_u rfl (xi3_u rfl (xi3_u rfl hI.2.2.1)))))))
    have kXA : XA W := by
      rw [hW]
      exact (uXA rfl (uXA rfl (uXA rfl (uXA rfl (uXA rfl (uXA rfl (uXA rfl hI.2.2.2.1)))))))
    have k_xN1 : xN1 W := by
      rw [hW]
      exact (uxN1 rfl (uxN1 rfl (uxN1 rfl (uxN1 rfl (uxN1 rfl (uxN1 rfl (uxN1 rfl hI.2.2.2.2.1)))))))
    have k_xN2 : xN2 W := by
      rw [hW]
      exact (uxN2 rfl (uxN2 rfl (uxN2 rfl (uxN2 rfl (uxN2 rfl (uxN2 rfl (uxN2 rfl hI.2.2.2.2.2.1)))))))
    have k_xN3 : xN3 W := by
      rw [hW]
      exact (uxN3 rfl (uxN3 rfl (uxN3 rfl (uxN3 rfl (uxN3 rfl (uxN3 rfl (uxN3 rfl hI.2.2.2.2.2.2.1)))))))
    have k_xN4 : xN4 W := by
      rw [hW]
      exact (uxN4 rfl (uxN4 rfl (uxN4 rfl (uxN4 rfl (uxN4 rfl (uxN4 rfl (uxN4 rfl hI.2.2.2.2.2.2.2.1)))))))
    have k_xN5 : xN5 W := by
      rw [hW]
      exact (uxN5 rfl (uxN5 rfl (uxN5 rfl (uxN5 rfl (uxN5 rfl (uxN5 rfl (uxN5 rfl hI.2.2.2.2.2.2.2.2.1)))))))
    have k_xN6 : xN6 W := by
      rw [hW]
      exact (uxN6 rfl (uxN6 rfl (uxN6 rfl (uxN6 rfl (uxN6 rfl (uxN6 rfl (uxN6 rfl hI.2.2.2.2.2.2.2.2.2.1)))))))
    have k_xH1 : xH1 W := by
      rw [hW]
      exact (uxH1 rfl (uxH1 rfl (uxH1 rfl (uxH1 rfl (uxH1 rfl (uxH1 rfl (uxH1 rfl hI.2.2.2.2.2.2.2.2.2.2.1)))))))
    have k_xK1 : xK1 W := by
      rw [hW]
      exact (uxK1 rfl (uxK1 rfl (uxK1 rfl (uxK1 rfl (uxK1 rfl (uxK1 rfl (uxK1 rfl hI.2.2.2.2.2.2.2.2.2.2.2.1)))))))
    have k_xC1 : xC1 W := by
      rw [hW]
      exact (uxC1 rfl (uxC1 rfl (uxC1 rfl (uxC1 rfl (uxC1 rfl (uxC1 rfl (uxC1 rfl hI.2.2.2.2.2.2.2.2.2.2.2.2.1)))))))
    have k_xRW : xRW W := by
      rw [hW]
      exact (uxRW rfl (uxRW rfl (uxRW rfl (uxRW rfl (uxRW rfl (uxRW rfl (uxRW rfl hI.2.2.2.2.2.2.2.2.2.2.2.2.2.1)))))))
    have k_xWT : xWT W := by
      rw [hW]
      exact (uxWT rfl (uxWT rfl (uxWT rfl (uxWT rfl (uxWT rfl (uxWT rfl (uxWT rfl hI.2.2.2.2.2.2.2.2.2.2.2.2.2.2.1)))))))
    have k_xCU : xCU W := by
      rw [hW]
      exact (uxCU rfl (uxCU rfl (uxCU rfl (uxCU rfl (uxCU rfl (uxCU rfl (uxCU rfl hI.2.2.2.2.2.2.2.2.2.2.2.2.2.2.2.1)))))))
    have k_xG2 : xG2 W := by
      rw [hW]
      exact (uxG2 rfl (uxG2 rfl (uxG2 rfl (uxG2 rfl (uxG2 rfl (uxG2 rfl (uxG2 rfl hI.2.2.2.2.2.2.2.2.2.2.2.2.2.2.2.2.1)))))))
    have k_xG3 : xG3 W := by
      rw [hW]
      exact (uxG3 rfl (uxG3 rfl (uxG3 rfl (uxG3 rfl (uxG3 rfl (uxG3 rfl (uxG3 rfl hI.2.2.2.2.2.2.2.2.2.2.2.2.2.2.2.2.2.1)))))))
    have k_xG4 : xG4 W := by
      rw [hW]
      exact (uxG4 rfl (uxG4 rfl (uxG4 rfl (uxG4 rfl (uxG4 rfl (uxG4 rfl (uxG4 rfl hI.2.2.2.2.2.2.2.2.2.2.2.2.2.2.2.2.2.2.1)))))))
    have k_xG5 : xG5 W := by
      rw [hW]
      exact (uxG5 rfl (uxG5 rfl (uxG5 rfl (uxG5 rfl (uxG5 rfl (uxG5 rfl (uxG5 rfl hI.2.2.2.2.2.2.2.2.2.2.2.2.2.2.2.2.2.2.2.1)))))))
    have k_xG6 : xG6 W := by
      rw [hW]
      exact (uxG6 rfl (uxG6 rfl (uxG6 rfl (uxG6 rfl (uxG6 rfl (uxG6 rfl (uxG6 rfl hI.2.2.2.2.2.2.2.2.2.2.2.2.2.2.2.2.2.2.2.2.1)))))))
    have k_xS1 : xS1 W := by
      rw [hW]
      exact (uxS1 rfl (uxS1 rfl (uxS1 rfl (uxS1 rfl (uxS1 rfl (uxS1 rfl (uxS1 rfl hI.2.2.2.2.2.2.2.2.2.2.2.2.2.2.2.2.2.2.2.2.2.1)))))))
    have k_xS2 : xS2 W := by
      rw [hW]
      exact (uxS2 rfl (uxS2 rfl (uxS2 rfl (uxS2 rfl (uxS2 rfl (uxS2 rfl (uxS2 rfl hI.2.2.2.2.2.2.2.2.2.2.2.2.2.2.2.2.2.2.2.2.2.2.1)))))))
    have k_xS3 : xS3 W := by
      rw [hW]
      exact (uxS3 rfl (uxS3 rfl (uxS3 rfl (uxS3 rfl (uxS3 rfl (uxS3 rfl (uxS3 rfl hI.2.2.2.2.2.2.2.2.2.2.2.2.2.2.2.2.2.2.2.2.2.2.2.1)))))))
    have k_xS4 : xS4 W := by
      rw [hW]
      exact (uxS4 rfl (uxS4 rfl (uxS4 rfl (uxS4 rfl (uxS4 rfl (uxS4 rfl (uxS4 rfl hI.2.2.2.2.2.2.2.2.2.2.2.2.2.2.2.2.2.2.2.2.2.2.2.2.1)))))))
    have k_xS5 : xS5 W := by
      rw [hW]
      exact (uxS5 rfl (uxS5 rfl (uxS5 rfl (uxS5 rfl (uxS5 rfl (uxS5 rfl (uxS5 rfl hI.2.2.2.2.2.2.2.2.2.2.2.2.2.2.2.2.2.2.2.2.2.2.2.2.2.1)))))))
    have k_xS6 : xS6 W := by
      rw [hW]
      exact (uxS6 rfl (uxS6 rfl (uxS6 rfl (uxS6 rfl (uxS6 rfl (uxS6 rfl (uxS6 rfl hI.2.2.2.2.2.2.2.2.2.2.2.2.2.2.2.2.2.2.2.2.2.2.2.2.2.2.1)))))))
    have k_xS7 : xS7 W := by
      rw [hW]
      exact (uxS7 rfl (uxS7 rfl (uxS7 rfl (uxS7 rfl (uxS7 rfl (uxS7 rfl (uxS7 rfl hI.2.2.2.2.2.2.2.2.2.2.2.2.2.2.2.2.2.2.2.2.2.2.2.2.2.2.2.1)))))))
    have k_xS8 : xS8 W := by
      rw [hW]
      exact (uxS8 rfl (uxS8 rfl (uxS8 rfl (uxS8 rfl (uxS8 rfl (uxS8 rfl (uxS8 rfl hI.2.2.2.2.2.2.2.2.2.2.2.2.2.2.2.2.2.2.2.2.2.2.2.2.2.2.2.2.1)))))))
    have k_xS9 : xS9 W := by
      rw [hW]
      exact (uxS9 rfl (uxS9 rfl (uxS9 rfl (uxS9 rfl (uxS9 rfl (uxS9 rfl (uxS9 rfl hI.2.2.2.2.2.2.2.2.2.2.2.2.2.2.2.2.2.2.2.2.2.2.2.2.2.2.2.2.2.1)))))))
    have k_xSA : xSA W := by
      rw [hW]
      exact (uxSA rfl (uxSA rfl (uxSA rfl (uxSA rfl (uxSA rfl (uxSA rfl (uxSA rfl hI.2.2.2.2.2.2.2.2.2.2.2.2.2.2.2.2.2.2.2.2.2.2.2.2.2.2.2.2.2.2.1)))))))
    have k_xSG : xSG W := by
      rw [hW]
      exact (uxSG rfl (uxSG rfl (uxSG rfl (uxSG rfl (uxSG rfl (uxSG rfl (uxSG rfl hI.2.2.2.2.2.2.2.2.2.2.2.2.2.2.2.2.2.2.2.2.2.2.2.2.2.2.2.2.2.2.2.1)))))))
    have k_xSF : xSF W := by
      rw [hW]
      exact (uxSF rfl (uxSF rfl (uxSF rfl (uxSF rfl (uxSF rfl (uxSF rfl (uxSF rfl hI.2.2.2.2.2.2.2.2.2.2.2.2.2.2.2.2.2.2.2.2.2.2.2.2.2.2.2.2.2.2.2.2.1)))))))
    have k_xSB : xSB W := by
      rw [hW]
      exact (uxSB rfl (uxSB rfl (uxSB rfl (uxSB rfl (uxSB rfl (uxSB rfl (uxSB rfl hI.2.2.2.2.2.2.2.2.2.2.2.2.2.2.2.2.2.2.2.2.2.2.2.2.2.2.2.2.2.2.2.2.2.1)))))))
    have k_xSC : xSC W := by
      rw [hW]
      exact (uxSC rfl (uxSC rfl (uxSC rfl (uxSC rfl (uxSC rfl (uxSC rfl (uxSC rfl hI.2.2.2.2.2.2.2.2.2.2.2.2.2.2.2.2.2.2.2.2.2.2.2.2.2.2.2.2.2.2.2.2.2.2.1)))))))
    have k_xSD : xSD W := by
      rw [hW]
      exact (uxSD rfl (uxSD rfl (uxSD rfl (uxSD rfl (uxSD rfl (uxSD rfl (uxSD rfl hI.2.2.2.2.2.2.2.2.2.2.2.2.2.2.2.2.2.2.2.2.2.2.2.2.2.2.2.2.2.2.2.2.2.2.2.1)))))))
    have k_xSE : xSE W := by
      rw [hW]
      exact (uxSE rfl (uxSE rfl (uxSE rfl (uxSE rfl (uxSE rfl (uxSE rfl (uxSE rfl hI.2.2.2.2.2.2.2.2.2.2.2.2.2.2.2.2.2.2.2.2.2.2.2.2.2.2.2.2.2.2.2.2.2.2.2.2.1)))))))
    have k_xSW : xSW W := by
      rw [hW]
      exact (uxSW rfl (uxSW rfl (uxSW rfl (uxSW rfl (uxSW rfl (uxSW rfl (uxSW rfl hI.2.2.2.2.2.2.2.2.2.2.2.2.2.2.2.2.2.2.2.2.2.2.2.2.2.2.2.2.2.2.2.2.2.2.2.2.2.1)))))))
    have k_xST : xST W := by
      rw [hW]
      exact (uxST rfl (uxST rfl (uxST rfl (uxST rfl (uxST rfl (uxST rfl (uxST rfl hI.2.2.2.2.2.2.2.2.2.2.2.2.2.2.2.2.2.2.2.2.2.2.2.2.2.2.2.2.2.2.2.2.2.2.2.2.2.2.1)))))))
    have k_xSP : xSP W := by
      rw [hW]
      exact (uxSP rfl (uxSP rfl (uxSP rfl (uxSP rfl (uxSP rfl (uxSP rfl (uxSP rfl hI.2.2.2.2.2.2.2.2.2.2.2.2.2.2.2.2.2.2.2.2.2.2.2.2.2.2.2.2.2.2.2.2.2.2.2.2.2.2.2.1)))))))
    have k_xSL : xSL W := by
      rw [hW]
      exact (uxSL rfl (uxSL rfl (uxSL rfl (uxSL rfl (uxSL rfl (uxSL rfl (uxSL rfl hI.2.2.2.2.2.2.2.2.2.2.2.2.2.2.2.2.2.2.2.2.2.2.2.2.2.2.2.2.2.2.2.2.2.2.2.2.2.2.2.2.1)))))))
    have k_xSM : xSM W := by
      rw [hW]
      exact (uxSM rfl (uxSM rfl (uxSM rfl (uxSM rfl (uxSM rfl (uxSM rfl (uxSM rfl hI.2.2.2.2.2.2.2.2.2.2.2.2.2.2.2.2.2.2.2.2.2.2.2.2.2.2.2.2.2.2.2.2.2.2.2.2.2.2.2.2.2.1)))))))
    have k_xSI : xSI W := by
      rw [hW]
      exact (uxSI rfl (uxSI rfl (uxSI rfl (uxSI rfl (uxSI rfl (uxSI rfl (uxSI rfl hI.2.2.2.2.2.2.2.2.2.2.2.2.2.2.2.2.2.2.2.2.2.2.2.2.2.2.2.2.2.2.2.2.2.2.2.2.2.2.2.2.2.2.1)))))))
    have k_xD3 : xD3 W := by
      rw [hW]
      exact (uxD3 rfl (uxD3 rfl (uxD3 rfl (uxD3 rfl (uxD3 rfl (uxD3 rfl (uxD3 rfl hI.2.2.2.2.2.2.2.2.2.2.2.2.2.2.2.2.2.2.2.2.2.2.2.2.2.2.2.2.2.2.2.2.2.2.2.2.2.2.2.2.2.2.2.1)))))))
    have k_xDV : xDV W := by
      rw [hW]
      exact (uxDV rfl (uxDV rfl (uxDV rfl (uxDV rfl (uxDV rfl (uxDV rfl (uxDV rfl hI.2.2.2.2.2.2.2.2.2.2.2.2.2.2.2.2.2.2.2.2.2.2.2.2.2.2.2.2.2.2.2.2.2.2.2.2.2.2.2.2.2.2.2.2.1)))))))
    have k_xDP : xDP W := by
      rw [hW]
      exact (uxDP rfl (uxDP rfl (uxDP rfl (uxDP rfl (uxDP rfl (uxDP rfl (uxDP rfl hI.2.2.2.2.2.2.2.2.2.2.2.2.2.2.2.2.2.2.2.2.2.2.2.2.2.2.2.2.2.2.2.2.2.2.2.2.2.2.2.2.2.2.2.2.2.1)))))))
    have k_xDE : xDE W := by
      rw [hW]
      exact (uxDE rfl (uxDE rfl (uxDE rfl (uxDE rfl (uxDE rfl (uxDE rfl (uxDE rfl hI.2.2.2.2.2.2.2.2.2.2.2.2.2.2.2.2.2.2.2.2.2.2.2.2.2.2.2.2.2.2.2.2.2.2.2.2.2.2.2.2.2.2.2.2.2.2.1)))))))
    have k_xQ5 : xQ5 W := by
      rw [hW]
      exact (uxQ5 rfl (uxQ5 rfl (uxQ5 rfl (uxQ5 rfl (uxQ5 rfl (uxQ5 rfl (uxQ5 rfl hI.2.2.2.2.2.2.2.2.2.2.2.2.2.2.2.2.2.2.2.2.2.2.2.2.2.2.2.2.2.2.2.2.2.2.2.2.2.2.2.2.2.2.2.2.2.2.2.1)))))))
    have k_xQL : xQL W := by
      rw [hW]
      exact (uxQL rfl (uxQL rfl (uxQL rfl (uxQL rfl (uxQL rfl (uxQL rfl (uxQL rfl hI.2.2.2.2.2.2.2.2.2.2.2.2.2.2.2.2.2.2.2.2.2.2.2.2.2.2.2.2.2.2.2.2.2.2.2.2.2.2.2.2.2.2.2.2.2.2.2.2.1)))))))
    have k_xQW : xQW W := by
      rw [hW]
      exact (uxQW rfl (uxQW rfl (uxQW rfl (uxQW rfl (uxQW rfl (uxQW rfl (uxQW rfl hI.2.2.2.2.2.2.2.2.2.2.2.2.2.2.2.2.2.2.2.2.2.2.2.2.2.2.2.2.2.2.2.2.2.2.2.2.2.2.2.2.2.2.2.2.2.2.2.2.2.1)))))))
    have k_xQM : xQM W := by
      have r91_720 : W 91 720 = 1 * ρ 0 + 0 := by rw [hW, sU_ne (fun z => by omega), sU_ne (fun z => by omega), sU_ne (fun z => by omega), sU_ne (fun z => by omega), sU_ne (fun z => by omega), sU_ne (fun z => by omega), sU_at]
      have r91_721 : W 91 721 = 1 * ρ 1 + 0 := by rw [hW, sU_ne (fun z => by omega), sU_ne (fun z => by omega), sU_ne (fun z => by omega), sU_ne (fun z => by omega), sU_ne (fun z => by omega), sU_at]
      have r91_722 : W 91 722 = 1 * ρ 2 + 0 := by rw [hW, sU_ne (fun z => by omega), sU_ne (fun z => by omega), sU_ne (fun z => by omega), sU_ne (fun z => by omega), sU_at]
      have r91_723 : W 91 723 = 1 * (xop 2 (1 * ρ 1 + 0) (1 * ρ 2 + 0)) + 0 := by rw [hW, sU_ne (fun z => by omega), sU_ne (fun z => by omega), sU_ne (fun z => by omega), sU_at]
      have r91_724 : W 91 724 = 0 := by rw [hW, sU_ne (fun z => by omega), sU_ne (fun z => by omega), sU_at]
      have r91_725 : W 91 725 = 1 * ρ 0 + 0 := by rw [hW, sU_ne (fun z => by omega), sU_at]
      have r91_726 : W 91 726 = 1 * (xop 6 0 (1 * 1 + 0)) + 0 := by rw [hW, sU_at]
      intro _
      rw [r91_721, r91_722, r91_723, r91_724, r91_725, r91_726]
      (try rw [h0])
      exact ⟨by omega, by omega⟩
    have k_xQH : xQH W := by
      rw [hW]
      exact (uxQH rfl (uxQH rfl (uxQH rfl (uxQH rfl (uxQH rfl (uxQH rfl (uxQH rfl hI.2.2.2.2.2.2.2.2.2.2.2.2.2.2.2.2.2.2.2.2.2.2.2.2.2.2.2.2.2.2.2.2.2.2.2.2.2.2.2.2.2.2.2.2.2.2.2.2.2.2.2)))))))
    have k_XC : XC W := ⟨k_xS1, k_xS2, k_xS3, k_xS4, k_xS5, k_xS6, k_xS7, k_xS8, k_xS9, k_xSA, k_xSG, k_xSF, k_xSB, k_xSC, k_xSD, k_xSE, k_xSW, k_xST, k_xSP, k_xSL, k_xSM, k_xSI, k_xD3, k_xDV, k_xDP, k_xDE, k_xQ5, k_xQL, k_xQW, k_xQM, k_xQH⟩
    have kXB : XB W := ⟨k_xN1, k_xN2, k_xN3, k_xN4, k_xN5, k_xN6, k_xH1, k_xK1, k_xC1, k_xRW, k_xWT, k_xCU, k_xG2, k_xG3, k_xG4, k_xG5, k_xG6, k_XC⟩
    exact ⟨base, k2, k3, kXA, kXB⟩
-- qDiv
def xr_668 : qRu := (3, [], [(91, 720, [(1, 0)])], [], [(91, 724, [(1, 1)]), (91, 725, [(1, 2)]), (91, 726, [(1, 3)])], [])
theorem xo_668 : qRok xr_668 := by
  intro ρ M h0 hf hm hI
  have m0 : M 91 720 = 1 * ρ 0 + 0 := hm (91, 720, [(1, 0)]) (by decide)
  simp only [h0] at m0
  have qxQM := hI.2.2.2.2.2.2.2.2.2.2.2.2.2.2.2.2.2.2.2.2.2.2.2.2.2.2.2.2.2.2.2.2.2.2.2.2.2.2.2.2.2.2.2.2.2.2.2.2.2.2.1
  refine ⟨fun a => cond (Nat.blt a 3) (ρ a) (([xop 6 (1 * ρ 1 + 0) (1 * ρ 2 + 0)] : List Int).getD (a - 3) 0), fun a ha => ?_, fun f h => ?_, ?_⟩
  · show cond (Nat.blt a 3) (ρ a) _ = ρ a
    rw [show Nat.blt a 3 = true from Nat.ble_eq_true_of_le ha]; rfl
  · exact nomatch h
  · show sI (sU (sU (sU M 91 724 (1 * ρ 1 + 0)) 91 725 (1 * ρ 2 + 0)) 91 726 (1 * (xop 6 (1 * ρ 1 + 0) (1 * ρ 2 + 0)) + 0))
    obtain ⟨W, hW⟩ : ∃ W, W = (sU (sU (sU M 91 724 (1 * ρ 1 + 0)) 91 725 (1 * ρ 2 + 0)) 91 726 (1 * (xop 6 (1 * ρ 1 + 0) (1 * ρ 2 + 0)) + 0)) := ⟨_, rfl⟩
    rw [← hW]
    have base : sI0 W := by
      rw [hW]
      exact (si_u0 (si_u0 (si_u0 hI.1 (fun r hr => by cases hr)) (fun r hr => by cases hr)) (fun r hr => by cases hr))
    have k2 : XI2 W := by
      rw [hW]
      exact (xi2_u rfl (xi2_u rfl (xi2_u rfl hI.2.1)))
    have k3 : XI3 W := by
      rw [hW]
      exact (xi3_u rfl (xi3_u rfl (xi3_u rfl hI.2.2.1)))
    have kXA : XA W := by
      rw [hW]
      exact (uXA rfl (uXA rfl (uXA rfl hI.2.2.2.1)))
    have k_xN1 : xN1 W := by
      rw [hW]
      exact (uxN1 rfl (uxN1 rfl (uxN1 rfl hI.2.2.2.2.1)))
    have k_xN2 : xN2 W := by
      rw [hW]
      exact (uxN2 rfl (uxN2 rfl (uxN2 rfl hI.2.2.2.2.2.1)))
    have k_xN3 : xN3 W := by
      rw [hW]
      exact (uxN3 rfl (uxN3 rfl (uxN3 rfl hI.2.2.2.2.2.2.1)))
    have k_xN4 : xN4 W := by
      rw [hW]
      exact (uxN4 rfl (uxN4 rfl (uxN4 rfl hI.2.2.2.2.2.2.2.1)))
    have k_xN5 : xN5 W := by
      rw [hW]
      exact (uxN5 rfl (uxN5 rfl (uxN5 rfl hI.2.2.2.2.2.2.2.2.1)))
    have k_xN6 : xN6 W := by
      rw [hW]
      exact (uxN6 rfl (uxN6 rfl (uxN6 rfl hI.2.2.2.2.2.2.2.2.2.1)))
    have k_xH1 : xH1 W := by
      rw [hW]
      exact (uxH1 rfl (uxH1 rfl (uxH1 rfl hI.2.2.2.2.2.2.2.2.2.2.1)))
    have k_xK1 : xK1 W := by
      rw [hW]
      exact (uxK1 rfl (uxK1 rfl (uxK1 rfl hI.2.2.2.2.2.2.2.2.2.2.2.1)))
    have k_xC1 : xC1 W := by
      rw [hW]
      exact (uxC1 rfl (uxC1 rfl (uxC1 rfl hI.2.2.2.2.2.2.2.2.2.2.2.2.1)))
    have k_xRW : xRW W := by
      rw [hW]
      exact (uxRW rfl (uxRW rfl (uxRW rfl hI.2.2.2.2.2.2.2.2.2.2.2.2.2.1)))
    have k_xWT : xWT W := by
      rw [hW]
      exact (uxWT rfl (uxWT rfl (uxWT rfl hI.2.2.2.2.2.2.2.2.2.2.2.2.2.2.1)))
    have k_xCU : xCU W := by
      rw [hW]
      exact (uxCU rfl (uxCU rfl (uxCU rfl hI.2.2.2.2.2.2.2.2.2.2.2.2.2.2.2.1)))
    have k_xG2 : xG2 W := by
      rw [hW]
      exact (uxG2 rfl (uxG2 rfl (uxG2 rfl hI.2.2.2.2.2.2.2.2.2.2.2.2.2.2.2.2.1)))
    have k_xG3 : xG3 W := by
      rw [hW]
      exact (uxG3 rfl (uxG3 rfl (uxG3 rfl hI.2.2.2.2.2.2.2.2.2.2.2.2.2.2.2.2.2.1)))
    have k_xG4 : xG4 W := by
      rw [hW]
      exact (uxG4 rfl (uxG4 rfl (uxG4 rfl hI.2.2.2.2.2.2.2.2.2.2.2.2.2.2.2.2.2.2.1)))
    have k_xG5 : xG5 W := by
      rw [hW]
      exact (uxG5 rfl (uxG5 rfl (uxG5 rfl hI.2.2.2.2.2.2.2.2.2.2.2.2.2.2.2.2.2.2.2.1)))
    have k_xG6 : xG6 W := by
      rw [hW]
      exact (uxG6 rfl (uxG6 rfl (uxG6 rfl hI.2.2.2.2.2.2.2.2.2.2.2.2.2.2.2.2.2.2.2.2.1)))
    have k_xS1 : xS1 W := by
      rw [hW]
      exact (uxS1 rfl (uxS1 rfl (uxS1 rfl hI.2.2.2.2.2.2.2.2.2.2.2.2.2.2.2.2.2.2.2.2.2.1)))
    have k_xS2 : xS2 W := by
      rw [hW]
      exact (uxS2 rfl (uxS2 rfl (uxS2 rfl hI.2.2.2.2.2.2.2.2.2.2.2.2.2.2.2.2.2.2.2.2.2.2.1)))
    have k_xS3 : xS3 W := by
      rw [hW]
      exact (uxS3 rfl (uxS3 rfl (uxS3 rfl hI.2.2.2.2.2.2.2.2.2.2.2.2.2.2.2.2.2.2.2.2.2.2.2.1)))
    have k_xS4 : xS4 W := by
      rw [hW]
      exact (uxS4 rfl (uxS4 rfl (uxS4 rfl hI.2.2.2.2.2.2.2.2.2.2.2.2.2.2.2.2.2.2.2.2.2.2.2.2.1)))
    have k_xS5 : xS5 W := by
      rw [hW]
      exact (uxS5 rfl (uxS5 rfl (uxS5 rfl hI.2.2.2.2.2.2.2.2.2.2.2.2.2.2.2.2.2.2.2.2.2.2.2.2.2.1)))
    have k_xS6 : xS6 W := by
      rw [hW]
      exact (uxS6 rfl (uxS6 rfl (uxS6 rfl hI.2.2.2.2.2.2.2.2.2.2.2.2.2.2.2.2.2.2.2.2.2.2.2.2.2.2.1)))
    have k_xS7 : xS7 W := by
      rw [hW]
      exact (uxS7 rfl (uxS7 rfl (uxS7 rfl hI.2.2.2.2.2.2.2.2.2.2.2.2.2.2.2.2.2.2.2.2.2.2.2.2.2.2.2.1)))
    have k_xS8 : xS8 W := by
      rw [hW]
      exact (uxS8 rfl (uxS8 rfl (uxS8 rfl hI.2.2.2.2.2.2.2.2.2.2.2.2.2.2.2.2.2.2.2.2.2.2.2.2.2.2.2.2.1)))
    have k_xS9 : xS9 W := by
      rw [hW]
      exact (uxS9 rfl (uxS9 rfl (uxS9 rfl hI.2.2.2.2.2.2.2.2.2.2.2.2.2.2.2.2.2.2.2.2.2.2.2.2.2.2.2.2.2.1)))
    have k_xSA : xSA W := by
      rw [hW]
      exact (uxSA rfl (uxSA rfl (uxSA rfl hI.2.2.2.2.2.2.2.2.2.2.2.2.2.2.2.2.2.2.2.2.2.2.2.2.2.2.2.2.2.2.1)))
    have k_xSG : xSG W := by
      rw [hW]
      exact (uxSG rfl (uxSG rfl (uxSG rfl hI.2.2.2.2.2.2.2.2.2.2.2.2.2.2.2.2.2.2.2.2.2.2.2.2.2.2.2.2.2.2.2.1)))
    have k_xSF : xSF W := by
      rw [hW]
      exact (uxSF rfl (uxSF rfl (uxSF rfl hI.2.2.2.2.2.2.2.2.2.2.2.2.2.2.2.2.2.2.2.2.2.2.2.2.2.2.2.2.2.2.2.2.1)))
    have k_xSB : xSB W := by
      rw [hW]
      exact (uxSB rfl (uxSB rfl (uxSB rfl hI.2.2.2.2.2.2.2.2.2.2.2.2.2.2.2.2.2.2.2.2.2.2.2.2.2.2.2.2.2.2.2.2.2.1)))
    have k_xSC : xSC W := by
      rw [hW]
      exact (uxSC rfl (uxSC rfl (uxSC rfl hI.2.2.2.2.2.2.2.2.2.2.2.2.2.2.2.2.2.2.2.2.2.2.2.2.2.2.2.2.2.2.2.2.2.2.1)))
    have k_xSD : xSD W := by
      rw [hW]
      exact (uxSD rfl (uxSD rfl (uxSD rfl hI.2.2.2.2.2.2.2.2.2.2.2.2.2.2.2.2.2.2.2.2.2.2.2.2.2.2.2.2.2.2.2.2.2.2.2.1)))
    have k_xSE : xSE W := by
      rw [hW]
      exact (uxSE rfl (uxSE rfl (uxSE rfl hI.2.2.2.2.2.2.2.2.2.2.2.2.2.2.2.2.2.2.2.2.2.2.2.2.2.2.2.2.2.2.2.2.2.2.2.2.1)))
    have k_xSW : xSW W := by
      rw [hW]
      exact (uxSW rfl (uxSW rfl (uxSW rfl hI.2.2.2.2.2.2.2.2.2.2.2.2.2.2.2.2.2.2.2.2.2.2.2.2.2.2.2.2.2.2.2.2.2.2.2.2.2.1)))
    have k_xST : xST W := by
      rw [hW]
      exact (uxST rfl (uxST rfl (uxST rfl hI.2.2.2.2.2.2.2.2.2.2.2.2.2.2.2.2.2.2.2.2.2.2.2.2.2.2.2.2.2.2.2.2.2.2.2.2.2.2.1)))
    have k_xSP : xSP W := by
      rw [hW]
      exact (uxSP rfl (uxSP rfl (uxSP rfl hI.2.2.2.2.2.2.2.2.2.2.2.2.2.2.2.2.2.2.2.2.2.2.2.2.2.2.2.2.2.2.2.2.2.2.2.2.2.2.2.1)))
    have k_xSL : xSL W := by
      rw [hW]
      exact (uxSL rfl (uxSL rfl (uxSL rfl hI.2.2.2.2.2.2.2.2.2.2.2.2.2.2.2.2.2.2.2.2.2.2.2.2.2.2.2.2.2.2.2.2.2.2.2.2.2.2.2.2.1)))
    have k_xSM : xSM W := by
      rw [hW]
      exact (uxSM rfl (uxSM rfl (uxSM rfl hI.2.2.2.2.2.2.2.2.2.2.2.2.2.2.2.2.2.2.2.2.2.2.2.2.2.2.2.2.2.2.2.2.2.2.2.2.2.2.2.2.2.1)))
    have k_xSI : xSI W := by
      rw [hW]
      exact (uxSI rfl (uxSI rfl (uxSI rfl hI.2.2.2.2.2.2.2.2.2.2.2.2.2.2.2.2.2.2.2.2.2.2.2.2.2.2.2.2.2.2.2.2.2.2.2.2.2.2.2.2.2.2.1)))
    have k_xD3 : xD3 W := by
      rw [hW]
      exact (uxD3 rfl (uxD3 rfl (uxD3 rfl hI.2.2.2.2.2.2.2.2.2.2.2.2.2.2.2.2.2.2.2.2.2.2.2.2.2.2.2.2.2.2.2.2.2.2.2.2.2.2.2.2.2.2.2.1)))
    have k_xDV : xDV W := by
      rw [hW]
      exact (uxDV rfl (uxDV rfl (uxDV rfl hI.2.2.2.2.2.2.2.2.2.2.2.2.2.2.2.2.2.2.2.2.2.2.2.2.2.2.2.2.2.2.2.2.2.2.2.2.2.2.2.2.2.2.2.2.1)))
    have k_xDP : xDP W := by
      rw [hW]
      exact (uxDP rfl (uxDP rfl (uxDP rfl hI.2.2.2.2.2.2.2.2.2.2.2.2.2.2.2.2.2.2.2.2.2.2.2.2.2.2.2.2.2.2.2.2.2.2.2.2.2.2.2.2.2.2.2.2.2.1)))
    have k_xDE : xDE W := by
      rw [hW]
      exact (uxDE rfl (uxDE rfl (uxDE rfl hI.2.2.2.2.2.2.2.2.2.2.2.2.2.2.2.2.2.2.2.2.2.2.2.2.2.2.2.2.2.2.2.2.2.2.2.2.2.2.2.2.2.2.2.2.2.2.1)))
    have k_xQ5 : xQ5 W := by
      rw [hW]
      exact (uxQ5 rfl (uxQ5 rfl (uxQ5 rfl hI.2.2.2.2.2.2.2.2.2.2.2.2.2.2.2.2.2.2.2.2.2.2.2.2.2.2.2.2.2.2.2.2.2.2.2.2.2.2.2.2.2.2.2.2.2.2.2.1)))
    have k_xQL : xQL W := by
      rw [hW]
      exact (uxQL rfl (uxQL rfl (uxQL rfl hI.2.2.2.2.2.2.2.2.2.2.2.2.2.2.2.2.2.2.2.2.2.2.2.2.2.2.2.2.2.2.2.2.2.2.2.2.2.2.2.2.2.2.2.2.2.2.2.2.1)))
    have k_xQW : xQW W := by
      rw [hW]
      exact (uxQW rfl (uxQW rfl (uxQW rfl hI.2.2.2.2.2.2.2.2.2.2.2.2.2.2.2.2.2.2.2.2.2.2.2.2.2.2.2.2.2.2.2.2.2.2.2.2.2.2.2.2.2.2.2.2.2.2.2.2.2.1)))
    have k_xQM : xQM W := by
      have r91_720 : W 91 720 = M 91 720 := by rw [hW, sU_ne (fun z => by omega), sU_ne (fun z => by omega), sU_ne (fun z => by omega)]
      have r91_721 : W 91 721 = M 91 721 := by rw [hW, sU_ne (fun z => by omega), sU_ne (fun z => by omega), sU_ne (fun z => by omega)]
      have r91_722 : W 91 722 = M 91 722 := by rw [hW, sU_ne (fun z => by omega), sU_ne (fun z => by omega), sU_ne (fun z => by omega)]
      have r91_723 : W 91 723 = M 91 723 := by rw [hW, sU_ne (fun z => by omega), sU_ne (fun z => by omega), sU_ne (fun z => by omega)]
      have r91_724 : W 91 724 = 1 * ρ 1 + 0 := by rw [hW, sU_ne (fun z => by omega), sU_ne (fun z => by omega), sU_at]
      have r91_725 : W 91 725 = 1 * ρ 2 + 0 := by rw [hW, sU_ne (fun z => by omega), sU_at]
      have r91_726 : W 91 726 = 1 * (xop 6 (1 * ρ 1 + 0) (1 * ρ 2 + 0)) + 0 := by rw [hW, sU_at]
      intro _
      obtain ⟨b1, b2⟩ := gx_xQM hI (by omega)
      rw [r91_721, r91_722, r91_723, r91_724, r91_725, r91_726]
      exact ⟨b1, by omega⟩
    have k_xQH : xQH W := by
      rw [hW]
      exact (uxQH rfl (uxQH rfl (uxQH rfl hI.2.2.2.2.2.2.2.2.2.2.2.2.2.2.2.2.2.2.2.2.2.2.2.2.2.2.2.2.2.2.2.2.2.2.2.2.2.2.2.2.2.2.2.2.2.2.2.2.2.2.2)))
    have k_XC : XC W := ⟨k_xS1, k_xS2, k_xS3, k_xS4, k_xS5, k_xS6, k_xS7, k_xS8, k_xS9, k_xSA, k_xSG, k_xSF, k_xSB, k_xSC, k_xSD, k_xSE, k_xSW, k_xST, k_xSP, k_xSL, k_xSM, k_xSI, k_xD3, k_xDV, k_xDP, k_xDE, k_xQ5, k_xQL, k_xQW, k_xQM, k_xQH⟩
    have kXB : XB W := ⟨k_xN1, k_xN2, k_xN3, k_xN4, k_xN5, k_xN6, k_xH1, k_xK1, k_xC1, k_xRW, k_xWT, k_xCU, k_xG2, k_xG3, k_xG4, k_xG5, k_xG6, k_XC⟩
    exact ⟨base, k2, k3, kXA, kXB⟩
-- qMulOff
def xr_669 : qRu := (1, [], [], [], [(91, 720, [])], [])
theorem xo_669 : qRok xr_669 := by
  intro ρ M h0 hf hm hI
  refine ⟨ρ, fun _ _ => rfl, fun f h => ?_, ?_⟩
  · exact nomatch h
  · show sI (sU M 91 720 (0))
    obtain ⟨W, hW⟩ : ∃ W, W = (sU M 91 720 (0)) := ⟨_, rfl⟩
    rw [← hW]
    have base : sI0 W := by
      rw [hW]
      exact (si_u0 hI.1 (fun r hr => by cases hr))
    have k2 : XI2 W := by
      rw [hW]
      exact (xi2_u rfl hI.2.1)
    have k3 : XI3 W := by
      rw [hW]
      exact (xi3_u rfl hI.2.2.1)
    have kXA : XA W := by
      rw [hW]
      exact (uXA rfl hI.2.2.2.1)
    have k_xN1 : xN1 W := by
      rw [hW]
      exact (uxN1 rfl hI.2.2.2.2.1)
    have k_xN2 : xN2 W := by
      rw [hW]
      exact (uxN2 rfl hI.2.2.2.2.2.1)
    have k_xN3 : xN3 W := by
      rw [hW]
      exact (uxN3 rfl hI.2.2.2.2.2.2.1)
    have k_xN4 : xN4 W := by
      rw [hW]
      exact (uxN4 rfl hI.2.2.2.2.2.2.2.1)
    have k_xN5 : xN5 W := by
      rw [hW]
      exact (uxN5 rfl hI.2.2.2.2.2.2.2.2.1)
    have k_xN6 : xN6 W := by
      rw [hW]
      exact (uxN6 rfl hI.2.2.2.2.2.2.2.2.2.1)
    have k_xH1 : xH1 W := by
      rw [hW]
      exact (uxH1 rfl hI.2.2.2.2.2.2.2.2.2.2.1)
    have k_xK1 : xK1 W := by
      rw [hW]
      exact (uxK1 rfl hI.2.2.2.2.2.2.2.2.2.2.2.1)
    have k_xC1 : xC1 W := by
      rw [hW]
      exact (uxC1 rfl hI.2.2.2.2.2.2.2.2.2.2.2.2.1)
    have k_xRW : xRW W := by
      rw [hW]
      exact (uxRW rfl hI.2.2.2.2.2.2.2.2.2.2.2.2.2.1)
    have k_xWT : xWT W := by
      rw [hW]
      exact (uxWT rfl hI.2.2.2.2.2.2.2.2.2.2.2.2.2.2.1)
    have k_xCU : xCU W := by
      rw [hW]
      exact (uxCU rfl hI.2.2.2.2.2.2.2.2.2.2.2.2.2.2.2.1)
    have k_xG2 : xG2 W := by
      rw [hW]
      exact (uxG2 rfl hI.2.2.2.2.2.2.2.2.2.2.2.2.2.2.2.2.1)
    have k_xG3 : xG3 W := by
      rw [hW]
      exact (uxG3 rfl hI.2.2.2.2.2.2.2.2.2.2.2.2.2.2.2.2.2.1)
    have k_xG4 : xG4 W := by
      rw [hW]
      exact (uxG4 rfl hI.2.2.2.2.2.2.2.2.2.2.2.2.2.2.2.2.2.2.1)
    have k_xG5 : xG5 W := by
      rw [hW]
      exact (uxG5 rfl hI.2.2.2.2.2.2.2.2.2.2.2.2.2.2.2.2.2.2.2.1)
    have k_xG6 : xG6 W := by
      rw [hW]
      exact (uxG6 rfl hI.2.2.2.2.2.2.2.2.2.2.2.2.2.2.2.2.2.2.2.2.1)
    have k_xS1 : xS1 W := by
      rw [hW]
      exact (uxS1 rfl hI.2.2.2.2.2.2.2.2.2.2.2.2.2.2.2.2.2.2.2.2.2.1)
    have k_xS2 : xS2 W := by
      rw [hW]
      exact (uxS2 rfl hI.2.2.2.2.2.2.2.2.2.2.2.2.2.2.2.2.2.2.2.2.2.2.1)
    have k_xS3 : xS3 W := by
      rw [hW]
      exact (uxS3 rfl hI.2.2.2.2.2.2.2.2.2.2.2.2.2.2.2.2.2.2.2.2.2.2.2.1)
    have k_xS4 : xS4 W := by
      rw [hW]
      exact (uxS4 rfl hI.2.2.2.2.2.2.2.2.2.2.2.2.2.2.2.2.2.2.2.2.2.2.2.2.1)
    have k_xS5 : xS5 W := by
      rw [hW]
      exact (uxS5 rfl hI.2.2.2.2.2.2.2.2.2.2.2.2.2.2.2.2.2.2.2.2.2.2.2.2.2.1)
    have k_xS6 : xS6 W := by
      rw [hW]
      exact (uxS6 rfl hI.2.2.2.2.2.2.2.2.2.2.2.2.2.2.2.2.2.2.2.2.2.2.2.2.2.2.1)
    have k_xS7 : xS7 W := by
      rw [hW]
      exact (uxS7 rfl hI.2.2.2.2.2.2.2.2.2.2.2.2.2.2.2.2.2.2.2.2.2.2.2.2.2.2.2.1)
    have k_xS8 : xS8 W := by
      rw [hW]
      exact (uxS8 rfl hI.2.2.2.2.2.2.2.2.2.2.2.2.2.2.2.2.2.2.2.2.2.2.2.2.2.2.2.2.1)
    have k_xS9 : xS9 W := by
      rw [hW]
      exact (uxS9 rfl hI.2.2.2.2.2.2.2.2.2.2.2.2.2.2.2.2.2.2.2.2.2.2.2.2.2.2.2.2.2.1)
    have k_xSA : xSA W := by
      rw [hW]
      exact (uxSA rfl hI.2.2.2.2.2.2.2.2.2.2.2.2.2.2.2.2.2.2.2.2.2.2.2.2.2.2.2.2.2.2.1)
    have k_xSG : xSG W := by
      rw [hW]
      exact (uxSG rfl hI.2.2.2.2.2.2.2.2.2.2.2.2.2.2.2.2.2.2.2.2.2.2.2.2.2.2.2.2.2.2.2.1)
    have k_xSF : xSF W := by
      rw [hW]
      exact (uxSF rfl hI.2.2.2.2.2.2.2.2.2.2.2.2.2.2.2.2.2.2.2.2.2.2.2.2.2.2.2.2.2.2.2.2.1)
    have k_xSB : xSB W := by
      rw [hW]
      exact (uxSB rfl hI.2.2.2.2.2.2.2.2.2.2.2.2.2.2.2.2.2.2.2.2.2.2.2.2.2.2.2.2.2.2.2.2.2.1)
    have k_xSC : xSC W := by
      rw [hW]
      exact (uxSC rfl hI.2.2.2.2.2.2.2.2.2.2.2.2.2.2.2.2.2.2.2.2.2.2.2.2.2.2.2.2.2.2.2.2.2.2.1)
    have k_xSD : xSD W := by
      rw [hW]
      exact (uxSD rfl hI.2.2.2.2.2.2.2.2.2.2.2.2.2.2.2.2.2.2.2.2.2.2.2.2.2.2.2.2.2.2.2.2.2.2.2.1)
    have k_xSE : xSE W := by
      rw [hW]
      exact (uxSE rfl hI.2.2.2.2.2.2.2.2.2.2.2.2.2.2.2.2.2.2.2.2.2.2.2.2.2.2.2.2.2.2.2.2.2.2.2.2.1)
    have k_xSW : xSW W := by
      rw [hW]
      exact (uxSW rfl hI.2.2.2.2.2.2.2.2.2.2.2.2.2.2.2.2.2.2.2.2.2.2.2.2.2.2.2.2.2.2.2.2.2.2.2.2.2.1)
    have k_xST : xST W := by
      rw [hW]
      exact (uxST rfl hI.2.2.2.2.2.2.2.2.2.2.2.2.2.2.2.2.2.2.2.2.2.2.2.2.2.2.2.2.2.2.2.2.2.2.2.2.2.2.1)
    have k_xSP : xSP W := by
      rw [hW]
      exact (uxSP rfl hI.2.2.2.2.2.2.2.2.2.2.2.2.2.2.2.2.2.2.2.2.2.2.2.2.2.2.2.2.2.2.2.2.2.2.2.2.2.2.2.1)
    have k_xSL : xSL W := by
      rw [hW]
      exact (uxSL rfl hI.2.2.2.2.2.2.2.2.2.2.2.2.2.2.2.2.2.2.2.2.2.2.2.2.2.2.2.2.2.2.2.2.2.2.2.2.2.2.2.2.1)
    have k_xSM : xSM W := by
      rw [hW]
      exact (uxSM rfl hI.2.2.2.2.2.2.2.2.2.2.2.2.2.2.2.2.2.2.2.2.2.2.2.2.2.2.2.2.2.2.2.2.2.2.2.2.2.2.2.2.2.1)
    have k_xSI : xSI W := by
      rw [hW]
      exact (uxSI rfl hI.2.2.2.2.2.2.2.2.2.2.2.2.2.2.2.2.2.2.2.2.2.2.2.2.2.2.2.2.2.2.2.2.2.2.2.2.2.2.2.2.2.2.1)
    have k_xD3 : xD3 W := by
      rw [hW]
      exact (uxD3 rfl hI.2.2.2.2.2.2.2.2.2.2.2.2.2.2.2.2.2.2.2.2.2.2.2.2.2.2.2.2.2.2.2.2.2.2.2.2.2.2.2.2.2.2.2.1)
    have k_xDV : xDV W := by
      rw [hW]
      exact (uxDV rfl hI.2.2.2.2.2.2.2.2.2.2.2.2.2.2.2.2.2.2.2.2.2.2.2.2.2.2.2.2.2.2.2.2.2.2.2.2.2.2.2.2.2.2.2.2.1)
    have k_xDP : xDP W := by
      rw [hW]
      exact (uxDP rfl hI.2.2.2.2.2.2.2.2.2.2.2.2.2.2.2.2.2.2.2.2.2.2.2.2.2.2.2.2.2.2.2.2.2.2.2.2.2.2.2.2.2.2.2.2.2.1)
    have k_xDE : xDE W := by
      rw [hW]
      exact (uxDE rfl hI.2.2.2.2.2.2.2.2.2.2.2.2.2.2.2.2.2.2.2.2.2.2.2.2.2.2.2.2.2.2.2.2.2.2.2.2.2.2.2.2.2.2.2.2.2.2.1)
    have k_xQ5 : xQ5 W := by
      rw [hW]
      exact (uxQ5 rfl hI.2.2.2.2.2.2.2.2.2.2.2.2.2.2.2.2.2.2.2.2.2.2.2.2.2.2.2.2.2.2.2.2.2.2.2.2.2.2.2.2.2.2.2.2.2.2.2.1)
    have k_xQL : xQL W := by
      rw [hW]
      exact (uxQL rfl hI.2.2.2.2.2.2.2.2.2.2.2.2.2.2.2.2.2.2.2.2.2.2.2.2.2.2.2.2.2.2.2.2.2.2.2.2.2.2.2.2.2.2.2.2.2.2.2.2.1)
    have k_xQW : xQW W := by
      rw [hW]
      exact (uxQW rfl hI.2.2.2.2.2.2.2.2.2.2.2.2.2.2.2.2.2.2.2.2.2.2.2.2.2.2.2.2.2.2.2.2.2.2.2.2.2.2.2.2.2.2.2.2.2.2.2.2.2.1)
    have k_xQM : xQM W := by
      have r : W 91 720 = 0 := by rw [hW, sU_at]
      intro h
      rw [r] at h
      omega
    have k_xQH : xQH W := by
      rw [hW]
      exact (uxQH rfl hI.2.2.2.2.2.2.2.2.2.2.2.2.2.2.2.2.2.2.2.2.2.2.2.2.2.2.2.2.2.2.2.2.2.2.2.2.2.2.2.2.2.2.2.2.2.2.2.2.2.2.2)
    have k_XC : XC W := ⟨k_xS1, k_xS2, k_xS3, k_xS4, k_xS5, k_xS6, k_xS7, k_xS8, k_xS9, k_xSA, k_xSG, k_xSF, k_xSB, k_xSC, k_xSD, k_xSE, k_xSW, k_xST, k_xSP, k_xSL, k_xSM, k_xSI, k_xD3, k_xDV, k_xDP, k_xDE, k_xQ5, k_xQL, k_xQW, k_xQM, k_xQH⟩
    have kXB : XB W := ⟨k_xN1, k_xN2, k_xN3, k_xN4, k_xN5, k_xN6, k_xH1, k_xK1, k_xC1, k_xRW, k_xWT, k_xCU, k_xG2, k_xG3, k_xG4, k_xG5, k_xG6, k_XC⟩
    exact ⟨base, k2, k3, kXA, kXB⟩
-- w_hSet
def xr_670 : qRu := (4, [], [(4, 350, [])], [], [(4, 350, [(28, 0)]), (4, 390, [(1, 1)]), (4, 391, [(1, 4)]), (4, 392, [(1, 5)]), (4, 393, [(1, 2)]), (4, 394, [(1, 6)]), (4, 395, [(1, 7)]), (4, 396, [(1, 3)]), (4, 397, [(1, 8)]), (4, 398, [(1, 9)])], [])
theorem xo_670 : qRok xr_670 := by
  intro ρ M h0 hf hm hI
  have m0 : M 4 350 = 0 := hm (4, 350, []) (by decide)
  have qxQH := hI.2.2.2.2.2.2.2.2.2.2.2.2.2.2.2.2.2.2.2.2.2.2.2.2.2.2.2.2.2.2.2.2.2.2.2.2.2.2.2.2.2.2.2.2.2.2.2.2.2.2.2
  refine ⟨fun a => cond (Nat.blt a 4) (ρ a) (([M 102 (1 * ρ 1 + 0).toNat, M 103 (1 * ρ 1 + 0).toNat, M 95 (1 * ρ 2 + 0).toNat, M 95 0, M 95 (1 * ρ 3 + 0).toNat, xop 6 (xop 2 (M 103 (1 * ρ 1 + 0).toNat - M 102 (1 * ρ 1 + 0).toNat) (M 95 (1 * ρ 2 + 0).toNat - M 95 0)) (M 95 (1 * ρ 3 + 0).toNat - M 95 0)] : List Int).getD (a - 4) 0), fun a ha => ?_, fun f h => ?_, ?_⟩
  · show cond (Nat.blt a 4) (ρ a) _ = ρ a
    rw [show Nat.blt a 4 = true from Nat.ble_eq_true_of_le ha]; rfl
  · exact nomatch h
  · show sI (sU (sU (sU (sU (sU (sU (sU (sU (sU (sU M 4 350 (28 * ρ 0 + 0)) 4 390 (1 * ρ 1 + 0)) 4 391 (1 * (M 102 (1 * ρ 1 + 0).toNat) + 0)) 4 392 (1 * (M 103 (1 * ρ 1 + 0).toNat) + 0)) 4 393 (1 * ρ 2 + 0)) 4 394 (1 * (M 95 (1 * ρ 2 + 0).toNat) + 0)) 4 395 (1 * (M 95 0) + 0)) 4 396 (1 * ρ 3 + 0)) 4 397 (1 * (M 95 (1 * ρ 3 + 0).toNat) + 0)) 4 398 (1 * (xop 6 (xop 2 (M 103 (1 * ρ 1 + 0).toNat - M 102 (1 * ρ 1 + 0).toNat) (M 95 (1 * ρ 2 + 0).toNat - M 95 0)) (M 95 (1 * ρ 3 + 0).toNat - M 95 0)) + 0))
    obtain ⟨W, hW⟩ : ∃ W, W = (sU (sU (sU (sU (sU (sU (sU (sU (sU (sU M 4 350 (28 * ρ 0 + 0)) 4 390 (1 * ρ 1 + 0)) 4 391 (1 * (M 102 (1 * ρ 1 + 0).toNat) + 0)) 4 392 (1 * (M 103 (1 * ρ 1 + 0).toNat) + 0)) 4 393 (1 * ρ 2 + 0)) 4 394 (1 * (M 95 (1 * ρ 2 + 0).toNat) + 0)) 4 395 (1 * (M 95 0) + 0)) 4 396 (1 * ρ 3 + 0)) 4 397 (1 * (M 95 (1 * ρ 3 + 0).toNat) + 0)) 4 398 (1 * (xop 6 (xop 2 (M 103 (1 * ρ 1 + 0).toNat - M 102 (1 * ρ 1 + 0).toNat) (M 95 (1 * ρ 2 + 0).toNat - M 95 0)) (M 95 (1 * ρ 3 + 0).toNat - M 95 0)) + 0)) := ⟨_, rfl⟩
    rw [← hW]
    have base : sI0 W := by
      rw [hW]
      exact (si_u0 (si_u0 (si_u0 (si_u0 (si_u0 (si_u0 (si_u0 (si_u0 (si_u0 (si_u0 hI.1 (fun r hr => by cases hr)) (fun r hr => by cases hr)) (fun r hr => by cases hr)) (fun r hr => by cases hr)) (fun r hr => by cases hr)) (fun r hr => by cases hr)) (fun r hr => by cases hr)) (fun r hr => by cases hr)) (fun r hr => by cases hr)) (fun r hr => by cases hr))
    have k2 : XI2 W := by
      rw [hW]
      exact (xi2_u rfl (xi2_u rfl (xi2_u rfl (xi2_u rfl (xi2_u rfl (xi2_u rfl (xi2_u rfl (xi2_u rfl (xi2_u rfl (xi2_u rfl hI.2.1))))))))))
    have k3 : XI3 W := by
      rw [hW]
      exact (xi3_u rfl (xi3_u rfl (xi3_u rfl (xi3_u rfl (xi3_u rfl (xi3_u rfl (xi3_u rfl (xi3_u rfl (xi3_u rfl (xi3_u rfl hI.2.2.1))))))))))
    have kXA : XA W := by
      rw [hW]
      exact (uXA rfl (uXA rfl (uXA rfl (uXA rfl (uXA rfl (uXA rfl (uXA rfl (uXA rfl (uXA rfl (uXA rfl hI.2.2.2.1))))))))))
    have k_xN1 : xN1 W := by
      rw [hW]
      exact (uxN1 rfl (uxN1 rfl (uxN1 rfl (uxN1 rfl (uxN1 rfl (uxN1 rfl (uxN1 rfl (uxN1 rfl (uxN1 rfl (uxN1 rfl hI.2.2.2.2.1))))))))))
    have k_xN2 : xN2 W := by
      rw [hW]
      exact (uxN2 rfl (uxN2 rfl (uxN2 rfl (uxN2 rfl (uxN2 rfl (uxN2 rfl (uxN2 rfl (uxN2 rfl (uxN2 rfl (uxN2 rfl hI.2.2.2.2.2.1))))))))))
    have k_xN3 : xN3 W := by
      rw [hW]
      exact (uxN3 rfl (uxN3 rfl (uxN3 rfl (uxN3 rfl (uxN3 rfl (uxN3 rfl (uxN3 rfl (uxN3 rfl (uxN3 rfl (uxN3 rfl hI.2.2.2.2.2.2.1))))))))))
    have k_xN4 : xN4 W := by
      rw [hW]
      exact (uxN4 rfl (uxN4 rfl (uxN4 rfl (uxN4 rfl (uxN4 rfl (uxN4 rfl (uxN4 rfl (uxN4 rfl (uxN4 rfl (uxN4 rfl hI.2.2.2.2.2.2.2.1))))))))))
    have k_xN5 : xN5 W := by
      rw [hW]
      exact (uxN5 rfl (uxN5 rfl (uxN5 rfl (uxN5 rfl (uxN5 rfl (uxN5 rfl (uxN5 rfl (uxN5 rfl (uxN5 rfl (uxN5 rfl hI.2.2.2.2.2.2.2.2.1))))))))))
    have k_xN6 : xN6 W := by
      rw [hW]
      exact (uxN6 rfl (uxN6 rfl (uxN6 rfl (uxN6 rfl (uxN6 rfl (uxN6 rfl (uxN6 rfl (uxN6 rfl (uxN6 rfl (uxN6 rfl hI.2.2.2.2.2.2.2.2.2.1))))))))))
    have k_xH1 : xH1 W := by
      rw [hW]
      exact (uxH1 rfl (uxH1 rfl (uxH1 rfl (uxH1 rfl (uxH1 rfl (uxH1 rfl (uxH1 rfl (uxH1 rfl (uxH1 rfl (uxH1 rfl hI.2.2.2.2.2.2.2.2.2.2.1))))))))))
    have k_xK1 : xK1 W := by
      rw [hW]
      exact (uxK1 rfl (uxK1 rfl (uxK1 rfl (uxK1 rfl (uxK1 rfl (uxK1 rfl (uxK1 rfl (uxK1 rfl (uxK1 rfl (uxK1 rfl hI.2.2.2.2.2.2.2.2.2.2.2.1))))))))))
    have k_xC1 : xC1 W := by
      rw [hW]
      exact (uxC1 rfl (uxC1 rfl (uxC1 rfl (uxC1 rfl (uxC1 rfl (uxC1 rfl (uxC1 rfl (uxC1 rfl (uxC1 rfl (uxC1 rfl hI.2.2.2.2.2.2.2.2.2.2.2.2.1))))))))))
    have k_xRW : xRW W := by
      rw [hW]
      exact (uxRW rfl (uxRW rfl (uxRW rfl (uxRW rfl (uxRW rfl (uxRW rfl (uxRW rfl (uxRW rfl (uxRW rfl (uxRW rfl hI.2.2.2.2.2.2.2.2.2.2.2.2.2.1))))))))))
    have k_xWT : xWT W := by
      rw [hW]
      exact (uxWT rfl (uxWT rfl (uxWT rfl (uxWT rfl (uxWT rfl (uxWT rfl (uxWT rfl (uxWT rfl (uxWT rfl (uxWT rfl hI.2.2.2.2.2.2.2.2.2.2.2.2.2.2.1))))))))))
    have k_xCU : xCU W := by
      rw [hW]
      exact (uxCU rfl (uxCU rfl (uxCU rfl (uxCU rfl (uxCU rfl (uxCU rfl (uxCU rfl (uxCU rfl (uxCU rfl (uxCU rfl hI.2.2.2.2.2.2.2.2.2.2.2.2.2.2.2.1))))))))))
    have k_xG2 : xG2 W := by
      rw [hW]
      exact (uxG2 rfl (uxG2 rfl (uxG2 rfl (uxG2 rfl (uxG2 rfl (uxG2 rfl (uxG2 rfl (uxG2 rfl (uxG2 rfl (uxG2 rfl hI.2.2.2.2.2.2.2.2.2.2.2.2.2.2.2.2.1))))))))))
    have k_xG3 : xG3 W := by
      rw [hW]
      exact (uxG3 rfl (uxG3 rfl (uxG3 rfl (uxG3 rfl (uxG3 rfl (uxG3 rfl (uxG3 rfl (uxG3 rfl (uxG3 rfl (uxG3 rfl hI.2.2.2.2.2.2.2.2.2.2.2.2.2.2.2.2.2.1))))))))))
    have k_xG4 : xG4 W := by
      rw [hW]
      exact (uxG4 rfl (uxG4 rfl (uxG4 rfl (uxG4 rfl (uxG4 rfl (uxG4 rfl (uxG4 rfl (uxG4 rfl (uxG4 rfl (uxG4 rfl hI.2.2.2.2.2.2.2.2.2.2.2.2.2.2.2.2.2.2.1))))))))))
    have k_xG5 : xG5 W := by
      rw [hW]
      exact (uxG5 rfl (uxG5 rfl (uxG5 rfl (uxG5 rfl (uxG5 rfl (uxG5 rfl (uxG5 rfl (uxG5 rfl (uxG5 rfl (uxG5 rfl hI.2.2.2.2.2.2.2.2.2.2.2.2.2.2.2.2.2.2.2.1))))))))))
    have k_xG6 : xG6 W := by
      rw [hW]
      exact (uxG6 rfl (uxG6 rfl (uxG6 rfl (uxG6 rfl (uxG6 rfl (uxG6 rfl (uxG6 rfl (uxG6 rfl (uxG6 rfl (uxG6 rfl hI.2.2.2.2.2.2.2.2.2.2.2.2.2.2.2.2.2.2.2.2.1))))))))))
    have k_xS1 : xS1 W := by
      rw [hW]
      exact (uxS1 rfl (uxS1 rfl (uxS1 rfl (uxS1 rfl (uxS1 rfl (uxS1 rfl (uxS1 rfl (uxS1 rfl (uxS1 rfl (uxS1 rfl hI.2.2.2.2.2.2.2.2.2.2.2.2.2.2.2.2.2.2.2.2.2.1))))))))))
    have k_xS2 : xS2 W := by
      rw [hW]
      exact (uxS2 rfl (uxS2 rfl (uxS2 rfl (uxS2 rfl (uxS2 rfl (uxS2 rfl (uxS2 rfl (uxS2 rfl (uxS2 rfl (uxS2 rfl hI.2.2.2.2.2.2.2.2.2.2.2.2.2.2.2.2.2.2.2.2.2.2.1))))))))))
    have k_xS3 : xS3 W := by
      rw [hW]
      exact (uxS3 rfl (uxS3 rfl (uxS3 rfl (uxS3 rfl (uxS3 rfl (uxS3 rfl (uxS3 rfl (uxS3 rfl (uxS3 rfl (uxS3 rfl hI.2.2.2.2.2.2.2.2.2.2.2.2.2.2.2.2.2.2.2.2.2.2.2.1))))))))))
    have k_xS4 : xS4 W := by
      rw [hW]
      exact (uxS4 rfl (uxS4 rfl (uxS4 rfl (uxS4 rfl (uxS4 rfl (uxS4 rfl (uxS4 rfl (uxS4 rfl (uxS4 rfl (uxS4 rfl hI.2.2.2.2.2.2.2.2.2.2.2.2.2.2.2.2.2.2.2.2.2.2.2.2.1))))))))))
    have k_xS5 : xS5 W := by
      rw [hW]
      exact (uxS5 rfl (uxS5 rfl (uxS5 rfl (uxS5 rfl (uxS5 rfl (uxS5 rfl (uxS5 rfl (uxS5 rfl (uxS5 rfl (uxS5 rfl hI.2.2.2.2.2.2.2.2.2.2.2.2.2.2.2.2.2.2.2.2.2.2.2.2.2.1))))))))))
    have k_xS6 : xS6 W := by
      rw [hW]
      exact (uxS6 rfl (uxS6 rfl (uxS6 rfl (uxS6 rfl (uxS6 rfl (uxS6 rfl (uxS6 rfl (uxS6 rfl (uxS6 rfl (uxS6 rfl hI.2.2.2.2.2.2.2.2.2.2.2.2.2.2.2.2.2.2.2.2.2.2.2.2.2.2.1))))))))))
    have k_xS7 : xS7 W := by
      rw [hW]
      exact (uxS7 rfl (uxS7 rfl (uxS7 rfl (uxS7 rfl (uxS7 rfl (uxS7 rfl (uxS7 rfl (uxS7 rfl (uxS7 rfl (uxS7 rfl hI.2.2.2.2.2.2.2.2.2.2.2.2.2.2.2.2.2.2.2.2.2.2.2.2.2.2.2.1))))))))))
    have k_xS8 : xS8 W := by
      rw [hW]
      exact (uxS8 rfl (uxS8 rfl (uxS8 rfl (uxS8 rfl (uxS8 rfl (uxS8 rfl (uxS8 rfl (uxS8 rfl (uxS8 rfl (uxS8 rfl hI.2.2.2.2.2.2.2.2.2.2.2.2.2.2.2.2.2.2.2.2.2.2.2.2.2.2.2.2.1))))))))))
    have k_xS9 : xS9 W := by
      rw [hW]
      exact (uxS9 rfl (uxS9 rfl (uxS9 rfl (uxS9 rfl (uxS9 rfl (uxS9 rfl (uxS9 rfl (uxS9 rfl (uxS9 rfl (uxS9 rfl hI.2.2.2.2.2.2.2.2.2.2.2.2.2.2.2.2.2.2.2.2.2.2.2.2.2.2.2.2.2.1))))))))))
    have k_xSA : xSA W := by
      rw [hW]
      exact (uxSA rfl (uxSA rfl (uxSA rfl (uxSA rfl (uxSA rfl (uxSA rfl (uxSA rfl (uxSA rfl (uxSA rfl (uxSA rfl hI.2.2.2.2.2.2.2.2.2.2.2.2.2.2.2.2.2.2.2.2.2.2.2.2.2.2.2.2.2.2.1))))))))))
    have k_xSG : xSG W := by
      rw [hW]
      exact (uxSG rfl (uxSG rfl (uxSG rfl (uxSG rfl (uxSG rfl (uxSG rfl (uxSG rfl (uxSG rfl (uxSG rfl (uxSG rfl hI.2.2.2.2.2.2.2.2.2.2.2.2.2.2.2.2.2.2.2.2.2.2.2.2.2.2.2.2.2.2.2.1))))))))))
    have k_xSF : xSF W := by
      rw [hW]
      exact (uxSF rfl (uxSF rfl (uxSF rfl (uxSF rfl (uxSF rfl (uxSF rfl (uxSF rfl (uxSF rfl (uxSF rfl (uxSF rfl hI.2.2.2.2.2.2.2.2.2.2.2.2.2.2.2.2.2.2.2.2.2.2.2.2.2.2.2.2.2.2.2.2.1))))))))))
    have k_xSB : xSB W := by
      rw [hW]
      exact (uxSB rfl (uxSB rfl (uxSB rfl (uxSB rfl (uxSB rfl (uxSB rfl (uxSB rfl (uxSB rfl (uxSB rfl (uxSB rfl hI.2.2.2.2.2.2.2.2.2.2.2.2.2.2.2.2.2.2.2.2.2.2.2.2.2.2.2.2.2.2.2.2.2.1))))))))))
    have k_xSC : xSC W := by
      rw [hW]
      exact (uxSC rfl (uxSC rfl (uxSC rfl (uxSC rfl (uxSC rfl (uxSC rfl (uxSC rfl (uxSC rfl (uxSC rfl (uxSC rfl hI.2.2.2.2.2.2.2.2.2.2.2.2.2.2.2.2.2.2.2.2.2.2.2.2.2.2.2.2.2.2.2.2.2.2.1))))))))))
    have k_xSD : xSD W := by
      rw [hW]
      exact (uxSD rfl (uxSD rfl (uxSD rfl (uxSD rfl (uxSD rfl (uxSD rfl (uxSD rfl (uxSD rfl (uxSD rfl (uxSD rfl hI.2.2.2.2.2.2.2.2.2.2.2.2.2.2.2.2.2.2.2.2.2.2.2.2.2.2.2.2.2.2.2.2.2.2.2.1))))))))))
    have k_xSE : xSE W := by
      rw [hW]
      exact (uxSE rfl (uxSE rfl (uxSE rfl (uxSE rfl (uxSE rfl (uxSE rfl (uxSE rfl (uxSE rfl (uxSE rfl (uxSE rfl hI.2.2.2.2.2.2.2.2.2.2.2.2.2.2.2.2.2.2.2.2.2.2.2.2.2.2.2.2.2.2.2.2.2.2.2.2.1))))))))))
    have k_xSW : xSW W := by
      rw [hW]
      exact (uxSW rfl (uxSW rfl (uxSW rfl (uxSW rfl (uxSW rfl (uxSW rfl (uxSW rfl (uxSW rfl (uxSW rfl (uxSW rfl hI.2.2.2.2.2.2.2.2.2.2.2.2.2.2.2.2.2.2.2.2.2.2.2.2.2.2.2.2.2.2.2.2.2.2.2.2.2.1))))))))))
    have k_xST : xST W := by
      rw [hW]
      exact (uxST rfl (uxST rfl (uxST rfl (uxST rfl (uxST rfl (uxST rfl (uxST rfl (uxST rfl (uxST rfl (uxST rfl hI.2.2.2.2.2.2.2.2.2.2.2.2.2.2.2.2.2.2.2.2.2.2.2.2.2.2.2.2.2.2.2.2.2.2.2.2.2.2.1))))))))))
    have k_xSP : xSP W := by
      rw [hW]
      exact (uxSP rfl (uxSP rfl (uxSP rfl (uxSP rfl (uxSP rfl (uxSP rfl (uxSP rfl (uxSP rfl (uxSP rfl (uxSP rfl hI.2.2.2.2.2.2.2.2.2.2.2.2.2.2.2.2.2.2.2.2.2.2.2.2.2.2.2.2.2.2.2.2.2.2.2.2.2.2.2.1))))))))))
    have k_xSL : xSL W := by
      rw [hW]
      exact (uxSL rfl (uxSL rfl (uxSL rfl (uxSL rfl (uxSL rfl (uxSL rfl (uxSL rfl (uxSL rfl (uxSL rfl (uxSL rfl hI.2.2.2.2.2.2.2.2.2.2.2.2.2.2.2.2.2.2.2.2.2.2.2.2.2.2.2.2.2.2.2.2.2.2.2.2.2.2.2.2.1))))))))))
    have k_xSM : xSM W := by
      rw [hW]
      exact (uxSM rfl (uxSM rfl (uxSM rfl (uxSM rfl (uxSM rfl (uxSM rfl (uxSM rfl (uxSM rfl (uxSM rfl (uxSM rfl hI.2.2.2.2.2.2.2.2.2.2.2.2.2.2.2.2.2.2.2.2.2.2.2.2.2.2.2.2.2.2.2.2.2.2.2.2.2.2.2.2.2.1))))))))))
    have k_xSI : xSI W := by
      rw [hW]
      exact (uxSI rfl (uxSI rfl (uxSI rfl (uxSI rfl (uxSI rfl (uxSI rfl (uxSI rfl (uxSI rfl (uxSI rfl (uxSI rfl hI.2.2.2.2.2.2.2.2.2.2.2.2.2.2.2.2.2.2.2.2.2.2.2.2.2.2.2.2.2.2.2.2.2.2.2.2.2.2.2.2.2.2.1))))))))))
    have k_xD3 : xD3 W := by
      rw [hW]
      exact (uxD3 rfl (uxD3 rfl (uxD3 rfl (uxD3 rfl (uxD3 rfl (uxD3 rfl (uxD3 rfl (uxD3 rfl (uxD3 rfl (uxD3 rfl hI.2.2.2.2.2.2.2.2.2.2.2.2.2.2.2.2.2.2.2.2.2.2.2.2.2.2.2.2.2.2.2.2.2.2.2.2.2.2.2.2.2.2.2.1))))))))))
    have k_xDV : xDV W := by
      rw [hW]
      exact (uxDV rfl (uxDV rfl (uxDV rfl (uxDV rfl (uxDV rfl (uxDV rfl (uxDV rfl (uxDV rfl (uxDV rfl (uxDV rfl hI.2.2.2.2.2.2.2.2.2.2.2.2.2.2.2.2.2.2.2.2.2.2.2.2.2.2.2.2.2.2.2.2.2.2.2.2.2.2.2.2.2.2.2.2.1))))))))))
    have k_xDP : xDP W := by
      rw [hW]
      exact (uxDP rfl (uxDP rfl (uxDP rfl (uxDP rfl (uxDP rfl (uxDP rfl (uxDP rfl (uxDP rfl (uxDP rfl (uxDP rfl hI.2.2.2.2.2.2.2.2.2.2.2.2.2.2.2.2.2.2.2.2.2.2.2.2.2.2.2.2.2.2.2.2.2.2.2.2.2.2.2.2.2.2.2.2.2.1))))))))))
    have k_xDE : xDE W := by
      rw [hW]
      exact (uxDE rfl (uxDE rfl (uxDE rfl (uxDE rfl (uxDE rfl (uxDE rfl (uxDE rfl (uxDE rfl (uxDE rfl (uxDE rfl hI.2.2.2.2.2.2.2.2.2.2.2.2.2.2.2.2.2.2.2.2.2.2.2.2.2.2.2.2.2.2.2.2.2.2.2.2.2.2.2.2.2.2.2.2.2.2.1))))))))))
    have k_xQ5 : xQ5 W := by
      have r : W 4 350 = 28 := by rw [hW, sU_ne (fun z => by omega), sU_ne (fun z => by omega), sU_ne (fun z => by omega), sU_ne (fun z => by omega), sU_ne (fun z => by omega), sU_ne (fun z => by omega), sU_ne (fun z => by omega), sU_ne (fun z => by omega), sU_ne (fun z => by omega), sU_at]; rw [h0]; rfl
      intro h
      rw [r] at h
      omega
    have k_xQL : xQL W := by
      have r : W 4 350 = 28 := by rw [hW, sU_ne (fun z => by omega), sU_ne (fun z => by omega), sU_ne (fun z => by omega), sU_ne (fun z => by omega), sU_ne (fun z => by omega), sU_ne (fun z => by omega), sU_ne (fun z => by omega), sU_ne (fun z => by omega), sU_ne (fun z => by omega), sU_at]; rw [h0]; rfl
      intro h
      rw [r] at h
      omega
    have k_xQW : xQW W := by
      have r : W 4 350 = 28 := by rw [hW, sU_ne (fun z => by omega), sU_ne (fun z => by omega), sU_ne (fun z => by omega), sU_ne (fun z => by omega), sU_ne (fun z => by omega), sU_ne (fun z => by omega), sU_ne (fun z => by omega), sU_ne (fun z => by omega), sU_ne (fun z => by omega), sU_at]; rw [h0]; rfl
      intro h
      rw [r] at h
      omega
    have k_xQM : xQM W := by
      rw [hW]
      exact (uxQM rfl (uxQM rfl (uxQM rfl (uxQM rfl (uxQM rfl (uxQM rfl (uxQM rfl (uxQM rfl (uxQM rfl (uxQM rfl hI.2.2.2.2.2.2.2.2.2.2.2.2.2.2.2.2.2.2.2.2.2.2.2.2.2.2.2.2.2.2.2.2.2.2.2.2.2.2.2.2.2.2.2.2.2.2.2.2.2.2.1))))))))))
    have k_xQH : xQH W := by
      have r4_350 : W 4 350 = 28 * ρ 0 + 0 := by rw [hW, sU_ne (fun z => by omega), sU_ne (fun z => by omega), sU_ne (fun z => by omega), sU_ne (fun z => by omega), sU_ne (fun z => by omega), sU_ne (fun z => by omega), sU_ne (fun z => by omega), sU_ne (fun z => by omega), sU_ne (fun z => by omega), sU_at]
      have r4_390 : W 4 390 = 1 * ρ 1 + 0 := by rw [hW, sU_ne (fun z => by omega), sU_ne (fun z => by omega), sU_ne (fun z => by omega), sU_ne (fun z => by omega), sU_ne (fun z => by omega), sU_ne (fun z => by omega), sU_ne (fun z => by omega), sU_ne (fun z => by omega), sU_at]
      have r4_391 : W 4 391 = 1 * (M 102 (1 * ρ 1 + 0).toNat) + 0 := by rw [hW, sU_ne (fun z => by omega), sU_ne (fun z => by omega), sU_ne (fun z => by omega), sU_ne (fun z => by omega), sU_ne (fun z => by omega), sU_ne (fun z => by omega), sU_ne (fun z => by omega), sU_at]
      have r4_392 : W 4 392 = 1 * (M 103 (1 * ρ 1 + 0).toNat) + 0 := by rw [hW, sU_ne (fun z => by omega), sU_ne (fun z => by omega), sU_ne (fun z => by omega), sU_ne (fun z => by omega), sU_ne (fun z => by omega), sU_ne (fun z => by omega), sU_at]
      have r4_393 : W 4 393 = 1 * ρ 2 + 0 := by rw [hW, sU_ne (fun z => by omega), sU_ne (fun z => by omega), sU_ne (fun z => by omega), sU_ne (fun z => by omega), sU_ne (fun z => by omega), sU_at]
      have r4_394 : W 4 394 = 1 * (M 95 (1 * ρ 2 + 0).toNat) + 0 := by rw [hW, sU_ne (fun z => by omega), sU_ne (fun z => by omega), sU_ne (fun z => by omega), sU_ne (fun z => by omega), sU_at]
      have r4_395 : W 4 395 = 1 * (M 95 0) + 0 := by rw [hW, sU_ne (fun z => by omega), sU_ne (fun z => by omega), sU_ne (fun z => by omega), sU_at]
      have r4_396 : W 4 396 = 1 * ρ 3 + 0 := by rw [hW, sU_ne (fun z => by omega), sU_ne (fun z => by omega), sU_at]
      have r4_397 : W 4 397 = 1 * (M 95 (1 * ρ 3 + 0).toNat) + 0 := by rw [hW, sU_ne (fun z => by omega), sU_at]
      have r4_398 : W 4 398 = 1 * (xop 6 (xop 2 (M 103 (1 * ρ 1 + 0).toNat - M 102 (1 * ρ 1 + 0).toNat) (M 95 (1 * ρ 2 + 0).toNat - M 95 0)) (M 95 (1 * ρ 3 + 0).toNat - M 95 0)) + 0 := by rw [hW, sU_at]
      have c95 : ∀ k, W 95 k = M 95 k := fun k => by rw [hW, sU_ne (fun z => by omega), sU_ne (fun z => by omega), sU_ne (fun z => by omega), sU_ne (fun z => by omega), sU_ne (fun z => by omega), sU_ne (fun z => by omega), sU_ne (fun z => by omega), sU_ne (fun z => by omega), sU_ne (fun z => by omega), sU_ne (fun z => by omega)]
      have e95 : W 95 = M 95 := funext c95
      have c102 : ∀ k, W 102 k = M 102 k := fun k => by rw [hW, sU_ne (fun z => by omega), sU_ne (fun z => by omega), sU_ne (fun z => by omega), sU_ne (fun z => by omega), sU_ne (fun z => by omega), sU_ne (fun z => by omega), sU_ne (fun z => by omega), sU_ne (fun z => by omega), sU_ne (fun z => by omega), sU_ne (fun z => by omega)]
      have e102 : W 102 = M 102 := funext c102
      have c103 : ∀ k, W 103 k = M 103 k := fun k => by rw [hW, sU_ne (fun z => by omega), sU_ne (fun z => by omega), sU_ne (fun z => by omega), sU_ne (fun z => by omega), sU_ne (fun z => by omega), sU_ne (fun z => by omega), sU_ne (fun z => by omega), sU_ne (fun z => by omega), sU_ne (fun z => by omega), sU_ne (fun z => by omega)]
      have e103 : W 103 = M 103 := funext c103
      intro _
      rw [r4_390, r4_391, r4_392, r4_393, r4_394, r4_395, r4_396, r4_397, r4_398, c95, c95, c95, c102, c103]
      have hz : ∀ z : Int, 1 * z + 0 = z := fun z => by omega
      simp only [hz]
      exact ⟨trivial, trivial, trivial, trivial, trivial, trivial⟩
    have k_XC : XC W := ⟨k_xS1, k_xS2, k_xS3, k_xS4, k_xS5, k_xS6, k_xS7, k_xS8, k_xS9, k_xSA, k_xSG, k_xSF, k_xSB, k_xSC, k_xSD, k_xSE, k_xSW, k_xST, k_xSP, k_xSL, k_xSM, k_xSI, k_xD3, k_xDV, k_xDP, k_xDE, k_xQ5, k_xQL, k_xQW, k_xQM, k_xQH⟩
    have kXB : XB W := ⟨k_xN1, k_xN2, k_xN3, k_xN4, k_xN5, k_xN6, k_xH1, k_xK1, k_xC1, k_xRW, k_xWT, k_xCU, k_xG2, k_xG3, k_xG4, k_xG5, k_xG6, k_XC⟩
    exact ⟨base, k2, k3, kXA, kXB⟩
-- w_hB
def xr_671 : qRu := (6, [[(-1, 1), (1, 4)], [(1, 1), (-1, 4)]], [(4, 350, [(28, 0)]), (4, 390, [(1, 1)]), (4, 391, [(1, 2)]), (102, 1004, [(1, 5)])], [], [], [[(1, 2), (-1, 5)], [(-1, 2), (1, 5)]])
theorem xo_671 : qRok xr_671 := by
  intro ρ M h0 hf hm hI
  have f0 := hf [(-1, 1), (1, 4)] (by decide)
  have f1 := hf [(1, 1), (-1, 4)] (by decide)
  simp only [qD, h0] at f0 f1
  have m0 : M 4 350 = 28 * ρ 0 + 0 := hm (4, 350, [(28, 0)]) (by decide)
  have m1 : M 4 390 = 1 * ρ 1 + 0 := hm (4, 390, [(1, 1)]) (by decide)
  have m2 : M 4 391 = 1 * ρ 2 + 0 := hm (4, 391, [(1, 2)]) (by decide)
  have m3 : M 102 (zIx ρ (1000 + 4)) = 1 * ρ 5 + 0 := hm (102, 1004, [(1, 5)]) (by decide)
  rw [zix_p] at m3
  simp only [h0] at m0
  obtain ⟨b1, b2, b3, b4, b5, b6⟩ := gx_xQH hI (by omega)

  rw [show (M 4 390).toNat = (ρ 4).toNat by omega] at b1
  refine ⟨ρ, fun _ _ => rfl, fun f h => ?_, ?_⟩
  · have h : f ∈ ([[(1, 2), (-1, 5)], [(-1, 2), (1, 5)]] : List qF) := h
    simp only [List.mem_cons, List.not_mem_nil, or_false] at h
    rcases h with rfl | rfl
    · show 0 ≤ 1 * ρ 2 + (-1 * ρ 5 + 0)
      (try rw [h0]); omega
    · show 0 ≤ -1 * ρ 2 + (1 * ρ 5 + 0)
      (try rw [h0]); omega
  · show sI M
    exact hI
-- w_hA
def xr_672 : qRu := (6, [[(-1, 1), (1, 4)], [(1, 1), (-1, 4)]], [(4, 350, [(28, 0)]), (4, 390, [(1, 1)]), (4, 392, [(1, 2)]), (103, 1004, [(1, 5)])], [], [], [[(1, 2), (-1, 5)], [(-1, 2), (1, 5)]])
theorem xo_672 : qRok xr_672 := by
  intro ρ M h0 hf hm hI
  have f0 := hf [(-1, 1), (1, 4)] (by decide)
  have f1 := hf [(1, 1), (-1, 4)] (by decide)
  simp only [qD, h0] at f0 f1
  have m0 : M 4 350 = 28 * ρ 0 + 0 := hm (4, 350, [(28, 0)]) (by decide)
  have m1 : M 4 390 = 1 * ρ 1 + 0 := hm (4, 390, [(1, 1)]) (by decide)
  have m2 : M 4 392 = 1 * ρ 2 + 0 := hm (4, 392, [(1, 2)]) (by decide)
  have m3 : M 103 (zIx ρ (1000 + 4)) = 1 * ρ 5 + 0 := hm (103, 1004, [(1, 5)]) (by decide)
  rw [zix_p] at m3
  simp only [h0] at m0
  obtain ⟨b1, b2, b3, b4, b5, b6⟩ := gx_xQH hI (by omega)

  rw [show (M 4 390).toNat = (ρ 4).toNat by omega] at b2
  refine ⟨ρ, fun _ _ => rfl, fun f h => ?_, ?_⟩
  · have h : f ∈ ([[(1, 2), (-1, 5)], [(-1, 2), (1, 5)]] : List qF) := h
    simp only [List.mem_cons, List.not_mem_nil, or_false] at h
    rcases h with rfl | rfl
    · show 0 ≤ 1 * ρ 2 + (-1 * ρ 5 + 0)
      (try rw [h0]); omega
    · show 0 ≤ -1 * ρ 2 + (1 * ρ 5 + 0)
      (try rw [h0]); omega
  · show sI M
    exact hI
-- w_hH
def xr_673 : qRu := (6, [[(-1, 1), (1, 4)], [(1, 1), (-1, 4)]], [(4, 350, [(28, 0)]), (4, 393, [(1, 1)]), (4, 394, [(1, 2)]), (95, 1004, [(1, 5)])], [], [], [[(1, 2), (-1, 5)], [(-1, 2), (1, 5)]])
theorem xo_673 : qRok xr_673 := by
  intro ρ M h0 hf hm hI
  have f0 := hf [(-1, 1), (1, 4)] (by decide)
  have f1 := hf [(1, 1), (-1, 4)] (by decide)
  simp only [qD, h0] at f0 f1
  have m0 : M 4 350 = 28 * ρ 0 + 0 := hm (4, 350, [(28, 0)]) (by decide)
  have m1 : M 4 393 = 1 * ρ 1 + 0 := hm (4, 393, [(1, 1)]) (by decide)
  have m2 : M 4 394 = 1 * ρ 2 + 0 := hm (4, 394, [(1, 2)]) (by decide)
  have m3 : M 95 (zIx ρ (1000 + 4)) = 1 * ρ 5 + 0 := hm (95, 1004, [(1, 5)]) (by decide)
  rw [zix_p] at m3
  simp only [h0] at m0
  obtain ⟨b1, b2, b3, b4, b5, b6⟩ := gx_xQH hI (by omega)

  rw [show (M 4 393).toNat = (ρ 4).toNat by omega] at b3
  refine ⟨ρ, fun _ _ => rfl, fun f h => ?_, ?_⟩
  · have h : f ∈ ([[(1, 2), (-1, 5)], [(-1, 2), (1, 5)]] : List qF) := h
    simp only [List.mem_cons, List.not_mem_nil, or_false] at h
    rcases h with rfl | rfl
    · show 0 ≤ 1 * ρ 2 + (-1 * ρ 5 + 0)
      (try rw [h0]); omega
    · show 0 ≤ -1 * ρ 2 + (1 * ρ 5 + 0)
      (try rw [h0]); omega
  · show sI M
    exact hI
