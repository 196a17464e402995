/-! RULES OF THE REFERENCE (wip/p3/xsf.py). -/
-- langMissR23L
def xr_490 : qRu := (3, [[(650625183, 0), (-1, 2)]], [(4, 226, [(1, 0)]), (4, 227, [(23, 0)]), (4, 219, [(1, 2)])], [], [(4, 227, [(24, 0)])], [])
theorem xo_490 : qRok xr_490 := by
  intro ρ M h0 hf hm hI
  have f0 := hf [(650625183, 0), (-1, 2)] (by decide)
  simp only [qD, h0] at f0
  have m0 : M 4 226 = 1 * ρ 0 + 0 := hm (4, 226, [(1, 0)]) (by decide)
  have m1 : M 4 227 = 23 * ρ 0 + 0 := hm (4, 227, [(23, 0)]) (by decide)
  have m2 : M 4 219 = 1 * ρ 2 + 0 := hm (4, 219, [(1, 2)]) (by decide)
  simp only [h0] at m0 m1
  have qxSC := hI.2.2.2.2.2.2.2.2.2.2.2.2.2.2.2.2.2.2.2.2.2.2.2.2.2.2.2.2.2.2.2.2.2.2.1
  obtain ⟨l1, l2, l3⟩ := gx_xSC hI (by omega)
  refine ⟨ρ, fun _ _ => rfl, fun f h => ?_, ?_⟩
  · exact nomatch h
  · show sI (sU M 4 227 (24 * ρ 0 + 0))
    obtain ⟨W, hW⟩ : ∃ W, W = (sU M 4 227 (24 * ρ 0 + 0)) := ⟨_, rfl⟩
    rw [← hW]
    have base : sI0 W := by
      rw [hW]
      exact (si_u0 hI.1 (fun r hr => by cases hr))
    have k2 : XI2 W := by
      rw [hW]
      exact (xi2_u rfl hI.2.1)
    have k3 : XI3 W := by
      rw [hW]
      exact (xi3_u rfl hI.2.2.1)
    have kXA : XA W := by
      rw [hW]
      exact (uXA rfl hI.2.2.2.1)
    have k_xN1 : xN1 W := by
      rw [hW]
      exact (uxN1 rfl hI.2.2.2.2.1)
    have k_xN2 : xN2 W := by
      rw [hW]
      exact (uxN2 rfl hI.2.2.2.2.2.1)
    have k_xN3 : xN3 W := by
      rw [hW]
      exact (uxN3 rfl hI.2.2.2.2.2.2.1)
    have k_xN4 : xN4 W := by
      rw [hW]
      exact (uxN4 rfl hI.2.2.2.2.2.2.2.1)
    have k_xN5 : xN5 W := by
      rw [hW]
      exact (uxN5 rfl hI.2.2.2.2.2.2.2.2.1)
    have k_xN6 : xN6 W := by
      rw [hW]
      exact (uxN6 rfl hI.2.2.2.2.2.2.2.2.2.1)
    have k_xH1 : xH1 W := by
      rw [hW]
      exact (uxH1 rfl hI.2.2.2.2.2.2.2.2.2.2.1)
    have k_xK1 : xK1 W := by
      rw [hW]
      exact (uxK1 rfl hI.2.2.2.2.2.2.2.2.2.2.2.1)
    have k_xC1 : xC1 W := by
      rw [hW]
      exact (uxC1 rfl hI.2.2.2.2.2.2.2.2.2.2.2.2.1)
    have k_xRW : xRW W := by
      rw [hW]
      exact (uxRW rfl hI.2.2.2.2.2.2.2.2.2.2.2.2.2.1)
    have k_xWT : xWT W := by
      rw [hW]
      exact (uxWT rfl hI.2.2.2.2.2.2.2.2.2.2.2.2.2.2.1)
    have k_xCU : xCU W := by
      rw [hW]
      exact (uxCU rfl hI.2.2.2.2.2.2.2.2.2.2.2.2.2.2.2.1)
    have k_xG2 : xG2 W := by
      rw [hW]
      exact (uxG2 rfl hI.2.2.2.2.2.2.2.2.2.2.2.2.2.2.2.2.1)
    have k_xG3 : xG3 W := by
      rw [hW]
      exact (uxG3 rfl hI.2.2.2.2.2.2.2.2.2.2.2.2.2.2.2.2.2.1)
    have k_xG4 : xG4 W := by
      rw [hW]
      exact (uxG4 rfl hI.2.2.2.2.2.2.2.2.2.2.2.2.2.2.2.2.2.2.1)
    have k_xG5 : xG5 W := by
      rw [hW]
      exact (uxG5 rfl hI.2.2.2.2.2.2.2.2.2.2.2.2.2.2.2.2.2.2.2.1)
    have k_xG6 : xG6 W := by
      rw [hW]
      exact (uxG6 rfl hI.2.2.2.2.2.2.2.2.2.2.2.2.2.2.2.2.2.2.2.2.1)
    have k_xS1 : xS1 W := by
      rw [hW]
      exact (uxS1 rfl hI.2.2.2.2.2.2.2.2.2.2.2.2.2.2.2.2.2.2.2.2.2.1)
    have k_xS2 : xS2 W := by
      rw [hW]
      exact (uxS2 rfl hI.2.2.2.2.2.2.2.2.2.2.2.2.2.2.2.2.2.2.2.2.2.2.1)
    have k_xS3 : xS3 W := by
      rw [hW]
      exact (uxS3 rfl hI.2.2.2.2.2.2.2.2.2.2.2.2.2.2.2.2.2.2.2.2.2.2.2.1)
    have k_xS4 : xS4 W := by
      rw [hW]
      exact (uxS4 rfl hI.2.2.2.2.2.2.2.2.2.2.2.2.2.2.2.2.2.2.2.2.2.2.2.2.1)
    have k_xS5 : xS5 W := by
      rw [hW]
      exact (uxS5 rfl hI.2.2.2.2.2.2.2.2.2.2.2.2.2.2.2.2.2.2.2.2.2.2.2.2.2.1)
    have k_xS6 : xS6 W := by
      rw [hW]
      exact (uxS6 rfl hI.2.2.2.2.2.2.2.2.2.2.2.2.2.2.2.2.2.2.2.2.2.2.2.2.2.2.1)
    have k_xS7 : xS7 W := by
      rw [hW]
      exact (uxS7 rfl hI.2.2.2.2.2.2.2.2.2.2.2.2.2.2.2.2.2.2.2.2.2.2.2.2.2.2.2.1)
    have k_xS8 : xS8 W := by
      rw [hW]
      exact (uxS8 rfl hI.2.2.2.2.2.2.2.2.2.2.2.2.2.2.2.2.2.2.2.2.2.2.2.2.2.2.2.2.1)
    have k_xS9 : xS9 W := by
      rw [hW]
      exact (uxS9 rfl hI.2.2.2.2.2.2.2.2.2.2.2.2.2.2.2.2.2.2.2.2.2.2.2.2.2.2.2.2.2.1)
    have k_xSA : xSA W := by
      rw [hW]
      exact (uxSA rfl hI.2.2.2.2.2.2.2.2.2.2.2.2.2.2.2.2.2.2.2.2.2.2.2.2.2.2.2.2.2.2.1)
    have k_xSG : xSG W := by
      rw [hW]
      exact (uxSG rfl hI.2.2.2.2.2.2.2.2.2.2.2.2.2.2.2.2.2.2.2.2.2.2.2.2.2.2.2.2.2.2.2.1)
    have k_xSF : xSF W := by
      rw [hW]
      exact (uxSF rfl hI.2.2.2.2.2.2.2.2.2.2.2.2.2.2.2.2.2.2.2.2.2.2.2.2.2.2.2.2.2.2.2.2.1)
    have k_xSB : xSB W := by
      rw [hW]
      exact (uxSB rfl hI.2.2.2.2.2.2.2.2.2.2.2.2.2.2.2.2.2.2.2.2.2.2.2.2.2.2.2.2.2.2.2.2.2.1)
    have k_xSC : xSC W := by
      have r4_226 : W 4 226 = M 4 226 := by rw [hW, sU_ne (fun z => by omega)]
      have r4_227 : W 4 227 = 24 * ρ 0 + 0 := by rw [hW, sU_at]
      have r4_219 : W 4 219 = M 4 219 := by rw [hW, sU_ne (fun z => by omega)]
      intro h
      rw [r4_227, r4_219, h0]
      refine ⟨by omega, by omega, ?_⟩
      have e1 := tki_on (x := M 4 219) (w := 23) (show tLa[23]? = some (650625184 : Int) from rfl)
      rw [if_neg (by omega)] at e1
      rw [show M 4 227 = 23 by omega] at l3
      rw [← l3]
      exact e1.symm
    have k_xSD : xSD W := by
      rw [hW]
      exact (uxSD rfl hI.2.2.2.2.2.2.2.2.2.2.2.2.2.2.2.2.2.2.2.2.2.2.2.2.2.2.2.2.2.2.2.2.2.2.2.1)
    have k_xSE : xSE W := by
      rw [hW]
      exact (uxSE rfl hI.2.2.2.2.2.2.2.2.2.2.2.2.2.2.2.2.2.2.2.2.2.2.2.2.2.2.2.2.2.2.2.2.2.2.2.2.1)
    have k_xSW : xSW W := by
      rw [hW]
      exact (uxSW rfl hI.2.2.2.2.2.2.2.2.2.2.2.2.2.2.2.2.2.2.2.2.2.2.2.2.2.2.2.2.2.2.2.2.2.2.2.2.2.1)
    have k_xST : xST W := by
      rw [hW]
      exact (uxST rfl hI.2.2.2.2.2.2.2.2.2.2.2.2.2.2.2.2.2.2.2.2.2.2.2.2.2.2.2.2.2.2.2.2.2.2.2.2.2.2.1)
    have k_xSP : xSP W := by
      rw [hW]
      exact (uxSP rfl hI.2.2.2.2.2.2.2.2.2.2.2.2.2.2.2.2.2.2.2.2.2.2.2.2.2.2.2.2.2.2.2.2.2.2.2.2.2.2.2.1)
    have k_xSL : xSL W := by
      rw [hW]
      exact (uxSL rfl hI.2.2.2.2.2.2.2.2.2.2.2.2.2.2.2.2.2.2.2.2.2.2.2.2.2.2.2.2.2.2.2.2.2.2.2.2.2.2.2.2.1)
    have k_xSM : xSM W := by
      rw [hW]
      exact (uxSM rfl hI.2.2.2.2.2.2.2.2.2.2.2.2.2.2.2.2.2.2.2.2.2.2.2.2.2.2.2.2.2.2.2.2.2.2.2.2.2.2.2.2.2.1)
    have k_xSI : xSI W := by
      rw [hW]
      exact (uxSI rfl hI.2.2.2.2.2.2.2.2.2.2.2.2.2.2.2.2.2.2.2.2.2.2.2.2.2.2.2.2.2.2.2.2.2.2.2.2.2.2.2.2.2.2.1)
    have k_xD3 : xD3 W := by
      rw [hW]
      exact (uxD3 rfl hI.2.2.2.2.2.2.2.2.2.2.2.2.2.2.2.2.2.2.2.2.2.2.2.2.2.2.2.2.2.2.2.2.2.2.2.2.2.2.2.2.2.2.2.1)
    have k_xDV : xDV W := by
      rw [hW]
      exact (uxDV rfl hI.2.2.2.2.2.2.2.2.2.2.2.2.2.2.2.2.2.2.2.2.2.2.2.2.2.2.2.2.2.2.2.2.2.2.2.2.2.2.2.2.2.2.2.2.1)
    have k_xDP : xDP W := by
      rw [hW]
      exact (uxDP rfl hI.2.2.2.2.2.2.2.2.2.2.2.2.2.2.2.2.2.2.2.2.2.2.2.2.2.2.2.2.2.2.2.2.2.2.2.2.2.2.2.2.2.2.2.2.2.1)
    have k_xDE : xDE W := by
      rw [hW]
      exact (uxDE rfl hI.2.2.2.2.2.2.2.2.2.2.2.2.2.2.2.2.2.2.2.2.2.2.2.2.2.2.2.2.2.2.2.2.2.2.2.2.2.2.2.2.2.2.2.2.2.2.1)
    have k_xQ5 : xQ5 W := by
      rw [hW]
      exact (uxQ5 rfl hI.2.2.2.2.2.2.2.2.2.2.2.2.2.2.2.2.2.2.2.2.2.2.2.2.2.2.2.2.2.2.2.2.2.2.2.2.2.2.2.2.2.2.2.2.2.2.2.1)
    have k_xQL : xQL W := by
      rw [hW]
      exact (uxQL rfl hI.2.2.2.2.2.2.2.2.2.2.2.2.2.2.2.2.2.2.2.2.2.2.2.2.2.2.2.2.2.2.2.2.2.2.2.2.2.2.2.2.2.2.2.2.2.2.2.2.1)
    have k_xQW : xQW W := by
      rw [hW]
      exact (uxQW rfl hI.2.2.2.2.2.2.2.2.2.2.2.2.2.2.2.2.2.2.2.2.2.2.2.2.2.2.2.2.2.2.2.2.2.2.2.2.2.2.2.2.2.2.2.2.2.2.2.2.2.1)
    have k_xQM : xQM W := by
      rw [hW]
      exact (uxQM rfl hI.2.2.2.2.2.2.2.2.2.2.2.2.2.2.2.2.2.2.2.2.2.2.2.2.2.2.2.2.2.2.2.2.2.2.2.2.2.2.2.2.2.2.2.2.2.2.2.2.2.2.1)
    have k_xQH : xQH W := by
      rw [hW]
      exact (uxQH rfl hI.2.2.2.2.2.2.2.2.2.2.2.2.2.2.2.2.2.2.2.2.2.2.2.2.2.2.2.2.2.2.2.2.2.2.2.2.2.2.2.2.2.2.2.2.2.2.2.2.2.2.2)
    have k_XC : XC W := ⟨k_xS1, k_xS2, k_xS3, k_xS4, k_xS5, k_xS6, k_xS7, k_xS8, k_xS9, k_xSA, k_xSG, k_xSF, k_xSB, k_xSC, k_xSD, k_xSE, k_xSW, k_xST, k_xSP, k_xSL, k_xSM, k_xSI, k_xD3, k_xDV, k_xDP, k_xDE, k_xQ5, k_xQL, k_xQW, k_xQM, k_xQH⟩
    have kXB : XB W := ⟨k_xN1, k_xN2, k_xN3, k_xN4, k_xN5, k_xN6, k_xH1, k_xK1, k_xC1, k_xRW, k_xWT, k_xCU, k_xG2, k_xG3, k_xG4, k_xG5, k_xG6, k_XC⟩
    exact ⟨base, k2, k3, kXA, kXB⟩
-- langMissR23H
def xr_491 : qRu := (3, [[(-650625185, 0), (1, 2)]], [(4, 226, [(1, 0)]), (4, 227, [(23, 0)]), (4, 219, [(1, 2)])], [], [(4, 227, [(24, 0)])], [])
theorem xo_491 : qRok xr_491 := by
  intro ρ M h0 hf hm hI
  have f0 := hf [(-650625185, 0), (1, 2)] (by decide)
  simp only [qD, h0] at f0
  have m0 : M 4 226 = 1 * ρ 0 + 0 := hm (4, 226, [(1, 0)]) (by decide)
  have m1 : M 4 227 = 23 * ρ 0 + 0 := hm (4, 227, [(23, 0)]) (by decide)
  have m2 : M 4 219 = 1 * ρ 2 + 0 := hm (4, 219, [(1, 2)]) (by decide)
  simp only [h0] at m0 m1
  have qxSC := hI.2.2.2.2.2.2.2.2.2.2.2.2.2.2.2.2.2.2.2.2.2.2.2.2.2.2.2.2.2.2.2.2.2.2.1
  obtain ⟨l1, l2, l3⟩ := gx_xSC hI (by omega)
  refine ⟨ρ, fun _ _ => rfl, fun f h => ?_, ?_⟩
  · exact nomatch h
  · show sI (sU M 4 227 (24 * ρ 0 + 0))
    obtain ⟨W, hW⟩ : ∃ W, W = (sU M 4 227 (24 * ρ 0 + 0)) := ⟨_, rfl⟩
    rw [← hW]
    have base : sI0 W := by
      rw [hW]
      exact (si_u0 hI.1 (fun r hr => by cases hr))
    have k2 : XI2 W := by
      rw [hW]
      exact (xi2_u rfl hI.2.1)
    have k3 : XI3 W := by
      rw [hW]
      exact (xi3_u rfl hI.2.2.1)
    have kXA : XA W := by
      rw [hW]
      exact (uXA rfl hI.2.2.2.1)
    have k_xN1 : xN1 W := by
      rw [hW]
      exact (uxN1 rfl hI.2.2.2.2.1)
    have k_xN2 : xN2 W := by
      rw [hW]
      exact (uxN2 rfl hI.2.2.2.2.2.1)
    have k_xN3 : xN3 W := by
      rw [hW]
      exact (uxN3 rfl hI.2.2.2.2.2.2.1)
    have k_xN4 : xN4 W := by
      rw [hW]
      exact (uxN4 rfl hI.2.2.2.2.2.2.2.1)
    have k_xN5 : xN5 W := by
      rw [hW]
      exact (uxN5 rfl hI.2.2.2.2.2.2.2.2.1)
    have k_xN6 : xN6 W := by
      rw [hW]
      exact (uxN6 rfl hI.2.2.2.2.2.2.2.2.2.1)
    have k_xH1 : xH1 W := by
      rw [hW]
      exact (uxH1 rfl hI.2.2.2.2.2.2.2.2.2.2.1)
    have k_xK1 : xK1 W := by
      rw [hW]
      exact (uxK1 rfl hI.2.2.2.2.2.2.2.2.2.2.2.1)
    have k_xC1 : xC1 W := by
      rw [hW]
      exact (uxC1 rfl hI.2.2.2.2.2.2.2.2.2.2.2.2.1)
    have k_xRW : xRW W := by
      rw [hW]
      exact (uxRW rfl hI.2.2.2.2.2.2.2.2.2.2.2.2.2.1)
    have k_xWT : xWT W := by
      rw [hW]
      exact (uxWT rfl hI.2.2.2.2.2.2.2.2.2.2.2.2.2.2.1)
    have k_xCU : xCU W := by
      rw [hW]
      exact (uxCU rfl hI.2.2.2.2.2.2.2.2.2.2.2.2.2.2.2.1)
    have k_xG2 : xG2 W := by
      rw [hW]
      exact (uxG2 rfl hI.2.2.2.2.2.2.2.2.2.2.2.2.2.2.2.2.1)
    have k_xG3 : xG3 W := by
      rw [hW]
      exact (uxG3 rfl hI.2.2.2.2.2.2.2.2.2.2.2.2.2.2.2.2.2.1)
    have k_xG4 : xG4 W := by
      rw [hW]
      exact (uxG4 rfl hI.2.2.2.2.2.2.2.2.2.2.2.2.2.2.2.2.2.2.1)
    have k_xG5 : xG5 W := by
      rw [hW]
      exact (uxG5 rfl hI.2.2.2.2.2.2.2.2.2.2.2.2.2.2.2.2.2.2.2.1)
    have k_xG6 : xG6 W := by
      rw [hW]
      exact (uxG6 rfl hI.2.2.2.2.2.2.2.2.2.2.2.2.2.2.2.2.2.2.2.2.1)
    have k_xS1 : xS1 W := by
      rw [hW]
      exact (uxS1 rfl hI.2.2.2.2.2.2.2.2.2.2.2.2.2.2.2.2.2.2.2.2.2.1)
    have k_xS2 : xS2 W := by
      rw [hW]
      exact (uxS2 rfl hI.2.2.2.2.2.2.2.2.2.2.2.2.2.2.2.2.2.2.2.2.2.2.1)
    have k_xS3 : xS3 W := by
      rw [hW]
      exact (uxS3 rfl hI.2.2.2.2.2.2.2.2.2.2.2.2.2.2.2.2.2.2.2.2.2.2.2.1)
    have k_xS4 : xS4 W := by
      rw [hW]
      exact (uxS4 rfl hI.2.2.2.2.2.2.2.2.2.2.2.2.2.2.2.2.2.2.2.2.2.2.2.2.1)
    have k_xS5 : xS5 W := by
      rw [hW]
      exact (uxS5 rfl hI.2.2.2.2.2.2.2.2.2.2.2.2.2.2.2.2.2.2.2.2.2.2.2.2.2.1)
    have k_xS6 : xS6 W := by
      rw [hW]
      exact (uxS6 rfl hI.2.2.2.2.2.2.2.2.2.2.2.2.2.2.2.2.2.2.2.2.2.2.2.2.2.2.1)
    have k_xS7 : xS7 W := by
      rw [hW]
      exact (uxS7 rfl hI.2.2.2.2.2.2.2.2.2.2.2.2.2.2.2.2.2.2.2.2.2.2.2.2.2.2.2.1)
    have k_xS8 : xS8 W := by
      rw [hW]
      exact (uxS8 rfl hI.2.2.2.2.2.2.2.2.2.2.2.2.2.2.2.2.2.2.2.2.2.2.2.2.2.2.2.2.1)
    have k_xS9 : xS9 W := by
      rw [hW]
      exact (uxS9 rfl hI.2.2.2.2.2.2.2.2.2.2.2.2.2.2.2.2.2.2.2.2.2.2.2.2.2.2.2.2.2.1)
    have k_xSA : xSA W := by
      rw [hW]
      exact (uxSA rfl hI.2.2.2.2.2.2.2.2.2.2.2.2.2.2.2.2.2.2.2.2.2.2.2.2.2.2.2.2.2.2.1)
    have k_xSG : xSG W := by
      rw [hW]
      exact (uxSG rfl hI.2.2.2.2.2.2.2.2.2.2.2.2.2.2.2.2.2.2.2.2.2.2.2.2.2.2.2.2.2.2.2.1)
    have k_xSF : xSF W := by
      rw [hW]
      exact (uxSF rfl hI.2.2.2.2.2.2.2.2.2.2.2.2.2.2.2.2.2.2.2.2.2.2.2.2.2.2.2.2.2.2.2.2.1)
    have k_xSB : xSB W := by
      rw [hW]
      exact (uxSB rfl hI.2.2.2.2.2.2.2.2.2.2.2.2.2.2.2.2.2.2.2.2.2.2.2.2.2.2.2.2.2.2.2.2.2.1)
    have k_xSC : xSC W := by
      have r4_226 : W 4 226 = M 4 226 := by rw [hW, sU_ne (fun z => by omega)]
      have r4_227 : W 4 227 = 24 * ρ 0 + 0 := by rw [hW, sU_at]
      have r4_219 : W 4 219 = M 4 219 := by rw [hW, sU_ne (fun z => by omega)]
      intro h
      rw [r4_227, r4_219, h0]
      refine ⟨by omega, by omega, ?_⟩
      have e1 := tki_on (x := M 4 219) (w := 23) (show tLa[23]? = some (650625184 : Int) from rfl)
      rw [if_neg (by omega)] at e1
      rw [show M 4 227 = 23 by omega] at l3
      rw [← l3]
      exact e1.symm
    have k_xSD : xSD W := by
      rw [hW]
      exact (uxSD rfl hI.2.2.2.2.2.2.2.2.2.2.2.2.2.2.2.2.2.2.2.2.2.2.2.2.2.2.2.2.2.2.2.2.2.2.2.1)
    have k_xSE : xSE W := by
      rw [hW]
      exact (uxSE rfl hI.2.2.2.2.2.2.2.2.2.2.2.2.2.2.2.2.2.2.2.2.2.2.2.2.2.2.2.2.2.2.2.2.2.2.2.2.1)
    have k_xSW : xSW W := by
      rw [hW]
      exact (uxSW rfl hI.2.2.2.2.2.2.2.2.2.2.2.2.2.2.2.2.2.2.2.2.2.2.2.2.2.2.2.2.2.2.2.2.2.2.2.2.2.1)
    have k_xST : xST W := by
      rw [hW]
      exact (uxST rfl hI.2.2.2.2.2.2.2.2.2.2.2.2.2.2.2.2.2.2.2.2.2.2.2.2.2.2.2.2.2.2.2.2.2.2.2.2.2.2.1)
    have k_xSP : xSP W := by
      rw [hW]
      exact (uxSP rfl hI.2.2.2.2.2.2.2.2.2.2.2.2.2.2.2.2.2.2.2.2.2.2.2.2.2.2.2.2.2.2.2.2.2.2.2.2.2.2.2.1)
    have k_xSL : xSL W := by
      rw [hW]
      exact (uxSL rfl hI.2.2.2.2.2.2.2.2.2.2.2.2.2.2.2.2.2.2.2.2.2.2.2.2.2.2.2.2.2.2.2.2.2.2.2.2.2.2.2.2.1)
    have k_xSM : xSM W := by
      rw [hW]
      exact (uxSM rfl hI.2.2.2.2.2.2.2.2.2.2.2.2.2.2.2.2.2.2.2.2.2.2.2.2.2.2.2.2.2.2.2.2.2.2.2.2.2.2.2.2.2.1)
    have k_xSI : xSI W := by
      rw [hW]
      exact (uxSI rfl hI.2.2.2.2.2.2.2.2.2.2.2.2.2.2.2.2.2.2.2.2.2.2.2.2.2.2.2.2.2.2.2.2.2.2.2.2.2.2.2.2.2.2.1)
    have k_xD3 : xD3 W := by
      rw [hW]
      exact (uxD3 rfl hI.2.2.2.2.2.2.2.2.2.2.2.2.2.2.2.2.2.2.2.2.2.2.2.2.2.2.2.2.2.2.2.2.2.2.2.2.2.2.2.2.2.2.2.1)
    have k_xDV : xDV W := by
      rw [hW]
      exact (uxDV rfl hI.2.2.2.2.2.2.2.2.2.2.2.2.2.2.2.2.2.2.2.2.2.2.2.2.2.2.2.2.2.2.2.2.2.2.2.2.2.2.2.2.2.2.2.2.1)
    have k_xDP : xDP W := by
      rw [hW]
      exact (uxDP rfl hI.2.2.2.2.2.2.2.2.2.2.2.2.2.2.2.2.2.2.2.2.2.2.2.2.2.2.2.2.2.2.2.2.2.2.2.2.2.2.2.2.2.2.2.2.2.1)
    have k_xDE : xDE W := by
      rw [hW]
      exact (uxDE rfl hI.2.2.2.2.2.2.2.2.2.2.2.2.2.2.2.2.2.2.2.2.2.2.2.2.2.2.2.2.2.2.2.2.2.2.2.2.2.2.2.2.2.2.2.2.2.2.1)
    have k_xQ5 : xQ5 W := by
      rw [hW]
      exact (uxQ5 rfl hI.2.2.2.2.2.2.2.2.2.2.2.2.2.2.2.2.2.2.2.2.2.2.2.2.2.2.2.2.2.2.2.2.2.2.2.2.2.2.2.2.2.2.2.2.2.2.2.1)
    have k_xQL : xQL W := by
      rw [hW]
      exact (uxQL rfl hI.2.2.2.2.2.2.2.2.2.2.2.2.2.2.2.2.2.2.2.2.2.2.2.2.2.2.2.2.2.2.2.2.2.2.2.2.2.2.2.2.2.2.2.2.2.2.2.2.1)
    have k_xQW : xQW W := by
      rw [hW]
      exact (uxQW rfl hI.2.2.2.2.2.2.2.2.2.2.2.2.2.2.2.2.2.2.2.2.2.2.2.2.2.2.2.2.2.2.2.2.2.2.2.2.2.2.2.2.2.2.2.2.2.2.2.2.2.1)
    have k_xQM : xQM W := by
      rw [hW]
      exact (uxQM rfl hI.2.2.2.2.2.2.2.2.2.2.2.2.2.2.2.2.2.2.2.2.2.2.2.2.2.2.2.2.2.2.2.2.2.2.2.2.2.2.2.2.2.2.2.2.2.2.2.2.2.2.1)
    have k_xQH : xQH W := by
      rw [hW]
      exact (uxQH rfl hI.2.2.2.2.2.2.2.2.2.2.2.2.2.2.2.2.2.2.2.2.2.2.2.2.2.2.2.2.2.2.2.2.2.2.2.2.2.2.2.2.2.2.2.2.2.2.2.2.2.2.2)
    have k_XC : XC W := ⟨k_xS1, k_xS2, k_xS3, k_xS4, k_xS5, k_xS6, k_xS7, k_xS8, k_xS9, k_xSA, k_xSG, k_xSF, k_xSB, k_xSC, k_xSD, k_xSE, k_xSW, k_xST, k_xSP, k_xSL, k_xSM, k_xSI, k_xD3, k_xDV, k_xDP, k_xDE, k_xQ5, k_xQL, k_xQW, k_xQM, k_xQH⟩
    have kXB : XB W := ⟨k_xN1, k_xN2, k_xN3, k_xN4, k_xN5, k_xN6, k_xH1, k_xK1, k_xC1, k_xRW, k_xWT, k_xCU, k_xG2, k_xG3, k_xG4, k_xG5, k_xG6, k_XC⟩
    exact ⟨base, k2, k3, kXA, kXB⟩
-- mkName
def xr_492 : qRu := (3, [[(1, 1)], [(33554431, 0), (-1, 1)], [(1, 2)], [(31, 0), (-1, 2)]], [(91, 249, [])], [], [(91, 240, [(1, 0)]), (91, 241, [(1, 1)]), (91, 242, [(5, 0)]), (91, 243, [(32, 1)]), (91, 245, [(1, 2)]), (91, 246, []), (91, 244, [(32, 1)]), (91, 247, [(32, 1), (1, 2)])], [])
theorem xo_492 : qRok xr_492 := by
  intro ρ M h0 hf hm hI
  have f0 := hf [(1, 1)] (by decide)
  have f1 := hf [(33554431, 0), (-1, 1)] (by decide)
  have f2 := hf [(1, 2)] (by decide)
  have f3 := hf [(31, 0), (-1, 2)] (by decide)
  simp only [qD, h0] at f0 f1 f2 f3
  have m0 : M 91 249 = 0 := hm (91, 249, []) (by decide)
  have qxSD := hI.2.2.2.2.2.2.2.2.2.2.2.2.2.2.2.2.2.2.2.2.2.2.2.2.2.2.2.2.2.2.2.2.2.2.2.1
  refine ⟨ρ, fun _ _ => rfl, fun f h => ?_, ?_⟩
  · exact nomatch h
  · show sI (sU (sU (sU (sU (sU (sU (sU (sU M 91 240 (1 * ρ 0 + 0)) 91 241 (1 * ρ 1 + 0)) 91 242 (5 * ρ 0 + 0)) 91 243 (32 * ρ 1 + 0)) 91 245 (1 * ρ 2 + 0)) 91 246 (0)) 91 244 (32 * ρ 1 + 0)) 91 247 (32 * ρ 1 + (1 * ρ 2 + 0)))
    obtain ⟨W, hW⟩ : ∃ W, W = (sU (sU (sU (sU (sU (sU (sU (sU M 91 240 (1 * ρ 0 + 0)) 91 241 (1 * ρ 1 + 0)) 91 242 (5 * ρ 0 + 0)) 91 243 (32 * ρ 1 + 0)) 91 245 (1 * ρ 2 + 0)) 91 246 (0)) 91 244 (32 * ρ 1 + 0)) 91 247 (32 * ρ 1 + (1 * ρ 2 + 0))) := ⟨_, rfl⟩
    rw [← hW]
    have base : sI0 W := by
      rw [hW]
      exact (si_u0 (si_u0 (si_u0 (si_u0 (si_u0 (si_u0 (si_u0 (si_u0 hI.1 (fun r hr => by cases hr)) (fun r hr => by cases hr)) (fun r hr => by cases hr)) (fun r hr => by cases hr)) (fun r hr => by cases hr)) (fun r hr => by cases hr)) (fun r hr => by cases hr)) (fun r hr => by cases hr))
    have k2 : XI2 W := by
      rw [hW]
      exact (xi2_u rfl (xi2_u rfl (xi2_u rfl (xi2_u rfl (xi2_u rfl (xi2_u rfl (xi2_u rfl (xi2_u rfl hI.2.1))))))))
    have k3 : XI3 W := by
      rw [hW]
      exact (xi3_u rfl (xi3_u rfl (xi3_u rfl (xi3_u rfl (xi3_u rfl (xi3_u rfl (xi3_u rfl (xi3_u rfl hI.2.2.1))))))))
    have kXA : XA W := by
      rw [hW]
      exact (uXA rfl (uXA rfl (uXA rfl (uXA rfl (uXA rfl (uXA rfl (uXA rfl (uXA rfl hI.2.2.2.1))))))))
    have k_xN1 : xN1 W := by
      rw [hW]
      exact (uxN1 rfl (uxN1 rfl (uxN1 rfl (uxN1 rfl (uxN1 rfl (uxN1 rfl (uxN1 rfl (uxN1 rfl hI.2.2.2.2.1))))))))
    have k_xN2 : xN2 W := by
      rw [hW]
      exact (uxN2 rfl (uxN2 rfl (uxN2 rfl (uxN2 rfl (uxN2 rfl (uxN2 rfl (uxN2 rfl (uxN2 rfl hI.2.2.2.2.2.1))))))))
    have k_xN3 : xN3 W := by
      rw [hW]
      exact (uxN3 rfl (uxN3 rfl (uxN3 rfl (uxN3 rfl (uxN3 rfl (uxN3 rfl (uxN3 rfl (uxN3 rfl hI.2.2.2.2.2.2.1))))))))
    have k_xN4 : xN4 W := by
      rw [hW]
      exact (uxN4 rfl (uxN4 rfl (uxN4 rfl (uxN4 rfl (uxN4 rfl (uxN4 rfl (uxN4 rfl (uxN4 rfl hI.2.2.2.2.2.2.2.1))))))))
    have k_xN5 : xN5 W := by
      rw [hW]
      exact (uxN5 rfl (uxN5 rfl (uxN5 rfl (uxN5 rfl (uxN5 rfl (uxN5 rfl (uxN5 rfl (uxN5 rfl hI.2.2.2.2.2.2.2.2.1))))))))
    have k_xN6 : xN6 W := by
      rw [hW]
      exact (uxN6 rfl (uxN6 rfl (uxN6 rfl (uxN6 rfl (uxN6 rfl (uxN6 rfl (uxN6 rfl (uxN6 rfl hI.2.2.2.2.2.2.2.2.2.1))))))))
    have k_xH1 : xH1 W := by
      rw [hW]
      exact (uxH1 rfl (uxH1 rfl (uxH1 rfl (uxH1 rfl (uxH1 rfl (uxH1 rfl (uxH1 rfl (uxH1 rfl hI.2.2.2.2.2.2.2.2.2.2.1))))))))
    have k_xK1 : xK1 W := by
      rw [hW]
      exact (uxK1 rfl (uxK1 rfl (uxK1 rfl (uxK1 rfl (uxK1 rfl (uxK1 rfl (uxK1 rfl (uxK1 rfl hI.2.2.2.2.2.2.2.2.2.2.2.1))))))))
    have k_xC1 : xC1 W := by
      rw [hW]
      exact (uxC1 rfl (uxC1 rfl (uxC1 rfl (uxC1 rfl (uxC1 rfl (uxC1 rfl (uxC1 rfl (uxC1 rfl hI.2.2.2.2.2.2.2.2.2.2.2.2.1))))))))
    have k_xRW : xRW W := by
      rw [hW]
      exact (uxRW rfl (uxRW rfl (uxRW rfl (uxRW rfl (uxRW rfl (uxRW rfl (uxRW rfl (uxRW rfl hI.2.2.2.2.2.2.2.2.2.2.2.2.2.1))))))))
    have k_xWT : xWT W := by
      rw [hW]
      exact (uxWT rfl (uxWT rfl (uxWT rfl (uxWT rfl (uxWT rfl (uxWT rfl (uxWT rfl (uxWT rfl hI.2.2.2.2.2.2.2.2.2.2.2.2.2.2.1))))))))
    have k_xCU : xCU W := by
      rw [hW]
      exact (uxCU rfl (uxCU rfl (uxCU rfl (uxCU rfl (uxCU rfl (uxCU rfl (uxCU rfl (uxCU rfl hI.2.2.2.2.2.2.2.2.2.2.2.2.2.2.2.1))))))))
    have k_xG2 : xG2 W := by
      rw [hW]
      exact (uxG2 rfl (uxG2 rfl (uxG2 rfl (uxG2 rfl (uxG2 rfl (uxG2 rfl (uxG2 rfl (uxG2 rfl hI.2.2.2.2.2.2.2.2.2.2.2.2.2.2.2.2.1))))))))
    have k_xG3 : xG3 W := by
      rw [hW]
      exact (uxG3 rfl (uxG3 rfl (uxG3 rfl (uxG3 rfl (uxG3 rfl (uxG3 rfl (uxG3 rfl (uxG3 rfl hI.2.2.2.2.2.2.2.2.2.2.2.2.2.2.2.2.2.1))))))))
    have k_xG4 : xG4 W := by
      rw [hW]
      exact (uxG4 rfl (uxG4 rfl (uxG4 rfl (uxG4 rfl (uxG4 rfl (uxG4 rfl (uxG4 rfl (uxG4 rfl hI.2.2.2.2.2.2.2.2.2.2.2.2.2.2.2.2.2.2.1))))))))
    have k_xG5 : xG5 W := by
      rw [hW]
      exact (uxG5 rfl (uxG5 rfl (uxG5 rfl (uxG5 rfl (uxG5 rfl (uxG5 rfl (uxG5 rfl (uxG5 rfl hI.2.2.2.2.2.2.2.2.2.2.2.2.2.2.2.2.2.2.2.1))))))))
    have k_xG6 : xG6 W := by
      rw [hW]
      exact (uxG6 rfl (uxG6 rfl (uxG6 rfl (uxG6 rfl (uxG6 rfl (uxG6 rfl (uxG6 rfl (uxG6 rfl hI.2.2.2.2.2.2.2.2.2.2.2.2.2.2.2.2.2.2.2.2.1))))))))
    have k_xS1 : xS1 W := by
      rw [hW]
      exact (uxS1 rfl (uxS1 rfl (uxS1 rfl (uxS1 rfl (uxS1 rfl (uxS1 rfl (uxS1 rfl (uxS1 rfl hI.2.2.2.2.2.2.2.2.2.2.2.2.2.2.2.2.2.2.2.2.2.1))))))))
    have k_xS2 : xS2 W := by
      rw [hW]
      exact (uxS2 rfl (uxS2 rfl (uxS2 rfl (uxS2 rfl (uxS2 rfl (uxS2 rfl (uxS2 rfl (uxS2 rfl hI.2.2.2.2.2.2.2.2.2.2.2.2.2.2.2.2.2.2.2.2.2.2.1))))))))
    have k_xS3 : xS3 W := by
      rw [hW]
      exact (uxS3 rfl (uxS3 rfl (uxS3 rfl (uxS3 rfl (uxS3 rfl (uxS3 rfl (uxS3 rfl (uxS3 rfl hI.2.2.2.2.2.2.2.2.2.2.2.2.2.2.2.2.2.2.2.2.2.2.2.1))))))))
    have k_xS4 : xS4 W := by
      rw [hW]
      exact (uxS4 rfl (uxS4 rfl (uxS4 rfl (uxS4 rfl (uxS4 rfl (uxS4 rfl (uxS4 rfl (uxS4 rfl hI.2.2.2.2.2.2.2.2.2.2.2.2.2.2.2.2.2.2.2.2.2.2.2.2.1))))))))
    have k_xS5 : xS5 W := by
      rw [hW]
      exact (uxS5 rfl (uxS5 rfl (uxS5 rfl (uxS5 rfl (uxS5 rfl (uxS5 rfl (uxS5 rfl (uxS5 rfl hI.2.2.2.2.2.2.2.2.2.2.2.2.2.2.2.2.2.2.2.2.2.2.2.2.2.1))))))))
    have k_xS6 : xS6 W := by
      rw [hW]
      exact (uxS6 rfl (uxS6 rfl (uxS6 rfl (uxS6 rfl (uxS6 rfl (uxS6 rfl (uxS6 rfl (uxS6 rfl hI.2.2.2.2.2.2.2.2.2.2.2.2.2.2.2.2.2.2.2.2.2.2.2.2.2.2.1))))))))
    have k_xS7 : xS7 W := by
      rw [hW]
      exact (uxS7 rfl (uxS7 rfl (uxS7 rfl (uxS7 rfl (uxS7 rfl (uxS7 rfl (uxS7 rfl (uxS7 rfl hI.2.2.2.2.2.2.2.2.2.2.2.2.2.2.2.2.2.2.2.2.2.2.2.2.2.2.2.1))))))))
    have k_xS8 : xS8 W := by
      rw [hW]
      exact (uxS8 rfl (uxS8 rfl (uxS8 rfl (uxS8 rfl (uxS8 rfl (uxS8 rfl (uxS8 rfl (uxS8 rfl hI.2.2.2.2.2.2.2.2.2.2.2.2.2.2.2.2.2.2.2.2.2.2.2.2.2.2.2.2.1))))))))
    have k_xS9 : xS9 W := by
      rw [hW]
      exact (uxS9 rfl (uxS9 rfl (uxS9 rfl (uxS9 rfl (uxS9 rfl (uxS9 rfl (uxS9 rfl (uxS9 rfl hI.2.2.2.2.2.2.2.2.2.2.2.2.2.2.2.2.2.2.2.2.2.2.2.2.2.2.2.2.2.1))))))))
    have k_xSA : xSA W := by
      rw [hW]
      exact (uxSA rfl (uxSA rfl (uxSA rfl (uxSA rfl (uxSA rfl (uxSA rfl (uxSA rfl (uxSA rfl hI.2.2.2.2.2.2.2.2.2.2.2.2.2.2.2.2.2.2.2.2.2.2.2.2.2.2.2.2.2.2.1))))))))
    have k_xSG : xSG W := by
      rw [hW]
      exact (uxSG rfl (uxSG rfl (uxSG rfl (uxSG rfl (uxSG rfl (uxSG rfl (uxSG rfl (uxSG rfl hI.2.2.2.2.2.2.2.2.2.2.2.2.2.2.2.2.2.2.2.2.2.2.2.2.2.2.2.2.2.2.2.1))))))))
    have k_xSF : xSF W := by
      rw [hW]
      exact (uxSF rfl (uxSF rfl (uxSF rfl (uxSF rfl (uxSF rfl (uxSF rfl (uxSF rfl (uxSF rfl hI.2.2.2.2.2.2.2.2.2.2.2.2.2.2.2.2.2.2.2.2.2.2.2.2.2.2.2.2.2.2.2.2.1))))))))
    have k_xSB : xSB W := by
      rw [hW]
      exact (uxSB rfl (uxSB rfl (uxSB rfl (uxSB rfl (uxSB rfl (uxSB rfl (uxSB rfl (uxSB rfl hI.2.2.2.2.2.2.2.2.2.2.2.2.2.2.2.2.2.2.2.2.2.2.2.2.2.2.2.2.2.2.2.2.2.1))))))))
    have k_xSC : xSC W := by
      rw [hW]
      exact (uxSC rfl (uxSC rfl (uxSC rfl (uxSC rfl (uxSC rfl (uxSC rfl (uxSC rfl (uxSC rfl hI.2.2.2.2.2.2.2.2.2.2.2.2.2.2.2.2.2.2.2.2.2.2.2.2.2.2.2.2.2.2.2.2.2.2.1))))))))
    have k_xSD : xSD W := by
      have r91_240 : W 91 240 = 1 * ρ 0 + 0 := by rw [hW, sU_ne (fun z => by omega), sU_ne (fun z => by omega), sU_ne (fun z => by omega), sU_ne (fun z => by omega), sU_ne (fun z => by omega), sU_ne (fun z => by omega), sU_ne (fun z => by omega), sU_at]
      have r91_241 : W 91 241 = 1 * ρ 1 + 0 := by rw [hW, sU_ne (fun z => by omega), sU_ne (fun z => by omega), sU_ne (fun z => by omega), sU_ne (fun z => by omega), sU_ne (fun z => by omega), sU_ne (fun z => by omega), sU_at]
      have r91_242 : W 91 242 = 5 * ρ 0 + 0 := by rw [hW, sU_ne (fun z => by omega), sU_ne (fun z => by omega), sU_ne (fun z => by omega), sU_ne (fun z => by omega), sU_ne (fun z => by omega), sU_at]
      have r91_243 : W 91 243 = 32 * ρ 1 + 0 := by rw [hW, sU_ne (fun z => by omega), sU_ne (fun z => by omega), sU_ne (fun z => by omega), sU_ne (fun z => by omega), sU_at]
      have r91_244 : W 91 244 = 32 * ρ 1 + 0 := by rw [hW, sU_ne (fun z => by omega), sU_at]
      have r91_245 : W 91 245 = 1 * ρ 2 + 0 := by rw [hW, sU_ne (fun z => by omega), sU_ne (fun z => by omega), sU_ne (fun z => by omega), sU_at]
      have r91_246 : W 91 246 = 0 := by rw [hW, sU_ne (fun z => by omega), sU_ne (fun z => by omega), sU_at]
      have r91_247 : W 91 247 = 32 * ρ 1 + (1 * ρ 2 + 0) := by rw [hW, sU_at]
      intro h
      rw [r91_241, r91_242, r91_243, r91_244, r91_245, r91_246, r91_247]
      have hs : xop 4 (1 * ρ 1 + 0) (5 * ρ 0 + 0) = 32 * ρ 1 + 0 := by
        rw [h0, show ((5 : Int) * 1 + 0) = 5 from rfl, show (1 * ρ 1 + 0 : Int) = ρ 1 by omega, xsh5 (by omega) (by omega)]
        omega
      refine ⟨hs.symm, ?_, ?_⟩
      · have := xor_add (a := 0) (b := 32 * ρ 1) (s := 30) (by omega) (by omega) (by omega) (by omega)
        rw [show (32 * ρ 1 + 0 : Int) = 32 * ρ 1 by omega]
        rw [show ((0 : Int) * 2 ^ 30) = 0 from rfl] at this
        omega
      · rw [show (32 * ρ 1 + 0 : Int) = ρ 1 * 2 ^ 5 by omega, show (1 * ρ 2 + 0 : Int) = ρ 2 by omega, xor_add (by omega) (by omega) (by omega) (by omega)]
        omega
    have k_xSE : xSE W := by
      have r : W 91 249 = 0 := by
        have e := m0
        rw [hW, sU_ne (fun z => by omega), sU_ne (fun z => by omega), sU_ne (fun z => by omega), sU_ne (fun z => by omega), sU_ne (fun z => by omega), sU_ne (fun z => by omega), sU_ne (fun z => by omega), sU_ne (fun z => by omega)]
        omega
      intro h
      rw [r] at h
      omega
    have k_xSW : xSW W := by
      rw [hW]
      exact (uxSW rfl (uxSW rfl (uxSW rfl (uxSW rfl (uxSW rfl (uxSW rfl (uxSW rfl (uxSW rfl hI.2.2.2.2.2.2.2.2.2.2.2.2.2.2.2.2.2.2.2.2.2.2.2.2.2.2.2.2.2.2.2.2.2.2.2.2.2.1))))))))
    have k_xST : xST W := by
      rw [hW]
      exact (uxST rfl (uxST rfl (uxST rfl (uxST rfl (uxST rfl (uxST rfl (uxST rfl (uxST rfl hI.2.2.2.2.2.2.2.2.2.2.2.2.2.2.2.2.2.2.2.2.2.2.2.2.2.2.2.2.2.2.2.2.2.2.2.2.2.2.1))))))))
    have k_xSP : xSP W := by
      rw [hW]
      exact (uxSP rfl (uxSP rfl (uxSP rfl (uxSP rfl (uxSP rfl (uxSP rfl (uxSP rfl (uxSP rfl hI.2.2.2.2.2.2.2.2.2.2.2.2.2.2.2.2.2.2.2.2.2.2.2.2.2.2.2.2.2.2.2.2.2.2.2.2.2.2.2.1))))))))
    have k_xSL : xSL W := by
      rw [hW]
      exact (uxSL rfl (uxSL rfl (uxSL rfl (uxSL rfl (uxSL rfl (uxSL rfl (uxSL rfl (uxSL rfl hI.2.2.2.2.2.2.2.2.2.2.2.2.2.2.2.2.2.2.2.2.2.2.2.2.2.2.2.2.2.2.2.2.2.2.2.2.2.2.2.2.1))))))))
    have k_xSM : xSM W := by
      rw [hW]
      exact (uxSM rfl (uxSM rfl (uxSM rfl (uxSM rfl (uxSM rfl (uxSM rfl (uxSM rfl (uxSM rfl hI.2.2.2.2.2.2.2.2.2.2.2.2.2.2.2.2.2.2.2.2.2.2.2.2.2.2.2.2.2.2.2.2.2.2.2.2.2.2.2.2.2.1))))))))
    have k_xSI : xSI W := by
      rw [hW]
      exact (uxSI rfl (uxSI rfl (uxSI rfl (uxSI rfl (uxSI rfl (uxSI rfl (uxSI rfl (uxSI rfl hI.2.2.2.2.2.2.2.2.2.2.2.2.2.2.2.2.2.2.2.2.2.2.2.2.2.2.2.2.2.2.2.2.2.2.2.2.2.2.2.2.2.2.1))))))))
    have k_xD3 : xD3 W := by
      rw [hW]
      exact (uxD3 rfl (uxD3 rfl (uxD3 rfl (uxD3 rfl (uxD3 rfl (uxD3 rfl (uxD3 rfl (uxD3 rfl hI.2.2.2.2.2.2.2.2.2.2.2.2.2.2.2.2.2.2.2.2.2.2.2.2.2.2.2.2.2.2.2.2.2.2.2.2.2.2.2.2.2.2.2.1))))))))
    have k_xDV : xDV W := by
      rw [hW]
      exact (uxDV rfl (uxDV rfl (uxDV rfl (uxDV rfl (uxDV rfl (uxDV rfl (uxDV rfl (uxDV rfl hI.2.2.2.2.2.2.2.2.2.2.2.2.2.2.2.2.2.2.2.2.2.2.2.2.2.2.2.2.2.2.2.2.2.2.2.2.2.2.2.2.2.2.2.2.1))))))))
    have k_xDP : xDP W := by
      rw [hW]
      exact (uxDP rfl (uxDP rfl (uxDP rfl (uxDP rfl (uxDP rfl (uxDP rfl (uxDP rfl (uxDP rfl hI.2.2.2.2.2.2.2.2.2.2.2.2.2.2.2.2.2.2.2.2.2.2.2.2.2.2.2.2.2.2.2.2.2.2.2.2.2.2.2.2.2.2.2.2.2.1))))))))
    have k_xDE : xDE W := by
      rw [hW]
      exact (uxDE rfl (uxDE rfl (uxDE rfl (uxDE rfl (uxDE rfl (uxDE rfl (uxDE rfl (uxDE rfl hI.2.2.2.2.2.2.2.2.2.2.2.2.2.2.2.2.2.2.2.2.2.2.2.2.2.2.2.2.2.2.2.2.2.2.2.2.2.2.2.2.2.2.2.2.2.2.1))))))))
    have k_xQ5 : xQ5 W := by
      rw [hW]
      exact (uxQ5 rfl (uxQ5 rfl (uxQ5 rfl (uxQ5 rfl (uxQ5 rfl (uxQ5 rfl (uxQ5 rfl (uxQ5 rfl hI.2.2.2.2.2.2.2.2.2.2.2.2.2.2.2.2.2.2.2.2.2.2.2.2.2.2.2.2.2.2.2.2.2.2.2.2.2.2.2.2.2.2.2.2.2.2.2.1))))))))
    have k_xQL : xQL W := by
      rw [hW]
      exact (uxQL rfl (uxQL rfl (uxQL rfl (uxQL rfl (uxQL rfl (uxQL rfl (uxQL rfl (uxQL rfl hI.2.2.2.2.2.2.2.2.2.2.2.2.2.2.2.2.2.2.2.2.2.2.2.2.2.2.2.2.2.2.2.2.2.2.2.2.2.2.2.2.2.2.2.2.2.2.2.2.1))))))))
    have k_xQW : xQW W := by
      rw [hW]
      exact (uxQW rfl (uxQW rfl (uxQW rfl (uxQW rfl (uxQW rfl (uxQW rfl (uxQW rfl (uxQW rfl hI.2.2.2.2.2.2.2.2.2.2.2.2.2.2.2.2.2.2.2.2.2.2.2.2.2.2.2.2.2.2.2.2.2.2.2.2.2.2.2.2.2.2.2.2.2.2.2.2.2.1))))))))
    have k_xQM : xQM W := by
      rw [hW]
      exact (uxQM rfl (uxQM rfl (uxQM rfl (uxQM rfl (uxQM rfl (uxQM rfl (uxQM rfl (uxQM rfl hI.2.2.2.2.2.2.2.2.2.2.2.2.2.2.2.2.2.2.2.2.2.2.2.2.2.2.2.2.2.2.2.2.2.2.2.2.2.2.2.2.2.2.2.2.2.2.2.2.2.2.1))))))))
    have k_xQH : xQH W := by
      rw [hW]
      exact (uxQH rfl (uxQH rfl (uxQH rfl (uxQH rfl (uxQH rfl (uxQH rfl (uxQH rfl (uxQH rfl hI.2.2.2.2.2.2.2.2.2.2.2.2.2.2.2.2.2.2.2.2.2.2.2.2.2.2.2.2.2.2.2.2.2.2.2.2.2.2.2.2.2.2.2.2.2.2.2.2.2.2.2))))))))
    have k_XC : XC W := ⟨k_xS1, k_xS2, k_xS3, k_xS4, k_xS5, k_xS6, k_xS7, k_xS8, k_xS9, k_xSA, k_xSG, k_xSF, k_xSB, k_xSC, k_xSD, k_xSE, k_xSW, k_xST, k_xSP, k_xSL, k_xSM, k_xSI, k_xD3, k_xDV, k_xDP, k_xDE, k_xQ5, k_xQL, k_xQW, k_xQM, k_xQH⟩
    have kXB : XB W := ⟨k_xN1, k_xN2, k_xN3, k_xN4, k_xN5, k_xN6, k_xH1, k_xK1, k_xC1, k_xRW, k_xWT, k_xCU, k_xG2, k_xG3, k_xG4, k_xG5, k_xG6, k_XC⟩
    exact ⟨base, k2, k3, kXA, kXB⟩
-- rt5
def xr_493 : qRu := (11, [[(1, 1), (-1, 2), (-32, 3), (-64, 4), (-128, 5), (-256, 6), (-512, 7), (-1024, 8), (-65536, 9), (-131072, 10)], [(-1, 1), (1, 2), (32, 3), (64, 4), (128, 5), (256, 6), (512, 7), (1024, 8), (65536, 9), (131072, 10)], [(1, 2)], [(31, 0), (-1, 2)], [(1, 8)], [(63, 0), (-1, 8)], [(1, 3)], [(1, 0), (-1, 3)], [(1, 4)], [(1, 0), (-1, 4)], [(1, 5)], [(1, 0), (-1, 5)], [(1, 6)], [(1, 0), (-1, 6)], [(1, 7)], [(1, 0), (-1, 7)], [(1, 9)], [(1, 0), (-1, 9)], [(1, 10)], [(1, 0), (-1, 10)]], [], [], [(91, 249, [(1, 0)]), (91, 250, [(1, 1)]), (91, 251, [(5, 0)]), (91, 252, [(1, 11)]), (91, 253, [(1, 3)]), (91, 255, []), (91, 256, [(1, 12)]), (91, 257, [(1, 13)]), (91, 240, [(1, 0)]), (91, 241, [(1, 0)]), (91, 242, [(5, 0)]), (91, 243, [(32, 0)]), (91, 245, []), (91, 246, [(1, 1)]), (91, 244, [(32, 0), (1, 1), (-32, 3)]), (91, 247, [(32, 0)])], [])
theorem xo_493 : qRok xr_493 := by
  intro ρ M h0 hf hm hI
  have f0 := hf [(1, 1), (-1, 2), (-32, 3), (-64, 4), (-128, 5), (-256, 6), (-512, 7), (-1024, 8), (-65536, 9), (-131072, 10)] (by decide)
  have f1 := hf [(-1, 1), (1, 2), (32, 3), (64, 4), (128, 5), (256, 6), (512, 7), (1024, 8), (65536, 9), (131072, 10)] (by decide)
  have f2 := hf [(1, 2)] (by decide)
  have f3 := hf [(31, 0), (-1, 2)] (by decide)
  have f4 := hf [(1, 8)] (by decide)
  have f5 := hf [(63, 0), (-1, 8)] (by decide)
  have f6 := hf [(1, 3)] (by decide)
  have f7 := hf [(1, 0), (-1, 3)] (by decide)
  have f8 := hf [(1, 4)] (by decide)
  have f9 := hf [(1, 0), (-1, 4)] (by decide)
  have f10 := hf [(1, 5)] (by decide)
  have f11 := hf [(1, 0), (-1, 5)] (by decide)
  have f12 := hf [(1, 6)] (by decide)
  have f13 := hf [(1, 0), (-1, 6)] (by decide)
  have f14 := hf [(1, 7)] (by decide)
  have f15 := hf [(1, 0), (-1, 7)] (by decide)
  have f16 := hf [(1, 9)] (by decide)
  have f17 := hf [(1, 0), (-1, 9)] (by decide)
  have f18 := hf [(1, 10)] (by decide)
  have f19 := hf [(1, 0), (-1, 10)] (by decide)
  simp only [qD, h0] at f0 f1 f2 f3 f4 f5 f6 f7 f8 f9 f10 f11 f12 f13 f14 f15 f16 f17 f18 f19
  have qxSD := hI.2.2.2.2.2.2.2.2.2.2.2.2.2.2.2.2.2.2.2.2.2.2.2.2.2.2.2.2.2.2.2.2.2.2.2.1
  have qxSE := hI.2.2.2.2.2.2.2.2.2.2.2.2.2.2.2.2.2.2.2.2.2.2.2.2.2.2.2.2.2.2.2.2.2.2.2.2.1
  have xb := xbit5 (t := ρ 1) (b := ρ 3) (h := 1 * ρ 4 + 2 * ρ 5 + 4 * ρ 6 + 8 * ρ 7 + 16 * ρ 8 + 1024 * ρ 9 + 2048 * ρ 10) (l := 1 * ρ 2) (by omega) (by omega) (by omega) (by omega) (by omega)
  refine ⟨fun a => cond (Nat.blt a 11) (ρ a) (([xop 0 (ρ 1) 5, xop 1 0 32, xop 1 (xop 0 (ρ 1) 5) 255] : List Int).getD (a - 11) 0), fun a ha => ?_, fun f h => ?_, ?_⟩
  · show cond (Nat.blt a 11) (ρ a) _ = ρ a
    rw [show Nat.blt a 11 = true from Nat.ble_eq_true_of_le ha]; rfl
  · exact nomatch h
  · show sI (sU (sU (sU (sU (sU (sU (sU (sU (sU (sU (sU (sU (sU (sU (sU (sU M 91 249 (1 * ρ 0 + 0)) 91 250 (1 * ρ 1 + 0)) 91 251 (5 * ρ 0 + 0)) 91 252 (1 * (xop 0 (ρ 1) 5) + 0)) 91 253 (1 * ρ 3 + 0)) 91 255 (0)) 91 256 (1 * (xop 1 0 32) + 0)) 91 257 (1 * (xop 1 (xop 0 (ρ 1) 5) 255) + 0)) 91 240 (1 * ρ 0 + 0)) 91 241 (1 * ρ 0 + 0)) 91 242 (5 * ρ 0 + 0)) 91 243 (32 * ρ 0 + 0)) 91 245 (0)) 91 246 (1 * ρ 1 + 0)) 91 244 (32 * ρ 0 + (1 * ρ 1 + (-32 * ρ 3 + 0)))) 91 247 (32 * ρ 0 + 0))
    obtain ⟨W, hW⟩ : ∃ W, W = (sU (sU (sU (sU (sU (sU (sU (sU (sU (sU (sU (sU (sU (sU (sU (sU M 91 249 (1 * ρ 0 + 0)) 91 250 (1 * ρ 1 + 0)) 91 251 (5 * ρ 0 + 0)) 91 252 (1 * (xop 0 (ρ 1) 5) + 0)) 91 253 (1 * ρ 3 + 0)) 91 255 (0)) 91 256 (1 * (xop 1 0 32) + 0)) 91 257 (1 * (xop 1 (xop 0 (ρ 1) 5) 255) + 0)) 91 240 (1 * ρ 0 + 0)) 91 241 (1 * ρ 0 + 0)) 91 242 (5 * ρ 0 + 0)) 91 243 (32 * ρ 0 + 0)) 91 245 (0)) 91 246 (1 * ρ 1 + 0)) 91 244 (32 * ρ 0 + (1 * ρ 1 + (-32 * ρ 3 + 0)))) 91 247 (32 * ρ 0 + 0)) := ⟨_, rfl⟩
    rw [← hW]
    have base : sI0 W := by
      rw [hW]
      exact (si_u0 (si_u0 (si_u0 (si_u0 (si_u0 (si_u0 (si_u0 (si_u0 (si_u0 (si_u0 (si_u0 (si_u0 (si_u0 (si_u0 (si_u0 (si_u0 hI.1 (fun r hr => by cases hr)) (fun r hr => by cases hr)) (fun r hr => by cases hr)) (fun r hr => by cases hr)) (fun r hr => by cases hr)) (fun r hr => by cases hr)) (fun r hr => by cases hr)) (fun r hr => by cases hr)) (fun r hr => by cases hr)) (fun r hr => by cases hr)) (fun r hr => by cases hr)) (fun r hr => by cases hr)) (fun r hr => by cases hr)) (fun r hr => by cases hr)) (fun r hr => by cases hr)) (fun r hr => by cases hr))
    have k2 : XI2 W := by
      rw [hW]
      exact (xi2_u rfl (xi2_u rfl (xi2_u rfl (xi2_u rfl (xi2_u rfl (xi2_u rfl (xi2_u rfl (xi2_u rfl (xi2_u rfl (xi2_u rfl (xi2_u rfl (xi2_u rfl (xi2_u rfl (xi2_u rfl (xi2_u rfl (xi2_u rfl hI.2.1))))))))))))))))
    have k3 : XI3 W := by
      rw [hW]
      exact (xi3_u rfl (xi3_u rfl (xi3_u rfl (xi3_u rfl (xi3_u rfl (xi3_u rfl (xi3_u rfl (xi3_u rfl (xi3_u rfl (xi3_u rfl (xi3_u rfl (xi3_u rfl (xi3_u rfl (xi3_u rfl (xi3_u rfl (xi3_u rfl hI.2.2.1))))))))))))))))
    have kXA : XA W := by
      rw [hW]
      exact (uXA rfl (uXA rfl (uXA rfl (uXA rfl (uXA rfl (uXA rfl (uXA rfl (uXA rfl (uXA rfl (uXA rfl (uXA rfl (uXA rfl (uXA rfl (uXA rfl (uXA rfl (uXA rfl hI.2.2.2.1))))))))))))))))
    have k_xN1 : xN1 W := by
      rw [hW]
      exact (uxN1 rfl (uxN1 rfl (uxN1 rfl (uxN1 rfl (uxN1 rfl (uxN1 rfl (uxN1 rfl (uxN1 rfl (uxN1 rfl (uxN1 rfl (uxN1 rfl (uxN1 rfl (uxN1 rfl (uxN1 rfl (uxN1 rfl (uxN1 rfl hI.2.2.2.2.1))))))))))))))))
    have k_xN2 : xN2 W := by
      rw [hW]
      exact (uxN2 rfl (uxN2 rfl (uxN2 rfl (uxN2 rfl (uxN2 rfl (uxN2 rfl (uxN2 rfl (uxN2 rfl (uxN2 rfl (uxN2 rfl (uxN2 rfl (uxN2 rfl (uxN2 rfl (uxN2 rfl (uxN2 rfl (uxN2 rfl hI.2.2.2.2.2.1))))))))))))))))
    have k_xN3 : xN3 W := by
      rw [hW]
      exact (uxN3 rfl (uxN3 rfl (uxN3 rfl (uxN3 rfl (uxN3 rfl (uxN3 rfl (uxN3 rfl (uxN3 rfl (uxN3 rfl (uxN3 rfl (uxN3 rfl (uxN3 rfl (uxN3 rfl (uxN3 rfl (uxN3 rfl (uxN3 rfl hI.2.2.2.2.2.2.1))))))))))))))))
    have k_xN4 : xN4 W := by
      rw [hW]
      exact (uxN4 rfl (uxN4 rfl (uxN4 rfl (uxN4 rfl (uxN4 rfl (uxN4 rfl (uxN4 rfl (uxN4 rfl (uxN4 rfl (uxN4 rfl (uxN4 rfl (uxN4 rfl (uxN4 rfl (uxN4 rfl (uxN4 rfl (uxN4 rfl hI.2.2.2.2.2.2.2.1))))))))))))))))
    have k_xN5 : xN5 W := by
      rw [hW]
      exact (uxN5 rfl (uxN5 rfl (uxN5 rfl (uxN5 rfl (uxN5 rfl (uxN5 rfl (uxN5 rfl (uxN5 rfl (uxN5 rfl (uxN5 rfl (uxN5 rfl (uxN5 rfl (uxN5 rfl (uxN5 rfl (uxN5 rfl (uxN5 rfl hI.2.2.2.2.2.2.2.2.1))))))))))))))))
    have k_xN6 : xN6 W := by
      rw [hW]
      exact (uxN6 rfl (uxN6 rfl (uxN6 rfl (uxN6 rfl (uxN6 rfl (uxN6 rfl (uxN6 rfl (uxN6 rfl (uxN6 rfl (uxN6 rfl (uxN6 rfl (uxN6 rfl (uxN6 rfl (uxN6 rfl (uxN6 rfl (uxN6 rfl hI.2.2.2.2.2.2.2.2.2.1))))))))))))))))
    have k_xH1 : xH1 W := by
      rw [hW]
      exact (uxH1 rfl (uxH1 rfl (uxH1 rfl (uxH1 rfl (uxH1 rfl (uxH1 rfl (uxH1 rfl (uxH1 rfl (uxH1 rfl (uxH1 rfl (uxH1 rfl (uxH1 rfl (uxH1 rfl (uxH1 rfl (uxH1 rfl (uxH1 rfl hI.2.2.2.2.2.2.2.2.2.2.1))))))))))))))))
    have k_xK1 : xK1 W := by
      rw [hW]
      exact (uxK1 rfl (uxK1 rfl (uxK1 rfl (uxK1 rfl (uxK1 rfl (uxK1 rfl (uxK1 rfl (uxK1 rfl (uxK1 rfl (uxK1 rfl (uxK1 rfl (uxK1 rfl (uxK1 rfl (uxK1 rfl (uxK1 rfl (uxK1 rfl hI.2.2.2.2.2.2.2.2.2.2.2.1))))))))))))))))
    have k_xC1 : xC1 W := by
      rw [hW]
      exact (uxC1 rfl (uxC1 rfl (uxC1 rfl (uxC1 rfl (uxC1 rfl (uxC1 rfl (uxC1 rfl (uxC1 rfl (uxC1 rfl (uxC1 rfl (uxC1 rfl (uxC1 rfl (uxC1 rfl (uxC1 rfl (uxC1 rfl (uxC1 rfl hI.2.2.2.2.2.2.2.2.2.2.2.2.1))))))))))))))))
    have k_xRW : xRW W := by
      rw [hW]
      exact (uxRW rfl (uxRW rfl (uxRW rfl (uxRW rfl (uxRW rfl (uxRW rfl (uxRW rfl (uxRW rfl (uxRW rfl (uxRW rfl (uxRW rfl (uxRW rfl (uxRW rfl (uxRW rfl (uxRW rfl (uxRW rfl hI.2.2.2.2.2.2.2.2.2.2.2.2.2.1))))))))))))))))
    have k_xWT : xWT W := by
      rw [hW]
      exact (uxWT rfl (uxWT rfl (uxWT rfl (uxWT rfl (uxWT rfl (uxWT rfl (uxWT rfl (uxWT rfl (uxWT rfl (uxWT rfl (uxWT rfl (uxWT rfl (uxWT rfl (uxWT rfl (uxWT rfl (uxWT rfl hI.2.2.2.2.2.2.2.2.2.2.2.2.2.2.1))))))))))))))))
    have k_xCU : xCU W := by
      rw [hW]
      exact (uxCU rfl (uxCU rfl (uxCU rfl (uxCU rfl (uxCU rfl (uxCU rfl (uxCU rfl (uxCU rfl (uxCU rfl (uxCU rfl (uxCU rfl (uxCU rfl (uxCU rfl (uxCU rfl (uxCU rfl (uxCU rfl hI.2.2.2.2.2.2.2.2.2.2.2.2.2.2.2.1))))))))))))))))
    have k_xG2 : xG2 W := by
      rw [hW]
      exact (uxG2 rfl (uxG2 rfl (uxG2 rfl (uxG2 rfl (uxG2 rfl (uxG2 rfl (uxG2 rfl (uxG2 rfl (uxG2 rfl (uxG2 rfl (uxG2 rfl (uxG2 rfl (uxG2 rfl (uxG2 rfl (uxG2 rfl (uxG2 rfl hI.2.2.2.2.2.2.2.2.2.2.2.2.2.2.2.2.1))))))))))))))))
    have k_xG3 : xG3 W := by
      rw [hW]
      exact (uxG3 rfl (uxG3 rfl (uxG3 rfl (uxG3 rfl (uxG3 rfl (uxG3 rfl (uxG3 rfl (uxG3 rfl (uxG3 rfl (uxG3 rfl (uxG3 rfl (uxG3 rfl (uxG3 rfl (uxG3 rfl (uxG3 rfl (uxG3 rfl hI.2.2.2.2.2.2.2.2.2.2.2.2.2.2.2.2.2.1))))))))))))))))
    have k_xG4 : xG4 W := by
      rw [hW]
      exact (uxG4 rfl (uxG4 rfl (uxG4 rfl (uxG4 rfl (uxG4 rfl (uxG4 rfl (uxG4 rfl (uxG4 rfl (uxG4 rfl (uxG4 rfl (uxG4 rfl (uxG4 rfl (uxG4 rfl (uxG4 rfl (uxG4 rfl (uxG4 rfl hI.2.2.2.2.2.2.2.2.2.2.2.2.2.2.2.2.2.2.1))))))))))))))))
    have k_xG5 : xG5 W := by
      rw [hW]
      exact (uxG5 rfl (uxG5 rfl (uxG5 rfl (uxG5 rfl (uxG5 rfl (uxG5 rfl (uxG5 rfl (uxG5 rfl (uxG5 rfl (uxG5 rfl (uxG5 rfl (uxG5 rfl (uxG5 rfl (uxG5 rfl (uxG5 rfl (uxG5 rfl hI.2.2.2.2.2.2.2.2.2.2.2.2.2.2.2.2.2.2.2.1))))))))))))))))
    have k_xG6 : xG6 W := by
      rw [hW]
      exact (uxG6 rfl (uxG6 rfl (uxG6 rfl (uxG6 rfl (uxG6 rfl (uxG6 rfl (uxG6 rfl (uxG6 rfl (uxG6 rfl (uxG6 rfl (uxG6 rfl (uxG6 rfl (uxG6 rfl (uxG6 rfl (uxG6 rfl (uxG6 rfl hI.2.2.2.2.2.2.2.2.2.2.2.2.2.2.2.2.2.2.2.2.1))))))))))))))))
    have k_xS1 : xS1 W := by
      rw [hW]
      exact (uxS1 rfl (uxS1 rfl (uxS1 rfl (uxS1 rfl (uxS1 rfl (uxS1 rfl (uxS1 rfl (uxS1 rfl (uxS1 rfl (uxS1 rfl (uxS1 rfl (uxS1 rfl (uxS1 rfl (uxS1 rfl (uxS1 rfl (uxS1 rfl hI.2.2.2.2.2.2.2.2.2.2.2.2.2.2.2.2.2.2.2.2.2.1))))))))))))))))
    have k_xS2 : xS2 W := by
      rw [hW]
      exact (uxS2 rfl (uxS2 rfl (uxS2 rfl (uxS2 rfl (uxS2 rfl (uxS2 rfl (uxS2 rfl (uxS2 rfl (uxS2 rfl (uxS2 rfl (uxS2 rfl (uxS2 rfl (uxS2 rfl (uxS2 rfl (uxS2 rfl (uxS2 rfl hI.2.2.2.2.2.2.2.2.2.2.2.2.2.2.2.2.2.2.2.2.2.2.1))))))))))))))))
    have k_xS3 : xS3 W := by
      rw [hW]
      exact (uxS3 rfl (uxS3 rfl (uxS3 rfl (uxS3 rfl (uxS3 rfl (uxS3 rfl (uxS3 rfl (uxS3 rfl (uxS3 rfl (uxS3 rfl (uxS3 rfl (uxS3 rfl (uxS3 rfl (uxS3 rfl (uxS3 rfl (uxS3 rfl hI.2.2.2.2.2.2.2.2.2.2.2.2.2.2.2.2.2.2.2.2.2.2.2.1))))))))))))))))
    have k_xS4 : xS4 W := by
      rw [hW]
      exact (uxS4 rfl (uxS4 rfl (uxS4 rfl (uxS4 rfl (uxS4 rfl (uxS4 rfl (uxS4 rfl (uxS4 rfl (uxS4 rfl (uxS4 rfl (uxS4 rfl (uxS4 rfl (uxS4 rfl (uxS4 rfl (uxS4 rfl (uxS4 rfl hI.2.2.2.2.2.2.2.2.2.2.2.2.2.2.2.2.2.2.2.2.2.2.2.2.1))))))))))))))))
    have k_xS5 : xS5 W := by
      rw [hW]
      exact (uxS5 rfl (uxS5 rfl (uxS5 rfl (uxS5 rfl (uxS5 rfl (uxS5 rfl (uxS5 rfl (uxS5 rfl (uxS5 rfl (uxS5 rfl (uxS5 rfl (uxS5 rfl (uxS5 rfl (uxS5 rfl (uxS5 rfl (uxS5 rfl hI.2.2.2.2.2.2.2.2.2.2.2.2.2.2.2.2.2.2.2.2.2.2.2.2.2.1))))))))))))))))
    have k_xS6 : xS6 W := by
      rw [hW]
      exact (uxS6 rfl (uxS6 rfl (uxS6 rfl (uxS6 rfl (uxS6 rfl (uxS6 rfl (uxS6 rfl (uxS6 rfl (uxS6 rfl (uxS6 rfl (uxS6 rfl (uxS6 rfl (uxS6 rfl (uxS6 rfl (uxS6 rfl (uxS6 rfl hI.2.2.2.2.2.2.2.2.2.2.2.2.2.2.2.2.2.2.2.2.2.2.2.2.2.2.1))))))))))))))))
    have k_xS7 : xS7 W := by
      rw [hW]
      exact (uxS7 rfl (uxS7 rfl (uxS7 rfl (uxS7 rfl (uxS7 rfl (uxS7 rfl (uxS7 rfl (uxS7 rfl (uxS7 rfl (uxS7 rfl (uxS7 rfl (uxS7 rfl (uxS7 rfl (uxS7 rfl (uxS7 rfl (uxS7 rfl hI.2.2.2.2.2.2.2.2.2.2.2.2.2.2.2.2.2.2.2.2.2.2.2.2.2.2.2.1))))))))))))))))
    have k_xS8 : xS8 W := by
      rw [hW]
      exact (uxS8 rfl (uxS8 rfl (uxS8 rfl (uxS8 rfl (uxS8 rfl (uxS8 rfl (uxS8 rfl (uxS8 rfl (uxS8 rfl (uxS8 rfl (uxS8 rfl (uxS8 rfl (uxS8 rfl (uxS8 rfl (uxS8 rfl (uxS8 rfl hI.2.2.2.2.2.2.2.2.2.2.2.2.2.2.2.2.2.2.2.2.2.2.2.2.2.2.2.2.1))))))))))))))))
    have k_xS9 : xS9 W := by
      rw [hW]
      exact (uxS9 rfl (uxS9 rfl (uxS9 rfl (uxS9 rfl (uxS9 rfl (uxS9 rfl (uxS9 rfl (uxS9 rfl (uxS9 rfl (uxS9 rfl (uxS9 rfl (uxS9 rfl (uxS9 rfl (uxS9 rfl (uxS9 rfl (uxS9 rfl hI.2.2.2.2.2.2.2.2.2.2.2.2.2.2.2.2.2.2.2.2.2.2.2.2.2.2.2.2.2.1))))))))))))))))
    have k_xSA : xSA W := by
      rw [hW]
      exact (uxSA rfl (uxSA rfl (uxSA rfl (uxSA rfl (uxSA rfl (uxSA rfl (uxSA rfl (uxSA rfl (uxSA rfl (uxSA rfl (uxSA rfl (uxSA rfl (uxSA rfl (uxSA rfl (uxSA rfl (uxSA rfl hI.2.2.2.2.2.2.2.2.2.2.2.2.2.2.2.2.2.2.2.2.2.2.2.2.2.2.2.2.2.2.1))))))))))))))))
    have k_xSG : xSG W := by
      rw [hW]
      exact (uxSG rfl (uxSG rfl (uxSG rfl (uxSG rfl (uxSG rfl (uxSG rfl (uxSG rfl (uxSG rfl (uxSG rfl (uxSG rfl (uxSG rfl (uxSG rfl (uxSG rfl (uxSG rfl (uxSG rfl (uxSG rfl hI.2.2.2.2.2.2.2.2.2.2.2.2.2.2.2.2.2.2.2.2.2.2.2.2.2.2.2.2.2.2.2.1))))))))))))))))
    have k_xSF : xSF W := by
      rw [hW]
      exact (uxSF rfl (uxSF rfl (uxSF rfl (uxSF rfl (uxSF rfl (uxSF rfl (uxSF rfl (uxSF rfl (uxSF rfl (uxSF rfl (uxSF rfl (uxSF rfl (uxSF rfl (uxSF rfl (uxSF rfl (uxSF rfl hI.2.2.2.2.2.2.2.2.2.2.2.2.2.2.2.2.2.2.2.2.2.2.2.2.2.2.2.2.2.2.2.2.1))))))))))))))))
    have k_xSB : xSB W := by
      rw [hW]
      exact (uxSB rfl (uxSB rfl (uxSB rfl (uxSB rfl (uxSB rfl (uxSB rfl (uxSB rfl (uxSB rfl (uxSB rfl (uxSB rfl (uxSB rfl (uxSB rfl (uxSB rfl (uxSB rfl (uxSB rfl (uxSB rfl hI.2.2.2.2.2.2.2.2.2.2.2.2.2.2.2.2.2.2.2.2.2.2.2.2.2.2.2.2.2.2.2.2.2.1))))))))))))))))
    have k_xSC : xSC W := by
      rw [hW]
      exact (uxSC rfl (uxSC rfl (uxSC rfl (uxSC rfl (uxSC rfl (uxSC rfl (uxSC rfl (uxSC rfl (uxSC rfl (uxSC rfl (uxSC rfl (uxSC rfl (uxSC rfl (uxSC rfl (uxSC rfl (uxSC rfl hI.2.2.2.2.2.2.2.2.2.2.2.2.2.2.2.2.2.2.2.2.2.2.2.2.2.2.2.2.2.2.2.2.2.2.1))))))))))))))))
    have k_xSD : xSD W := by
      have r91_240 : W 91 240 = 1 * ρ 0 + 0 := by rw [hW, sU_ne (fun z => by omega), sU_ne (fun z => by omega), sU_ne (fun z => by omega), sU_ne (fun z => by omega), sU_ne (fun z => by omega), sU_ne (fun z => by omega), sU_ne (fun z => by omega), sU_at]
      have r91_241 : W 91 241 = 1 * ρ 0 + 0 := by rw [hW, sU_ne (fun z => by omega), sU_ne (fun z => by omega), sU_ne (fun z => by omega), sU_ne (fun z => by omega), sU_ne (fun z => by omega), sU_ne (fun z => by omega), sU_at]
      have r91_242 : W 91 242 = 5 * ρ 0 + 0 := by rw [hW, sU_ne (fun z => by omega), sU_ne (fun z => by omega), sU_ne (fun z => by omega), sU_ne (fun z => by omega), sU_ne (fun z => by omega), sU_at]
      have r91_243 : W 91 243 = 32 * ρ 0 + 0 := by rw [hW, sU_ne (fun z => by omega), sU_ne (fun z => by omega), sU_ne (fun z => by omega), sU_ne (fun z => by omega), sU_at]
      have r91_244 : W 91 244 = 32 * ρ 0 + (1 * ρ 1 + (-32 * ρ 3 + 0)) := by rw [hW, sU_ne (fun z => by omega), sU_at]
      have r91_245 : W 91 245 = 0 := by rw [hW, sU_ne (fun z => by omega), sU_ne (fun z => by omega), sU_ne (fun z => by omega), sU_at]
      have r91_246 : W 91 246 = 1 * ρ 1 + 0 := by rw [hW, sU_ne (fun z => by omega), sU_ne (fun z => by omega), sU_at]
      have r91_247 : W 91 247 = 32 * ρ 0 + 0 := by rw [hW, sU_at]
      intro h
      rw [r91_241, r91_242, r91_243, r91_244, r91_245, r91_246, r91_247, h0]
      refine ⟨by decide, ?_, by decide⟩
      rw [show ((32 : Int) * 1 + 0) = 32 from rfl, show (1 * ρ 1 + 0 : Int) = ρ 1 by omega, xb.2]
      omega
    have k_xSE : xSE W := by
      have r91_249 : W 91 249 = 1 * ρ 0 + 0 := by rw [hW, sU_ne (fun z => by omega), sU_ne (fun z => by omega), sU_ne (fun z => by omega), sU_ne (fun z => by omega), sU_ne (fun z => by omega), sU_ne (fun z => by omega), sU_ne (fun z => by omega), sU_ne (fun z => by omega), sU_ne (fun z => by omega), sU_ne (fun z => by omega), sU_ne (fun z => by omega), sU_ne (fun z => by omega), sU_ne (fun z => by omega), sU_ne (fun z => by omega), sU_ne (fun z => by omega), sU_at]
      have r91_250 : W 91 250 = 1 * ρ 1 + 0 := by rw [hW, sU_ne (fun z => by omega), sU_ne (fun z => by omega), sU_ne (fun z => by omega), sU_ne (fun z => by omega), sU_ne (fun z => by omega), sU_ne (fun z => by omega), sU_ne (fun z => by omega), sU_ne (fun z => by omega), sU_ne (fun z => by omega), sU_ne (fun z => by omega), sU_ne (fun z => by omega), sU_ne (fun z => by omega), sU_ne (fun z => by omega), sU_ne (fun z => by omega), sU_at]
      have r91_251 : W 91 251 = 5 * ρ 0 + 0 := by rw [hW, sU_ne (fun z => by omega), sU_ne (fun z => by omega), sU_ne (fun z => by omega), sU_ne (fun z => by omega), sU_ne (fun z => by omega), sU_ne (fun z => by omega), sU_ne (fun z => by omega), sU_ne (fun z => by omega), sU_ne (fun z => by omega), sU_ne (fun z => by omega), sU_ne (fun z => by omega), sU_ne (fun z => by omega), sU_ne (fun z => by omega), sU_at]
      have r91_252 : W 91 252 = 1 * (xop 0 (ρ 1) 5) + 0 := by rw [hW, sU_ne (fun z => by omega), sU_ne (fun z => by omega), sU_ne (fun z => by omega), sU_ne (fun z => by omega), sU_ne (fun z => by omega), sU_ne (fun z => by omega), sU_ne (fun z => by omega), sU_ne (fun z => by omega), sU_ne (fun z => by omega), sU_ne (fun z => by omega), sU_ne (fun z => by omega), sU_ne (fun z => by omega), sU_at]
      have r91_253 : W 91 253 = 1 * ρ 3 + 0 := by rw [hW, sU_ne (fun z => by omega), sU_ne (fun z => by omega), sU_ne (fun z => by omega), sU_ne (fun z => by omega), sU_ne (fun z => by omega), sU_ne (fun z => by omega), sU_ne (fun z => by omega), sU_ne (fun z => by omega), sU_ne (fun z => by omega), sU_ne (fun z => by omega), sU_ne (fun z => by omega), sU_at]
      have r91_255 : W 91 255 = 0 := by rw [hW, sU_ne (fun z => by omega), sU_ne (fun z => by omega), sU_ne (fun z => by omega), sU_ne (fun z => by omega), sU_ne (fun z => by omega), sU_ne (fun z => by omega), sU_ne (fun z => by omega), sU_ne (fun z => by omega), sU_ne (fun z => by omega), sU_ne (fun z => by omega), sU_at]
      have r91_256 : W 91 256 = 1 * (xop 1 0 32) + 0 := by rw [hW, sU_ne (fun z => by omega), sU_ne (fun z => by omega), sU_ne (fun z => by omega), sU_ne (fun z => by omega), sU_ne (fun z => by omega), sU_ne (fun z => by omega), sU_ne (fun z => by omega), sU_ne (fun z => by omega), sU_ne (fun z => by omega), sU_at]
      have r91_243 : W 91 243 = 32 * ρ 0 + 0 := by rw [hW, sU_ne (fun z => by omega), sU_ne (fun z => by omega), sU_ne (fun z => by omega), sU_ne (fun z => by omega), sU_at]
      have r91_257 : W 91 257 = 1 * (xop 1 (xop 0 (ρ 1) 5) 255) + 0 := by rw [hW, sU_ne (fun z => by omega), sU_ne (fun z => by omega), sU_ne (fun z => by omega), sU_ne (fun z => by omega), sU_ne (fun z => by omega), sU_ne (fun z => by omega), sU_ne (fun z => by omega), sU_ne (fun z => by omega), sU_at]
      intro h
      rw [r91_243, r91_250, r91_251, r91_252, r91_253, r91_255, r91_256, r91_257, h0]
      rw [show ((5 : Int) * 1 + 0) = 5 from rfl, show (1 * ρ 1 + 0 : Int) = ρ 1 by omega, show ((32 : Int) * 1 + 0) = 32 from rfl]
      refine ⟨by omega, ?_, by omega, ?_⟩
      · rw [show (1 * (xop 0 (ρ 1) 5) + 0 : Int) = xop 0 (ρ 1) 5 by omega, xb.1]
        omega
      · rw [show (1 * (xop 0 (ρ 1) 5) + 0 : Int) = xop 0 (ρ 1) 5 by omega]
        omega
    have k_xSW : xSW W := by
      rw [hW]
      exact (uxSW rfl (uxSW rfl (uxSW rfl (uxSW rfl (uxSW rfl (uxSW rfl (uxSW rfl (uxSW rfl (uxSW rfl (uxSW rfl (uxSW rfl (uxSW rfl (uxSW rfl (uxSW rfl (uxSW rfl (uxSW rfl hI.2.2.2.2.2.2.2.2.2.2.2.2.2.2.2.2.2.2.2.2.2.2.2.2.2.2.2.2.2.2.2.2.2.2.2.2.2.1))))))))))))))))
    have k_xST : xST W := by
      rw [hW]
      exact (uxST rfl (uxST rfl (uxST rfl (uxST rfl (uxST rfl (uxST rfl (uxST rfl (uxST rfl (uxST rfl (uxST rfl (uxST rfl (uxST rfl (uxST rfl (uxST rfl (uxST rfl (uxST rfl hI.2.2.2.2.2.2.2.2.2.2.2.2.2.2.2.2.2.2.2.2.2.2.2.2.2.2.2.2.2.2.2.2.2.2.2.2.2.2.1))))))))))))))))
    have k_xSP : xSP W := by
      rw [hW]
      exact (uxSP rfl (uxSP rfl (uxSP rfl (uxSP rfl (uxSP rfl (uxSP rfl (uxSP rfl (uxSP rfl (uxSP rfl (uxSP rfl (uxSP rfl (uxSP rfl (uxSP rfl (uxSP rfl (uxSP rfl (uxSP rfl hI.2.2.2.2.2.2.2.2.2.2.2.2.2.2.2.2.2.2.2.2.2.2.2.2.2.2.2.2.2.2.2.2.2.2.2.2.2.2.2.1))))))))))))))))
    have k_xSL : xSL W := by
      rw [hW]
      exact (uxSL rfl (uxSL rfl (uxSL rfl (uxSL rfl (uxSL rfl (uxSL rfl (uxSL rfl (uxSL rfl (uxSL rfl (uxSL rfl (uxSL rfl (uxSL rfl (uxSL rfl (uxSL rfl (uxSL rfl (uxSL rfl hI.2.2.2.2.2.2.2.2.2.2.2.2.2.2.2.2.2.2.2.2.2.2.2.2.2.2.2.2.2.2.2.2.2.2.2.2.2.2.2.2.1))))))))))))))))
    have k_xSM : xSM W := by
      rw [hW]
      exact (uxSM rfl (uxSM rfl (uxSM rfl (uxSM rfl (uxSM rfl (uxSM rfl (uxSM rfl (uxSM rfl (uxSM rfl (uxSM rfl (uxSM rfl (uxSM rfl (uxSM rfl (uxSM rfl (uxSM rfl (uxSM rfl hI.2.2.2.2.2.2.2.2.2.2.2.2.2.2.2.2.2.2.2.2.2.2.2.2.2.2.2.2.2.2.2.2.2.2.2.2.2.2.2.2.2.1))))))))))))))))
    have k_xSI : xSI W := by
      rw [hW]
      exact (uxSI rfl (uxSI rfl (uxSI rfl (uxSI rfl (uxSI rfl (uxSI rfl (uxSI rfl (uxSI rfl (uxSI rfl (uxSI rfl (uxSI rfl (uxSI rfl (uxSI rfl (uxSI rfl (uxSI rfl (uxSI rfl hI.2.2.2.2.2.2.2.2.2.2.2.2.2.2.2.2.2.2.2.2.2.2.2.2.2.2.2.2.2.2.2.2.2.2.2.2.2.2.2.2.2.2.1))))))))))))))))
    have k_xD3 : xD3 W := by
      rw [hW]
      exact (uxD3 rfl (uxD3 rfl (uxD3 rfl (uxD3 rfl (uxD3 rfl (uxD3 rfl (uxD3 rfl (uxD3 rfl (uxD3 rfl (uxD3 rfl (uxD3 rfl (uxD3 rfl (uxD3 rfl (uxD3 rfl (uxD3 rfl (uxD3 rfl hI.2.2.2.2.2.2.2.2.2.2.2.2.2.2.2.2.2.2.2.2.2.2.2.2.2.2.2.2.2.2.2.2.2.2.2.2.2.2.2.2.2.2.2.1))))))))))))))))
    have k_xDV : xDV W := by
      rw [hW]
      exact (uxDV rfl (uxDV rfl (uxDV rfl (uxDV rfl (uxDV rfl (uxDV rfl (uxDV rfl (uxDV rfl (uxDV rfl (uxDV rfl (uxDV rfl (uxDV rfl (uxDV rfl (uxDV rfl (uxDV rfl (uxDV rfl hI.2.2.2.2.2.2.2.2.2.2.2.2.2.2.2.2.2.2.2.2.2.2.2.2.2.2.2.2.2.2.2.2.2.2.2.2.2.2.2.2.2.2.2.2.1))))))))))))))))
    have k_xDP : xDP W := by
      rw [hW]
      exact (uxDP rfl (uxDP rfl (uxDP rfl (uxDP rfl (uxDP rfl (uxDP rfl (uxDP rfl (uxDP rfl (uxDP rfl (uxDP rfl (uxDP rfl (uxDP rfl (uxDP rfl (uxDP rfl (uxDP rfl (uxDP rfl hI.2.2.2.2.2.2.2.2.2.2.2.2.2.2.2.2.2.2.2.2.2.2.2.2.2.2.2.2.2.2.2.2.2.2.2.2.2.2.2.2.2.2.2.2.2.1))))))))))))))))
    have k_xDE : xDE W := by
      rw [hW]
      exact (uxDE rfl (uxDE rfl (uxDE rfl (uxDE rfl (uxDE rfl (uxDE rfl (uxDE rfl (uxDE rfl (uxDE rfl (uxDE rfl (uxDE rfl (uxDE rfl (uxDE rfl (uxDE rfl (uxDE rfl (uxDE rfl hI.2.2.2.2.2.2.2.2.2.2.2.2.2.2.2.2.2.2.2.2.2.2.2.2.2.2.2.2.2.2.2.2.2.2.2.2.2.2.2.2.2.2.2.2.2.2.1))))))))))))))))
    have k_xQ5 : xQ5 W := by
      rw [hW]
      exact (uxQ5 rfl (uxQ5 rfl (uxQ5 rfl (uxQ5 rfl (uxQ5 rfl (uxQ5 rfl (uxQ5 rfl (uxQ5 rfl (uxQ5 rfl (uxQ5 rfl (uxQ5 rfl (uxQ5 rfl (uxQ5 rfl (uxQ5 rfl (uxQ5 rfl (uxQ5 rfl hI.2.2.2.2.2.2.2.2.2.2.2.2.2.2.2.2.2.2.2.2.2.2.2.2.2.2.2.2.2.2.2.2.2.2.2.2.2.2.2.2.2.2.2.2.2.2.2.1))))))))))))))))
    have k_xQL : xQL W := by
      rw [hW]
      exact (uxQL rfl (uxQL rfl (uxQL rfl (uxQL rfl (uxQL rfl (uxQL rfl (uxQL rfl (uxQL rfl (uxQL rfl (uxQL rfl (uxQL rfl (uxQL rfl (uxQL rfl (uxQL rfl (uxQL rfl (uxQL rfl hI.2.2.2.2.2.2.2.2.2.2.2.2.2.2.2.2.2.2.2.2.2.2.2.2.2.2.2.2.2.2.2.2.2.2.2.2.2.2.2.2.2.2.2.2.2.2.2.2.1))))))))))))))))
    have k_xQW : xQW W := by
      rw [hW]
      exact (uxQW rfl (uxQW rfl (uxQW rfl (uxQW rfl (uxQW rfl (uxQW rfl (uxQW rfl (uxQW rfl (uxQW rfl (uxQW rfl (uxQW rfl (uxQW rfl (uxQW rfl (uxQW rfl (uxQW rfl (uxQW rfl hI.2.2.2.2.2.2.2.2.2.2.2.2.2.2.2.2.2.2.2.2.2.2.2.2.2.2.2.2.2.2.2.2.2.2.2.2.2.2.2.2.2.2.2.2.2.2.2.2.2.1))))))))))))))))
    have k_xQM : xQM W := by
      rw [hW]
      exact (uxQM rfl (uxQM rfl (uxQM rfl (uxQM rfl (uxQM rfl (uxQM rfl (uxQM rfl (uxQM rfl (uxQM rfl (uxQM rfl (uxQM rfl (uxQM rfl (uxQM rfl (uxQM rfl (uxQM rfl (uxQM rfl hI.2.2.2.2.2.2.2.2.2.2.2.2.2.2.2.2.2.2.2.2.2.2.2.2.2.2.2.2.2.2.2.2.2.2.2.2.2.2.2.2.2.2.2.2.2.2.2.2.2.2.1))))))))))))))))
    have k_xQH : xQH W := by
      rw [hW]
      exact (uxQH rfl (uxQH rfl (uxQH rfl (uxQH rfl (uxQH rfl (uxQH rfl (uxQH rfl (uxQH rfl (uxQH rfl (uxQH rfl (uxQH rfl (uxQH rfl (uxQH rfl (uxQH rfl (uxQH rfl (uxQH rfl hI.2.2.2.2.2.2.2.2.2.2.2.2.2.2.2.2.2.2.2.2.2.2.2.2.2.2.2.2.2.2.2.2.2.2.2.2.2.2.2.2.2.2.2.2.2.2.2.2.2.2.2))))))))))))))))
    have k_XC : XC W := ⟨k_xS1, k_xS2, k_xS3, k_xS4, k_xS5, k_xS6, k_xS7, k_xS8, k_xS9, k_xSA, k_xSG, k_xSF, k_xSB, k_xSC, k_xSD, k_xSE, k_xSW, k_xST, k_xSP, k_xSL, k_xSM, k_xSI, k_xD3, k_xDV, k_xDP, k_xDE, k_xQ5, k_xQL, k_xQW, k_xQM, k_xQH⟩
    have kXB : XB W := ⟨k_xN1, k_xN2, k_xN3, k_xN4, k_xN5, k_xN6, k_xH1, k_xK1, k_xC1, k_xRW, k_xWT, k_xCU, k_xG2, k_xG3, k_xG4, k_xG5, k_xG6, k_XC⟩
    exact ⟨base, k2, k3, kXA, kXB⟩
-- rt6
def xr_494 : qRu := (11, [[(1, 1), (-1, 2), (-32, 3), (-64, 4), (-128, 5), (-256, 6), (-512, 7), (-1024, 8), (-65536, 9), (-131072, 10)], [(-1, 1), (1, 2), (32, 3), (64, 4), (128, 5), (256, 6), (512, 7), (1024, 8), (65536, 9), (131072, 10)], [(1, 2)], [(31, 0), (-1, 2)], [(1, 8)], [(63, 0), (-1, 8)], [(1, 3)], [(1, 0), (-1, 3)], [(1, 4)], [(1, 0), (-1, 4)], [(1, 5)], [(1, 0), (-1, 5)], [(1, 6)], [(1, 0), (-1, 6)], [(1, 7)], [(1, 0), (-1, 7)], [(1, 9)], [(1, 0), (-1, 9)], [(1, 10)], [(1, 0), (-1, 10)]], [], [], [(91, 249, [(1, 0)]), (91, 250, [(1, 1)]), (91, 251, [(6, 0)]), (91, 252, [(1, 11)]), (91, 253, [(1, 4)]), (91, 255, []), (91, 256, [(1, 12)]), (91, 257, [(1, 13)]), (91, 240, [(1, 0)]), (91, 241, [(1, 0)]), (91, 242, [(6, 0)]), (91, 243, [(64, 0)]), (91, 245, []), (91, 246, [(1, 1)]), (91, 244, [(64, 0), (1, 1), (-64, 4)]), (91, 247, [(64, 0)])], [])
theorem xo_494 : qRok xr_494 := by
  intro ρ M h0 hf hm hI
  have f0 := hf [(1, 1), (-1, 2), (-32, 3), (-64, 4), (-128, 5), (-256, 6), (-512, 7), (-1024, 8), (-65536, 9), (-131072, 10)] (by decide)
  have f1 := hf [(-1, 1), (1, 2), (32, 3), (64, 4), (128, 5), (256, 6), (512, 7), (1024, 8), (65536, 9), (131072, 10)] (by decide)
  have f2 := hf [(1, 2)] (by decide)
  have f3 := hf [(31, 0), (-1, 2)] (by decide)
  have f4 := hf [(1, 8)] (by decide)
  have f5 := hf [(63, 0), (-1, 8)] (by decide)
  have f6 := hf [(1, 3)] (by decide)
  have f7 := hf [(1, 0), (-1, 3)] (by decide)
  have f8 := hf [(1, 4)] (by decide)
  have f9 := hf [(1, 0), (-1, 4)] (by decide)
  have f10 := hf [(1, 5)] (by decide)
  have f11 := hf [(1, 0), (-1, 5)] (by decide)
  have f12 := hf [(1, 6)] (by decide)
  have f13 := hf [(1, 0), (-1, 6)] (by decide)
  have f14 := hf [(1, 7)] (by decide)
  have f15 := hf [(1, 0), (-1, 7)] (by decide)
  have f16 := hf [(1, 9)] (by decide)
  have f17 := hf [(1, 0), (-1, 9)] (by decide)
  have f18 := hf [(1, 10)] (by decide)
  have f19 := hf [(1, 0), (-1, 10)] (by decide)
  simp only [qD, h0] at f0 f1 f2 f3 f4 f5 f6 f7 f8 f9 f10 f11 f12 f13 f14 f15 f16 f17 f18 f19
  have qxSD := hI.2.2.2.2.2.2.2.2.2.2.2.2.2.2.2.2.2.2.2.2.2.2.2.2.2.2.2.2.2.2.2.2.2.2.2.1
  have qxSE := hI.2.2.2.2.2.2.2.2.2.2.2.2.2.2.2.2.2.2.2.2.2.2.2.2.2.2.2.2.2.2.2.2.2.2.2.2.1
  have xb := xbit6 (t := ρ 1) (b := ρ 4) (h := 1 * ρ 5 + 2 * ρ 6 + 4 * ρ 7 + 8 * ρ 8 + 512 * ρ 9 + 1024 * ρ 10) (l := 1 * ρ 2 + 32 * ρ 3) (by omega) (by omega) (by omega) (by omega) (by omega)
  refine ⟨fun a => cond (Nat.blt a 11) (ρ a) (([xop 0 (ρ 1) 6, xop 1 0 64, xop 1 (xop 0 (ρ 1) 6) 255] : List Int).getD (a - 11) 0), fun a ha => ?_, fun f h => ?_, ?_⟩
  · show cond (Nat.blt a 11) (ρ a) _ = ρ a
    rw [show Nat.blt a 11 = true from Nat.ble_eq_true_of_le ha]; rfl
  · exact nomatch h
  · show sI (sU (sU (sU (sU (sU (sU (sU (sU (sU (sU (sU (sU (sU (sU (sU (sU M 91 249 (1 * ρ 0 + 0)) 91 250 (1 * ρ 1 + 0)) 91 251 (6 * ρ 0 + 0)) 91 252 (1 * (xop 0 (ρ 1) 6) + 0)) 91 253 (1 * ρ 4 + 0)) 91 255 (0)) 91 256 (1 * (xop 1 0 64) + 0)) 91 257 (1 * (xop 1 (xop 0 (ρ 1) 6) 255) + 0)) 91 240 (1 * ρ 0 + 0)) 91 241 (1 * ρ 0 + 0)) 91 242 (6 * ρ 0 + 0)) 91 243 (64 * ρ 0 + 0)) 91 245 (0)) 91 246 (1 * ρ 1 + 0)) 91 244 (64 * ρ 0 + (1 * ρ 1 + (-64 * ρ 4 + 0)))) 91 247 (64 * ρ 0 + 0))
    obtain ⟨W, hW⟩ : ∃ W, W = (sU (sU (sU (sU (sU (sU (sU (sU (sU (sU (sU (sU (sU (sU (sU (sU M 91 249 (1 * ρ 0 + 0)) 91 250 (1 * ρ 1 + 0)) 91 251 (6 * ρ 0 + 0)) 91 252 (1 * (xop 0 (ρ 1) 6) + 0)) 91 253 (1 * ρ 4 + 0)) 91 255 (0)) 91 256 (1 * (xop 1 0 64) + 0)) 91 257 (1 * (xop 1 (xop 0 (ρ 1) 6) 255) + 0)) 91 240 (1 * ρ 0 + 0)) 91 241 (1 * ρ 0 + 0)) 91 242 (6 * ρ 0 + 0)) 91 243 (64 * ρ 0 + 0)) 91 245 (0)) 91 246 (1 * ρ 1 + 0)) 91 244 (64 * ρ 0 + (1 * ρ 1 + (-64 * ρ 4 + 0)))) 91 247 (64 * ρ 0 + 0)) := ⟨_, rfl⟩
    rw [← hW]
    have base : sI0 W := by
      rw [hW]
      exact (si_u0 (si_u0 (si_u0 (si_u0 (si_u0 (si_u0 (si_u0 (si_u0 (si_u0 (si_u0 (si_u0 (si_u0 (si_u0 (si_u0 (si_u0 (si_u0 hI.1 (fun r hr => by cases hr)) (fun r hr => by cases hr)) (fun r hr => by cases hr)) (fun r hr => by cases hr)) (fun r hr => by cases hr)) (fun r hr => by cases hr)) (fun r hr => by cases hr)) (fun r hr => by cases hr)) (fun r hr => by cases hr)) (fun r hr => by cases hr)) (fun r hr => by cases hr)) (fun r hr => by cases hr)) (fun r hr => by cases hr)) (fun r hr => by cases hr)) (fun r hr => by cases hr)) (fun r hr => by cases hr))
    have k2 : XI2 W := by
      rw [hW]
      exact (xi2_u rfl (xi2_u rfl (xi2_u rfl (xi2_u rfl (xi2_u rfl (xi2_u rfl (xi2_u rfl (xi2_u rfl (xi2_u rfl (xi2_u rfl (xi2_u rfl (xi2_u rfl (xi2_u rfl (xi2_u rfl (xi2_u rfl (xi2_u rfl hI.2.1))))))))))))))))
    have k3 : XI3 W := by
      rw [hW]
      exact (xi3_u rfl (xi3_u rfl (xi3_u rfl (xi3_u rfl (xi3_u rfl (xi3_u rfl (xi3_u rfl (xi3_u rfl (xi3_u rfl (xi3_u rfl (xi3_u rfl (xi3_u rfl (xi3_u rfl (xi3_u rfl (xi3_u rfl (xi3_u rfl hI.2.2.1))))))))))))))))
    have kXA : XA W := by
      rw [hW]
      exact (uXA rfl (uXA rfl (uXA rfl (uXA rfl (uXA rfl (uXA rfl (uXA rfl (uXA rfl (uXA rfl (uXA rfl (uXA rfl (uXA rfl (uXA rfl (uXA rfl (uXA rfl (uXA rfl hI.2.2.2.1))))))))))))))))
    have k_xN1 : xN1 W := by
      rw [hW]
      exact (uxN1 rfl (uxN1 rfl (uxN1 rfl (uxN1 rfl (uxN1 rfl (uxN1 rfl (uxN1 rfl (uxN1 rfl (uxN1 rfl (uxN1 rfl (uxN1 rfl (uxN1 rfl (uxN1 rfl (uxN1 rfl (uxN1 rfl (uxN1 rfl hI.2.2.2.2.1))))))))))))))))
    have k_xN2 : xN2 W := by
      rw [hW]
      exact (uxN2 rfl (uxN2 rfl (uxN2 rfl (uxN2 rfl (uxN2 rfl (uxN2 rfl (uxN2 rfl (uxN2 rfl (uxN2 rfl (uxN2 rfl (uxN2 rfl (uxN2 rfl (uxN2 rfl (uxN2 rfl (uxN2 rfl (uxN2 rfl hI.2.2.2.2.2.1))))))))))))))))
    have k_xN3 : xN3 W := by
      rw [hW]
      exact (uxN3 rfl (uxN3 rfl (uxN3 rfl (uxN3 rfl (uxN3 rfl (uxN3 rfl (uxN3 rfl (uxN3 rfl (uxN3 rfl (uxN3 rfl (uxN3 rfl (uxN3 rfl (uxN3 rfl (uxN3 rfl (uxN3 rfl (uxN3 rfl hI.2.2.2.2.2.2.1))))))))))))))))
    have k_xN4 : xN4 W := by
      rw [hW]
      exact (uxN4 rfl (uxN4 rfl (uxN4 rfl (uxN4 rfl (uxN4 rfl (uxN4 rfl (uxN4 rfl (uxN4 rfl (uxN4 rfl (uxN4 rfl (uxN4 rfl (uxN4 rfl (uxN4 rfl (uxN4 rfl (uxN4 rfl (uxN4 rfl hI.2.2.2.2.2.2.2.1))))))))))))))))
    have k_xN5 : xN5 W := by
      rw [hW]
      exact (uxN5 rfl (uxN5 rfl (uxN5 rfl (uxN5 rfl (uxN5 rfl (uxN5 rfl (uxN5 rfl (uxN5 rfl (uxN5 rfl (uxN5 rfl (uxN5 rfl (uxN5 rfl (uxN5 rfl (uxN5 rfl (uxN5 rfl (uxN5 rfl hI.2.2.2.2.2.2.2.2.1))))))))))))))))
    have k_xN6 : xN6 W := by
      rw [hW]
      exact (uxN6 rfl (uxN6 rfl (uxN6 rfl (uxN6 rfl (uxN6 rfl (uxN6 rfl (uxN6 rfl (uxN6 rfl (uxN6 rfl (uxN6 rfl (uxN6 rfl (uxN6 rfl (uxN6 rfl (uxN6 rfl (uxN6 rfl (uxN6 rfl hI.2.2.2.2.2.2.2.2.2.1))))))))))))))))
    have k_xH1 : xH1 W := by
      rw [hW]
      exact (uxH1 rfl (uxH1 rfl (uxH1 rfl (uxH1 rfl (uxH1 rfl (uxH1 rfl (uxH1 rfl (uxH1 rfl (uxH1 rfl (uxH1 rfl (uxH1 rfl (uxH1 rfl (uxH1 rfl (uxH1 rfl (uxH1 rfl (uxH1 rfl hI.2.2.2.2.2.2.2.2.2.2.1))))))))))))))))
    have k_xK1 : xK1 W := by
      rw [hW]
      exact (uxK1 rfl (uxK1 rfl (uxK1 rfl (uxK1 rfl (uxK1 rfl (uxK1 rfl (uxK1 rfl (uxK1 rfl (uxK1 rfl (uxK1 rfl (uxK1 rfl (uxK1 rfl (uxK1 rfl (uxK1 rfl (uxK1 rfl (uxK1 rfl hI.2.2.2.2.2.2.2.2.2.2.2.1))))))))))))))))
    have k_xC1 : xC1 W := by
      rw [hW]
      exact (uxC1 rfl (uxC1 rfl (uxC1 rfl (uxC1 rfl (uxC1 rfl (uxC1 rfl (uxC1 rfl (uxC1 rfl (uxC1 rfl (uxC1 rfl (uxC1 rfl (uxC1 rfl (uxC1 rfl (uxC1 rfl (uxC1 rfl (uxC1 rfl hI.2.2.2.2.2.2.2.2.2.2.2.2.1))))))))))))))))
    have k_xRW : xRW W := by
      rw [hW]
      exact (uxRW rfl (uxRW rfl (uxRW rfl (uxRW rfl (uxRW rfl (uxRW rfl (uxRW rfl (uxRW rfl (uxRW rfl (uxRW rfl (uxRW rfl (uxRW rfl (uxRW rfl (uxRW rfl (uxRW rfl (uxRW rfl hI.2.2.2.2.2.2.2.2.2.2.2.2.2.1))))))))))))))))
    have k_xWT : xWT W := by
      rw [hW]
      exact (uxWT rfl (uxWT rfl (uxWT rfl (uxWT rfl (uxWT rfl (uxWT rfl (uxWT rfl (uxWT rfl (uxWT rfl (uxWT rfl (uxWT rfl (uxWT rfl (uxWT rfl (uxWT rfl (uxWT rfl (uxWT rfl hI.2.2.2.2.2.2.2.2.2.2.2.2.2.2.1))))))))))))))))
    have k_xCU : xCU W := by
      rw [hW]
      exact (uxCU rfl (uxCU rfl (uxCU rfl (uxCU rfl (uxCU rfl (uxCU rfl (uxCU rfl (uxCU rfl (uxCU rfl (uxCU rfl (uxCU rfl (uxCU rfl (uxCU rfl (uxCU rfl (uxCU rfl (uxCU rfl hI.2.2.2.2.2.2.2.2.2.2.2.2.2.2.2.1))))))))))))))))
    have k_xG2 : xG2 W := by
      rw [hW]
      exact (uxG2 rfl (uxG2 rfl (uxG2 rfl (uxG2 rfl (uxG2 rfl (uxG2 rfl (uxG2 rfl (uxG2 rfl (uxG2 rfl (uxG2 rfl (uxG2 rfl (uxG2 rfl (uxG2 rfl (uxG2 rfl (uxG2 rfl (uxG2 rfl hI.2.2.2.2.2.2.2.2.2.2.2.2.2.2.2.2.1))))))))))))))))
    have k_xG3 : xG3 W := by
      rw [hW]
      exact (uxG3 rfl (uxG3 rfl (uxG3 rfl (uxG3 rfl (uxG3 rfl (uxG3 rfl (uxG3 rfl (uxG3 rfl (uxG3 rfl (uxG3 rfl (uxG3 rfl (uxG3 rfl (uxG3 rfl (uxG3 rfl (uxG3 rfl (uxG3 rfl hI.2.2.2.2.2.2.2.2.2.2.2.2.2.2.2.2.2.1))))))))))))))))
    have k_xG4 : xG4 W := by
      rw [hW]
      exact (uxG4 rfl (uxG4 rfl (uxG4 rfl (uxG4 rfl (uxG4 rfl (uxG4 rfl (uxG4 rfl (uxG4 rfl (uxG4 rfl (uxG4 rfl (uxG4 rfl (uxG4 rfl (uxG4 rfl (uxG4 rfl (uxG4 rfl (uxG4 rfl hI.2.2.2.2.2.2.2.2.2.2.2.2.2.2.2.2.2.2.1))))))))))))))))
    have k_xG5 : xG5 W := by
      rw [hW]
      exact (uxG5 rfl (uxG5 rfl (uxG5 rfl (uxG5 rfl (uxG5 rfl (uxG5 rfl (uxG5 rfl (uxG5 rfl (uxG5 rfl (uxG5 rfl (uxG5 rfl (uxG5 rfl (uxG5 rfl (uxG5 rfl (uxG5 rfl (uxG5 rfl hI.2.2.2.2.2.2.2.2.2.2.2.2.2.2.2.2.2.2.2.1))))))))))))))))
    have k_xG6 : xG6 W := by
      rw [hW]
      exact (uxG6 rfl (uxG6 rfl (uxG6 rfl (uxG6 rfl (uxG6 rfl (uxG6 rfl (uxG6 rfl (uxG6 rfl (uxG6 rfl (uxG6 rfl (uxG6 rfl (uxG6 rfl (uxG6 rfl (uxG6 rfl (uxG6 rfl (uxG6 rfl hI.2.2.2.2.2.2.2.2.2.2.2.2.2.2.2.2.2.2.2.2.1))))))))))))))))
    have k_xS1 : xS1 W := by
      rw [hW]
      exact (uxS1 rfl (uxS1 rfl (uxS1 rfl (uxS1 rfl (uxS1 rfl (uxS1 rfl (uxS1 rfl (uxS1 rfl (uxS1 rfl (uxS1 rfl (uxS1 rfl (uxS1 rfl (uxS1 rfl (uxS1 rfl (uxS1 rfl (uxS1 rfl hI.2.2.2.2.2.2.2.2.2.2.2.2.2.2.2.2.2.2.2.2.2.1))))))))))))))))
    have k_xS2 : xS2 W := by
      rw [hW]
      exact (uxS2 rfl (uxS2 rfl (uxS2 rfl (uxS2 rfl (uxS2 rfl (uxS2 rfl (uxS2 rfl (uxS2 rfl (uxS2 rfl (uxS2 rfl (uxS2 rfl (uxS2 rfl (uxS2 rfl (uxS2 rfl (uxS2 rfl (uxS2 rfl hI.2.2.2.2.2.2.2.2.2.2.2.2.2.2.2.2.2.2.2.2.2.2.1))))))))))))))))
    have k_xS3 : xS3 W := by
      rw [hW]
      exact (uxS3 rfl (uxS3 rfl (uxS3 rfl (uxS3 rfl (uxS3 rfl (uxS3 rfl (uxS3 rfl (uxS3 rfl (uxS3 rfl (uxS3 rfl (uxS3 rfl (uxS3 rfl (uxS3 rfl (uxS3 rfl (uxS3 rfl (uxS3 rfl hI.2.2.2.2.2.2.2.2.2.2.2.2.2.2.2.2.2.2.2.2.2.2.2.1))))))))))))))))
    have k_xS4 : xS4 W := by
      rw [hW]
      exact (uxS4 rfl (uxS4 rfl (uxS4 rfl (uxS4 rfl (uxS4 rfl (uxS4 rfl (uxS4 rfl (uxS4 rfl (uxS4 rfl (uxS4 rfl (uxS4 rfl (uxS4 rfl (uxS4 rfl (uxS4 rfl (uxS4 rfl (uxS4 rfl hI.2.2.2.2.2.2.2.2.2.2.2.2.2.2.2.2.2.2.2.2.2.2.2.2.1))))))))))))))))
    have k_xS5 : xS5 W := by
      rw [hW]
      exact (uxS5 rfl (uxS5 rfl (uxS5 rfl (uxS5 rfl (uxS5 rfl (uxS5 rfl (uxS5 rfl (uxS5 rfl (uxS5 rfl (uxS5 rfl (uxS5 rfl (uxS5 rfl (uxS5 rfl (uxS5 rfl (uxS5 rfl (uxS5 rfl hI.2.2.2.2.2.2.2.2.2.2.2.2.2.2.2.2.2.2.2.2.2.2.2.2.2.1))))))))))))))))
    have k_xS6 : xS6 W := by
      rw [hW]
      exact (uxS6 rfl (uxS6 rfl (uxS6 rfl (uxS6 rfl (uxS6 rfl (uxS6 rfl (uxS6 rfl (uxS6 rfl (uxS6 rfl (uxS6 rfl (uxS6 rfl (uxS6 rfl (uxS6 rfl (uxS6 rfl (uxS6 rfl (uxS6 rfl hI.2.2.2.2.2.2.2.2.2.2.2.2.2.2.2.2.2.2.2.2.2.2.2.2.2.2.1))))))))))))))))
    have k_xS7 : xS7 W := by
      rw [hW]
      exact (uxS7 rfl (uxS7 rfl (uxS7 rfl (uxS7 rfl (uxS7 rfl (uxS7 rfl (uxS7 rfl (uxS7 rfl (uxS7 rfl (uxS7 rfl (uxS7 rfl (uxS7 rfl (uxS7 rfl (uxS7 rfl (uxS7 rfl (uxS7 rfl hI.2.2.2.2.2.2.2.2.2.2.2.2.2.2.2.2.2.2.2.2.2.2.2.2.2.2.2.1))))))))))))))))
    have k_xS8 : xS8 W := by
      rw [hW]
      exact (uxS8 rfl (uxS8 rfl (uxS8 rfl (uxS8 rfl (uxS8 rfl (uxS8 rfl (uxS8 rfl (uxS8 rfl (uxS8 rfl (uxS8 rfl (uxS8 rfl (uxS8 rfl (uxS8 rfl (uxS8 rfl (uxS8 rfl (uxS8 rfl hI.2.2.2.2.2.2.2.2.2.2.2.2.2.2.2.2.2.2.2.2.2.2.2.2.2.2.2.2.1))))))))))))))))
    have k_xS9 : xS9 W := by
      rw [hW]
      exact (uxS9 rfl (uxS9 rfl (uxS9 rfl (uxS9 rfl (uxS9 rfl (uxS9 rfl (uxS9 rfl (uxS9 rfl (uxS9 rfl (uxS9 rfl (uxS9 rfl (uxS9 rfl (uxS9 rfl (uxS9 rfl (uxS9 rfl (uxS9 rfl hI.2.2.2.2.2.2.2.2.2.2.2.2.2.2.2.2.2.2.2.2.2.2.2.2.2.2.2.2.2.1))))))))))))))))
    have k_xSA : xSA W := by
      rw [hW]
      exact (uxSA rfl (uxSA rfl (uxSA rfl (uxSA rfl (uxSA rfl (uxSA rfl (uxSA rfl (uxSA rfl (uxSA rfl (uxSA rfl (uxSA rfl (uxSA rfl (uxSA rfl (uxSA rfl (uxSA rfl (uxSA rfl hI.2.2.2.2.2.2.2.2.2.2.2.2.2.2.2.2.2.2.2.2.2.2.2.2.2.2.2.2.2.2.1))))))))))))))))
    have k_xSG : xSG W := by
      rw [hW]
      exact (uxSG rfl (uxSG rfl (uxSG rfl (uxSG rfl (uxSG rfl (uxSG rfl (uxSG rfl (uxSG rfl (uxSG rfl (uxSG rfl (uxSG rfl (uxSG rfl (uxSG rfl (uxSG rfl (uxSG rfl (uxSG rfl hI.2.2.2.2.2.2.2.2.2.2.2.2.2.2.2.2.2.2.2.2.2.2.2.2.2.2.2.2.2.2.2.1))))))))))))))))
    have k_xSF : xSF W := by
      rw [hW]
      exact (uxSF rfl (uxSF rfl (uxSF rfl (uxSF rfl (uxSF rfl (uxSF rfl (uxSF rfl (uxSF rfl (uxSF rfl (uxSF rfl (uxSF rfl (uxSF rfl (uxSF rfl (uxSF rfl (uxSF rfl (uxSF rfl hI.2.2.2.2.2.2.2.2.2.2.2.2.2.2.2.2.2.2.2.2.2.2.2.2.2.2.2.2.2.2.2.2.1))))))))))))))))
    have k_xSB : xSB W := by
      rw [hW]
      exact (uxSB rfl (uxSB rfl (uxSB rfl (uxSB rfl (uxSB rfl (uxSB rfl (uxSB rfl (uxSB rfl (uxSB rfl (uxSB rfl (uxSB rfl (uxSB rfl (uxSB rfl (uxSB rfl (uxSB rfl (uxSB rfl hI.2.2.2.2.2.2.2.2.2.2.2.2.2.2.2.2.2.2.2.2.2.2.2.2.2.2.2.2.2.2.2.2.2.1))))))))))))))))
    have k_xSC : xSC W := by
      rw [hW]
      exact (uxSC rfl (uxSC rfl (uxSC rfl (uxSC rfl (uxSC rfl (uxSC rfl (uxSC rfl (uxSC rfl (uxSC rfl (uxSC rfl (uxSC rfl (uxSC rfl (uxSC rfl (uxSC rfl (uxSC rfl (uxSC rfl hI.2.2.2.2.2.2.2.2.2.2.2.2.2.2.2.2.2.2.2.2.2.2.2.2.2.2.2.2.2.2.2.2.2.2.1))))))))))))))))
    have k_xSD : xSD W := by
      have r91_240 : W 91 240 = 1 * ρ 0 + 0 := by rw [hW, sU_ne (fun z => by omega), sU_ne (fun z => by omega), sU_ne (fun z => by omega), sU_ne (fun z => by omega), sU_ne (fun z => by omega), sU_ne (fun z => by omega), sU_ne (fun z => by omega), sU_at]
      have r91_241 : W 91 241 = 1 * ρ 0 + 0 := by rw [hW, sU_ne (fun z => by omega), sU_ne (fun z => by omega), sU_ne (fun z => by omega), sU_ne (fun z => by omega), sU_ne (fun z => by omega), sU_ne (fun z => by omega), sU_at]
      have r91_242 : W 91 242 = 6 * ρ 0 + 0 := by rw [hW, sU_ne (fun z => by omega), sU_ne (fun z => by omega), sU_ne (fun z => by omega), sU_ne (fun z => by omega), sU_ne (fun z => by omega), sU_at]
      have r91_243 : W 91 243 = 64 * ρ 0 + 0 := by rw [hW, sU_ne (fun z => by omega), sU_ne (fun z => by omega), sU_ne (fun z => by omega), sU_ne (fun z => by omega), sU_at]
      have r91_244 : W 91 244 = 64 * ρ 0 + (1 * ρ 1 + (-64 * ρ 4 + 0)) := by rw [hW, sU_ne (fun z => by omega), sU_at]
      have r91_245 : W 91 245 = 0 := by rw [hW, sU_ne (fun z => by omega), sU_ne (fun z => by omega), sU_ne (fun z => by omega), sU_at]
      have r91_246 : W 91 246 = 1 * ρ 1 + 0 := by rw [hW, sU_ne (fun z => by omega), sU_ne (fun z => by omega), sU_at]
      have r91_247 : W 91 247 = 64 * ρ 0 + 0 := by rw [hW, sU_at]
      intro h
      rw [r91_241, r91_242, r91_243, r91_244, r91_245, r91_246, r91_247, h0]
      refine ⟨by decide, ?_, by decide⟩
      rw [show ((64 : Int) * 1 + 0) = 64 from rfl, show (1 * ρ 1 + 0 : Int) = ρ 1 by omega, xb.2]
      omega
    have k_xSE : xSE W := by
      have r91_249 : W 91 249 = 1 * ρ 0 + 0 := by rw [hW, sU_ne (fun z => by omega), sU_ne (fun z => by omega), sU_ne (fun z => by omega), sU_ne (fun z => by omega), sU_ne (fun z => by omega), sU_ne (fun z => by omega), sU_ne (fun z => by omega), sU_ne (fun z => by omega), sU_ne (fun z => by omega), sU_ne (fun z => by omega), sU_ne (fun z => by omega), sU_ne (fun z => by omega), sU_ne (fun z => by omega), sU_ne (fun z => by omega), sU_ne (fun z => by omega), sU_at]
      have r91_250 : W 91 250 = 1 * ρ 1 + 0 := by rw [hW, sU_ne (fun z => by omega), sU_ne (fun z => by omega), sU_ne (fun z => by omega), sU_ne (fun z => by omega), sU_ne (fun z => by omega), sU_ne (fun z => by omega), sU_ne (fun z => by omega), sU_ne (fun z => by omega), sU_ne (fun z => by omega), sU_ne (fun z => by omega), sU_ne (fun z => by omega), sU_ne (fun z => by omega), sU_ne (fun z => by omega), sU_ne (fun z => by omega), sU_at]
      have r91_251 : W 91 251 = 6 * ρ 0 + 0 := by rw [hW, sU_ne (fun z => by omega), sU_ne (fun z => by omega), sU_ne (fun z => by omega), sU_ne (fun z => by omega), sU_ne (fun z => by omega), sU_ne (fun z => by omega), sU_ne (fun z => by omega), sU_ne (fun z => by omega), sU_ne (fun z => by omega), sU_ne (fun z => by omega), sU_ne (fun z => by omega), sU_ne (fun z => by omega), sU_ne (fun z => by omega), sU_at]
      have r91_252 : W 91 252 = 1 * (xop 0 (ρ 1) 6) + 0 := by rw [hW, sU_ne (fun z => by omega), sU_ne (fun z => by omega), sU_ne (fun z => by omega), sU_ne (fun z => by omega), sU_ne (fun z => by omega), sU_ne (fun z => by omega), sU_ne (fun z => by omega), sU_ne (fun z => by omega), sU_ne (fun z => by omega), sU_ne (fun z => by omega), sU_ne (fun z => by omega), sU_ne (fun z => by omega), sU_at]
      have r91_253 : W 91 253 = 1 * ρ 4 + 0 := by rw [hW, sU_ne (fun z => by omega), sU_ne (fun z => by omega), sU_ne (fun z => by omega), sU_ne (fun z => by omega), sU_ne (fun z => by omega), sU_ne (fun z => by omega), sU_ne (fun z => by omega), sU_ne (fun z => by omega), sU_ne (fun z => by omega), sU_ne (fun z => by omega), sU_ne (fun z => by omega), sU_at]
      have r91_255 : W 91 255 = 0 := by rw [hW, sU_ne (fun z => by omega), sU_ne (fun z => by omega), sU_ne (fun z => by omega), sU_ne (fun z => by omega), sU_ne (fun z => by omega), sU_ne (fun z => by omega), sU_ne (fun z => by omega), sU_ne (fun z => by omega), sU_ne (fun z => by omega), sU_ne (fun z => by omega), sU_at]
      have r91_256 : W 91 256 = 1 * (xop 1 0 64) + 0 := by rw [hW, sU_ne (fun z => by omega), sU_ne (fun z => by omega), sU_ne (fun z => by omega), sU_ne (fun z => by omega), sU_ne (fun z => by omega), sU_ne (fun z => by omega), sU_ne (fun z => by omega), sU_ne (fun z => by omega), sU_ne (fun z => by omega), sU_at]
      have r91_243 : W 91 243 = 64 * ρ 0 + 0 := by rw [hW, sU_ne (fun z => by omega), sU_ne (fun z => by omega), sU_ne (fun z => by omega), sU_ne (fun z => by omega), sU_at]
      have r91_257 : W 91 257 = 1 * (xop 1 (xop 0 (ρ 1) 6) 255) + 0 := by rw [hW, sU_ne (fun z => by omega), sU_ne (fun z => by omega), sU_ne (fun z => by omega), sU_ne (fun z => by omega), sU_ne (fun z => by omega), sU_ne (fun z => by omega), sU_ne (fun z => by omega), sU_ne (fun z => by omega), sU_at]
      intro h
      rw [r91_243, r91_250, r91_251, r91_252, r91_253, r91_255, r91_256, r91_257, h0]
      rw [show ((6 : Int) * 1 + 0) = 6 from rfl, show (1 * ρ 1 + 0 : Int) = ρ 1 by omega, show ((64 : Int) * 1 + 0) = 64 from rfl]
      refine ⟨by omega, ?_, by omega, ?_⟩
      · rw [show (1 * (xop 0 (ρ 1) 6) + 0 : Int) = xop 0 (ρ 1) 6 by omega, xb.1]
        omega
      · rw [show (1 * (xop 0 (ρ 1) 6) + 0 : Int) = xop 0 (ρ 1) 6 by omega]
        omega
    have k_xSW : xSW W := by
      rw [hW]
      exact (uxSW rfl (uxSW rfl (uxSW rfl (uxSW rfl (uxSW rfl (uxSW rfl (uxSW rfl (uxSW rfl (uxSW rfl (uxSW rfl (uxSW rfl (uxSW rfl (uxSW rfl (uxSW rfl (uxSW rfl (uxSW rfl hI.2.2.2.2.2.2.2.2.2.2.2.2.2.2.2.2.2.2.2.2.2.2.2.2.2.2.2.2.2.2.2.2.2.2.2.2.2.1))))))))))))))))
    have k_xST : xST W := by
      rw [hW]
      exact (uxST rfl (uxST rfl (uxST rfl (uxST rfl (uxST rfl (uxST rfl (uxST rfl (uxST rfl (uxST rfl (uxST rfl (uxST rfl (uxST rfl (uxST rfl (uxST rfl (uxST rfl (uxST rfl hI.2.2.2.2.2.2.2.2.2.2.2.2.2.2.2.2.2.2.2.2.2.2.2.2.2.2.2.2.2.2.2.2.2.2.2.2.2.2.1))))))))))))))))
    have k_xSP : xSP W := by
      rw [hW]
      exact (uxSP rfl (uxSP rfl (uxSP rfl (uxSP rfl (uxSP rfl (uxSP rfl (uxSP rfl (uxSP rfl (uxSP rfl (uxSP rfl (uxSP rfl (uxSP rfl (uxSP rfl (uxSP rfl (uxSP rfl (uxSP rfl hI.2.2.2.2.2.2.2.2.2.2.2.2.2.2.2.2.2.2.2.2.2.2.2.2.2.2.2.2.2.2.2.2.2.2.2.2.2.2.2.1))))))))))))))))
    have k_xSL : xSL W := by
      rw [hW]
      exact (uxSL rfl (uxSL rfl (uxSL rfl (uxSL rfl (uxSL rfl (uxSL rfl (uxSL rfl (uxSL rfl (uxSL rfl (uxSL rfl (uxSL rfl (uxSL rfl (uxSL rfl (uxSL rfl (uxSL rfl (uxSL rfl hI.2.2.2.2.2.2.2.2.2.2.2.2.2.2.2.2.2.2.2.2.2.2.2.2.2.2.2.2.2.2.2.2.2.2.2.2.2.2.2.2.1))))))))))))))))
    have k_xSM : xSM W := by
      rw [hW]
      exact (uxSM rfl (uxSM rfl (uxSM rfl (uxSM rfl (uxSM rfl (uxSM rfl (uxSM rfl (uxSM rfl (uxSM rfl (uxSM rfl (uxSM rfl (uxSM rfl (uxSM rfl (uxSM rfl (uxSM rfl (uxSM rfl hI.2.2.2.2.2.2.2.2.2.2.2.2.2.2.2.2.2.2.2.2.2.2.2.2.2.2.2.2.2.2.2.2.2.2.2.2.2.2.2.2.2.1))))))))))))))))
    have k_xSI : xSI W := by
      rw [hW]
      exact (uxSI rfl (uxSI rfl (uxSI rfl (uxSI rfl (uxSI rfl (uxSI rfl (uxSI rfl (uxSI rfl (uxSI rfl (uxSI rfl (uxSI rfl (uxSI rfl (uxSI rfl (uxSI rfl (uxSI rfl (uxSI rfl hI.2.2.2.2.2.2.2.2.2.2.2.2.2.2.2.2.2.2.2.2.2.2.2.2.2.2.2.2.2.2.2.2.2.2.2.2.2.2.2.2.2.2.1))))))))))))))))
    have k_xD3 : xD3 W := by
      rw [hW]
      exact (uxD3 rfl (uxD3 rfl (uxD3 rfl (uxD3 rfl (uxD3 rfl (uxD3 rfl (uxD3 rfl (uxD3 rfl (uxD3 rfl (uxD3 rfl (uxD3 rfl (uxD3 rfl (uxD3 rfl (uxD3 rfl (uxD3 rfl (uxD3 rfl hI.2.2.2.2.2.2.2.2.2.2.2.2.2.2.2.2.2.2.2.2.2.2.2.2.2.2.2.2.2.2.2.2.2.2.2.2.2.2.2.2.2.2.2.1))))))))))))))))
    have k_xDV : xDV W := by
      rw [hW]
      exact (uxDV rfl (uxDV rfl (uxDV rfl (uxDV rfl (uxDV rfl (uxDV rfl (uxDV rfl (uxDV rfl (uxDV rfl (uxDV rfl (uxDV rfl (uxDV rfl (uxDV rfl (uxDV rfl (uxDV rfl (uxDV rfl hI.2.2.2.2.2.2.2.2.2.2.2.2.2.2.2.2.2.2.2.2.2.2.2.2.2.2.2.2.2.2.2.2.2.2.2.2.2.2.2.2.2.2.2.2.1))))))))))))))))
    have k_xDP : xDP W := by
      rw [hW]
      exact (uxDP rfl (uxDP rfl (uxDP rfl (uxDP rfl (uxDP rfl (uxDP rfl (uxDP rfl (uxDP rfl (uxDP rfl (uxDP rfl (uxDP rfl (uxDP rfl (uxDP rfl (uxDP rfl (uxDP rfl (uxDP rfl hI.2.2.2.2.2.2.2.2.2.2.2.2.2.2.2.2.2.2.2.2.2.2.2.2.2.2.2.2.2.2.2.2.2.2.2.2.2.2.2.2.2.2.2.2.2.1))))))))))))))))
    have k_xDE : xDE W := by
      rw [hW]
      exact (uxDE rfl (uxDE rfl (uxDE rfl (uxDE rfl (uxDE rfl (uxDE rfl (uxDE rfl (uxDE rfl (uxDE rfl (uxDE rfl (uxDE rfl (uxDE rfl (uxDE rfl (uxDE rfl (uxDE rfl (uxDE rfl hI.2.2.2.2.2.2.2.2.2.2.2.2.2.2.2.2.2.2.2.2.2.2.2.2.2.2.2.2.2.2.2.2.2.2.2.2.2.2.2.2.2.2.2.2.2.2.1))))))))))))))))
    have k_xQ5 : xQ5 W := by
      rw [hW]
      exact (uxQ5 rfl (uxQ5 rfl (uxQ5 rfl (uxQ5 rfl (uxQ5 rfl (uxQ5 rfl (uxQ5 rfl (uxQ5 rfl (uxQ5 rfl (uxQ5 rfl (uxQ5 rfl (uxQ5 rfl (uxQ5 rfl (uxQ5 rfl (uxQ5 rfl (uxQ5 rfl hI.2.2.2.2.2.2.2.2.2.2.2.2.2.2.2.2.2.2.2.2.2.2.2.2.2.2.2.2.2.2.2.2.2.2.2.2.2.2.2.2.2.2.2.2.2.2.2.1))))))))))))))))
    have k_xQL : xQL W := by
      rw [hW]
      exact (uxQL rfl (uxQL rfl (uxQL rfl (uxQL rfl (uxQL rfl (uxQL rfl (uxQL rfl (uxQL rfl (uxQL rfl (uxQL rfl (uxQL rfl (uxQL rfl (uxQL rfl (uxQL rfl (uxQL rfl (uxQL rfl hI.2.2.2.2.2.2.2.2.2.2.2.2.2.2.2.2.2.2.2.2.2.2.2.2.2.2.2.2.2.2.2.2.2.2.2.2.2.2.2.2.2.2.2.2.2.2.2.2.1))))))))))))))))
    have k_xQW : xQW W := by
      rw [hW]
      exact (uxQW rfl (uxQW rfl (uxQW rfl (uxQW rfl (uxQW rfl (uxQW rfl (uxQW rfl (uxQW rfl (uxQW rfl (uxQW rfl (uxQW rfl (uxQW rfl (uxQW rfl (uxQW rfl (uxQW rfl (uxQW rfl hI.2.2.2.2.2.2.2.2.2.2.2.2.2.2.2.2.2.2.2.2.2.2.2.2.2.2.2.2.2.2.2.2.2.2.2.2.2.2.2.2.2.2.2.2.2.2.2.2.2.1))))))))))))))))
    have k_xQM : xQM W := by
      rw [hW]
      exact (uxQM rfl (uxQM rfl (uxQM rfl (uxQM rfl (uxQM rfl (uxQM rfl (uxQM rfl (uxQM rfl (uxQM rfl (uxQM rfl (uxQM rfl (uxQM rfl (uxQM rfl (uxQM rfl (uxQM rfl (uxQM rfl hI.2.2.2.2.2.2.2.2.2.2.2.2.2.2.2.2.2.2.2.2.2.2.2.2.2.2.2.2.2.2.2.2.2.2.2.2.2.2.2.2.2.2.2.2.2.2.2.2.2.2.1))))))))))))))))
    have k_xQH : xQH W := by
      rw [hW]
      exact (uxQH rfl (uxQH rfl (uxQH rfl (uxQH rfl (uxQH rfl (uxQH rfl (uxQH rfl (uxQH rfl (uxQH rfl (uxQH rfl (uxQH rfl (uxQH rfl (uxQH rfl (uxQH rfl (uxQH rfl (uxQH rfl hI.2.2.2.2.2.2.2.2.2.2.2.2.2.2.2.2.2.2.2.2.2.2.2.2.2.2.2.2.2.2.2.2.2.2.2.2.2.2.2.2.2.2.2.2.2.2.2.2.2.2.2))))))))))))))))
    have k_XC : XC W := ⟨k_xS1, k_xS2, k_xS3, k_xS4, k_xS5, k_xS6, k_xS7, k_xS8, k_xS9, k_xSA, k_xSG, k_xSF, k_xSB, k_xSC, k_xSD, k_xSE, k_xSW, k_xST, k_xSP, k_xSL, k_xSM, k_xSI, k_xD3, k_xDV, k_xDP, k_xDE, k_xQ5, k_xQL, k_xQW, k_xQM, k_xQH⟩
    have kXB : XB W := ⟨k_xN1, k_xN2, k_xN3, k_xN4, k_xN5, k_xN6, k_xH1, k_xK1, k_xC1, k_xRW, k_xWT, k_xCU, k_xG2, k_xG3, k_xG4, k_xG5, k_xG6, k_XC⟩
    exact ⟨base, k2, k3, kXA, kXB⟩
-- rt7
def xr_495 : qRu := (11, [[(1, 1), (-1, 2), (-32, 3), (-64, 4), (-128, 5), (-256, 6), (-512, 7), (-1024, 8), (-65536, 9), (-131072, 10)], [(-1, 1), (1, 2), (32, 3), (64, 4), (128, 5), (256, 6), (512, 7), (1024, 8), (65536, 9), (131072, 10)], [(1, 2)], [(31, 0), (-1, 2)], [(1, 8)], [(63, 0), (-1, 8)], [(1, 3)], [(1, 0), (-1, 3)], [(1, 4)], [(1, 0), (-1, 4)], [(1, 5)], [(1, 0), (-1, 5)], [(1, 6)], [(1, 0), (-1, 6)], [(1, 7)], [(1, 0), (-1, 7)], [(1, 9)], [(1, 0), (-1, 9)], [(1, 10)], [(1, 0), (-1, 10)]], [], [], [(91, 249, [(1, 0)]), (91, 250, [(1, 1)]), (91, 251, [(7, 0)]), (91, 252, [(1, 11)]), (91, 253, [(1, 5)]), (91, 255, []), (91, 256, [(1, 12)]), (91, 257, [(1, 13)]), (91, 240, [(1, 0)]), (91, 241, [(1, 0)]), (91, 242, [(7, 0)]), (91, 243, [(128, 0)]), (91, 245, []), (91, 246, [(1, 1)]), (91, 244, [(128, 0), (1, 1), (-128, 5)]), (91, 247, [(128, 0)])], [])
theorem xo_495 : qRok xr_495 := by
  intro ρ M h0 hf hm hI
  have f0 := hf [(1, 1), (-1, 2), (-32, 3), (-64, 4), (-128, 5), (-256, 6), (-512, 7), (-1024, 8), (-65536, 9), (-131072, 10)] (by decide)
  have f1 := hf [(-1, 1), (1, 2), (32, 3), (64, 4), (128, 5), (256, 6), (512, 7), (1024, 8), (65536, 9), (131072, 10)] (by decide)
  have f2 := hf [(1, 2)] (by decide)
  have f3 := hf [(31, 0), (-1, 2)] (by decide)
  have f4 := hf [(1, 8)] (by decide)
  have f5 := hf [(63, 0), (-1, 8)] (by decide)
  have f6 := hf [(1, 3)] (by decide)
  have f7 := hf [(1, 0), (-1, 3)] (by decide)
  have f8 := hf [(1, 4)] (by decide)
  have f9 := hf [(1, 0), (-1, 4)] (by decide)
  have f10 := hf [(1, 5)] (by decide)
  have f11 := hf [(1, 0), (-1, 5)] (by decide)
  have f12 := hf [(1, 6)] (by decide)
  have f13 := hf [(1, 0), (-1, 6)] (by decide)
  have f14 := hf [(1, 7)] (by decide)
  have f15 := hf [(1, 0), (-1, 7)] (by decide)
  have f16 := hf [(1, 9)] (by decide)
  have f17 := hf [(1, 0), (-1, 9)] (by decide)
  have f18 := hf [(1, 10)] (by decide)
  have f19 := hf [(1, 0), (-1, 10)] (by decide)
  simp only [qD, h0] at f0 f1 f2 f3 f4 f5 f6 f7 f8 f9 f10 f11 f12 f13 f14 f15 f16 f17 f18 f19
  have qxSD := hI.2.2.2.2.2.2.2.2.2.2.2.2.2.2.2.2.2.2.2.2.2.2.2.2.2.2.2.2.2.2.2.2.2.2.2.1
  have qxSE := hI.2.2.2.2.2.2.2.2.2.2.2.2.2.2.2.2.2.2.2.2.2.2.2.2.2.2.2.2.2.2.2.2.2.2.2.2.1
  have xb := xbit7 (t := ρ 1) (b := ρ 5) (h := 1 * ρ 6 + 2 * ρ 7 + 4 * ρ 8 + 256 * ρ 9 + 512 * ρ 10) (l := 1 * ρ 2 + 32 * ρ 3 + 64 * ρ 4) (by omega) (by omega) (by omega) (by omega) (by omega)
  refine ⟨fun a => cond (Nat.blt a 11) (ρ a) (([xop 0 (ρ 1) 7, xop 1 0 128, xop 1 (xop 0 (ρ 1) 7) 255] : List Int).getD (a - 11) 0), fun a ha => ?_, fun f h => ?_, ?_⟩
  · show cond (Nat.blt a 11) (ρ a) _ = ρ a
    rw [show Nat.blt a 11 = true from Nat.ble_eq_true_of_le ha]; rfl
  · exact nomatch h
  · show sI (sU (sU (sU (sU (sU (sU (sU (sU (sU (sU (sU (sU (sU (sU (sU (sU M 91 249 (1 * ρ 0 + 0)) 91 250 (1 * ρ 1 + 0)) 91 251 (7 * ρ 0 + 0)) 91 252 (1 * (xop 0 (ρ 1) 7) + 0)) 91 253 (1 * ρ 5 + 0)) 91 255 (0)) 91 256 (1 * (xop 1 0 128) + 0)) 91 257 (1 * (xop 1 (xop 0 (ρ 1) 7) 255) + 0)) 91 240 (1 * ρ 0 + 0)) 91 241 (1 * ρ 0 + 0)) 91 242 (7 * ρ 0 + 0)) 91 243 (128 * ρ 0 + 0)) 91 245 (0)) 91 246 (1 * ρ 1 + 0)) 91 244 (128 * ρ 0 + (1 * ρ 1 + (-128 * ρ 5 + 0)))) 91 247 (128 * ρ 0 + 0))
    obtain ⟨W, hW⟩ : ∃ W, W = (sU (sU (sU (sU (sU (sU (sU (sU (sU (sU (sU (sU (sU (sU (sU (sU M 91 249 (1 * ρ 0 + 0)) 91 250 (1 * ρ 1 + 0)) 91 251 (7 * ρ 0 + 0)) 91 252 (1 * (xop 0 (ρ 1) 7) + 0)) 91 253 (1 * ρ 5 + 0)) 91 255 (0)) 91 256 (1 * (xop 1 0 128) + 0)) 91 257 (1 * (xop 1 (xop 0 (ρ 1) 7) 255) + 0)) 91 240 (1 * ρ 0 + 0)) 91 241 (1 * ρ 0 + 0)) 91 242 (7 * ρ 0 + 0)) 91 243 (128 * ρ 0 + 0)) 91 245 (0)) 91 246 (1 * ρ 1 + 0)) 91 244 (128 * ρ 0 + (1 * ρ 1 + (-128 * ρ 5 + 0)))) 91 247 (128 * ρ 0 + 0)) := ⟨_, rfl⟩
    rw [← hW]
    have base : sI0 W := by
      rw [hW]
      exact (si_u0 (si_u0 (si_u0 (si_u0 (si_u0 (si_u0 (si_u0 (si_u0 (si_u0 (si_u0 (si_u0 (si_u0 (si_u0 (si_u0 (si_u0 (si_u0 hI.1 (fun r hr => by cases hr)) (fun r hr => by cases hr)) (fun r hr => by cases hr)) (fun r hr => by cases hr)) (fun r hr => by cases hr)) (fun r hr => by cases hr)) (fun r hr => by cases hr)) (fun r hr => by cases hr)) (fun r hr => by cases hr)) (fun r hr => by cases hr)) (fun r hr => by cases hr)) (fun r hr => by cases hr)) (fun r hr => by cases hr)) (fun r hr => by cases hr)) (fun r hr => by cases hr)) (fun r hr => by cases hr))
    have k2 : XI2 W := by
      rw [hW]
      exact (xi2_u rfl (xi2_u rfl (xi2_u rfl (xi2_u rfl (xi2_u rfl (xi2_u rfl (xi2_u rfl (xi2_u rfl (xi2_u rfl (xi2_u rfl (xi2_u rfl (xi2_u rfl (xi2_u rfl (xi2_u rfl (xi2_u rfl (xi2_u rfl hI.2.1))))))))))))))))
    have k3 : XI3 W := by
      rw [hW]
      exact (xi3_u rfl (xi3_u rfl (xi3_u rfl (xi3_u rfl (xi3_u rfl (xi3_u rfl (xi3_u rfl (xi3_u rfl (xi3_u rfl (xi3_u rfl (xi3_u rfl (xi3_u rfl (xi3_u rfl (xi3_u rfl (xi3_u rfl (xi3_u rfl hI.2.2.1))))))))))))))))
    have kXA : XA W := by
      rw [hW]
      exact (uXA rfl (uXA rfl (uXA rfl (uXA rfl (uXA rfl (uXA rfl (uXA rfl (uXA rfl (uXA rfl (uXA rfl (uXA rfl (uXA rfl (uXA rfl (uXA rfl (uXA rfl (uXA rfl hI.2.2.2.1))))))))))))))))
    have k_xN1 : xN1 W := by
      rw [hW]
      exact (uxN1 rfl (uxN1 rfl (uxN1 rfl (uxN1 rfl (uxN1 rfl (uxN1 rfl (uxN1 rfl (uxN1 rfl (uxN1 rfl (uxN1 rfl (uxN1 rfl (uxN1 rfl (uxN1 rfl (uxN1 rfl (uxN1 rfl (uxN1 rfl hI.2.2.2.2.1))))))))))))))))
    have k_xN2 : xN2 W := by
      rw [hW]
      exact (uxN2 rfl (uxN2 rfl (uxN2 rfl (uxN2 rfl (uxN2 rfl (uxN2 rfl (uxN2 rfl (uxN2 rfl (uxN2 rfl (uxN2 rfl (uxN2 rfl (uxN2 rfl (uxN2 rfl (uxN2 rfl (uxN2 rfl (uxN2 rfl hI.2.2.2.2.2.1))))))))))))))))
    have k_xN3 : xN3 W := by
      rw [hW]
      exact (uxN3 rfl (uxN3 rfl (uxN3 rfl (uxN3 rfl (uxN3 rfl (uxN3 rfl (uxN3 rfl (uxN3 rfl (uxN3 rfl (uxN3 rfl (uxN3 rfl (uxN3 rfl (uxN3 rfl (uxN3 rfl (uxN3 rfl (uxN3 rfl hI.2.2.2.2.2.2.1))))))))))))))))
    have k_xN4 : xN4 W := by
      rw [hW]
      exact (uxN4 rfl (uxN4 rfl (uxN4 rfl (uxN4 rfl (uxN4 rfl (uxN4 rfl (uxN4 rfl (uxN4 rfl (uxN4 rfl (uxN4 rfl (uxN4 rfl (uxN4 rfl (uxN4 rfl (uxN4 rfl (uxN4 rfl (uxN4 rfl hI.2.2.2.2.2.2.2.1))))))))))))))))
    have k_xN5 : xN5 W := by
      rw [hW]
      exact (uxN5 rfl (uxN5 rfl (uxN5 rfl (uxN5 rfl (uxN5 rfl (uxN5 rfl (uxN5 rfl (uxN5 rfl (uxN5 rfl (uxN5 rfl (uxN5 rfl (uxN5 rfl (uxN5 rfl (uxN5 rfl (uxN5 rfl (uxN5 rfl hI.2.2.2.2.2.2.2.2.1))))))))))))))))
    have k_xN6 : xN6 W := by
      rw [hW]
      exact (uxN6 rfl (uxN6 rfl (uxN6 rfl (uxN6 rfl (uxN6 rfl (uxN6 rfl (uxN6 rfl (uxN6 rfl (uxN6 rfl (uxN6 rfl (uxN6 rfl (uxN6 rfl (uxN6 rfl (uxN6 rfl (uxN6 rfl (uxN6 rfl hI.2.2.2.2.2.2.2.2.2.1))))))))))))))))
    have k_xH1 : xH1 W := by
      rw [hW]
      exact (uxH1 rfl (uxH1 rfl (uxH1 rfl (uxH1 rfl (uxH1 rfl (uxH1 rfl (uxH1 rfl (uxH1 rfl (uxH1 rfl (uxH1 rfl (uxH1 rfl (uxH1 rfl (uxH1 rfl (uxH1 rfl (uxH1 rfl (uxH1 rfl hI.2.2.2.2.2.2.2.2.2.2.1))))))))))))))))
    have k_xK1 : xK1 W := by
      rw [hW]
      exact (uxK1 rfl (uxK1 rfl (uxK1 rfl (uxK1 rfl (uxK1 rfl (uxK1 rfl (uxK1 rfl (uxK1 rfl (uxK1 rfl (uxK1 rfl (uxK1 rfl (uxK1 rfl (uxK1 rfl (uxK1 rfl (uxK1 rfl (uxK1 rfl hI.2.2.2.2.2.2.2.2.2.2.2.1))))))))))))))))
    have k_xC1 : xC1 W := by
      rw [hW]
      exact (uxC1 rfl (uxC1 rfl (uxC1 rfl (uxC1 rfl (uxC1 rfl (uxC1 rfl (uxC1 rfl (uxC1 rfl (uxC1 rfl (uxC1 rfl (uxC1 rfl (uxC1 rfl (uxC1 rfl (uxC1 rfl (uxC1 rfl (uxC1 rfl hI.2.2.2.2.2.2.2.2.2.2.2.2.1))))))))))))))))
    have k_xRW : xRW W := by
      rw [hW]
      exact (uxRW rfl (uxRW rfl (uxRW rfl (uxRW rfl (uxRW rfl (uxRW rfl (uxRW rfl (uxRW rfl (uxRW rfl (uxRW rfl (uxRW rfl (uxRW rfl (uxRW rfl (uxRW rfl (uxRW rfl (uxRW rfl hI.2.2.2.2.2.2.2.2.2.2.2.2.2.1))))))))))))))))
    have k_xWT : xWT W := by
      rw [hW]
      exact (uxWT rfl (uxWT rfl (uxWT rfl (uxWT rfl (uxWT rfl (uxWT rfl (uxWT rfl (uxWT rfl (uxWT rfl (uxWT rfl (uxWT rfl (uxWT rfl (uxWT rfl (uxWT rfl (uxWT rfl (uxWT rfl hI.2.2.2.2.2.2.2.2.2.2.2.2.2.2.1))))))))))))))))
    have k_xCU : xCU W := by
      rw [hW]
      exact (uxCU rfl (uxCU rfl (uxCU rfl (uxCU rfl (uxCU rfl (uxCU rfl (uxCU rfl (uxCU rfl (uxCU rfl (uxCU rfl (uxCU rfl (uxCU rfl (uxCU rfl (uxCU rfl (uxCU rfl (uxCU rfl hI.2.2.2.2.2.2.2.2.2.2.2.2.2.2.2.1))))))))))))))))
    have k_xG2 : xG2 W := by
      rw [hW]
      exact (uxG2 rfl (uxG2 rfl (uxG2 rfl (uxG2 rfl (uxG2 rfl (uxG2 rfl (uxG2 rfl (uxG2 rfl (uxG2 rfl (uxG2 rfl (uxG2 rfl (uxG2 rfl (uxG2 rfl (uxG2 rfl (uxG2 rfl (uxG2 rfl hI.2.2.2.2.2.2.2.2.2.2.2.2.2.2.2.2.1))))))))))))))))
    have k_xG3 : xG3 W := by
      rw [hW]
      exact (uxG3 rfl (uxG3 rfl (uxG3 rfl (uxG3 rfl (uxG3 rfl (uxG3 rfl (uxG3 rfl (uxG3 rfl (uxG3 rfl (uxG3 rfl (uxG3 rfl (uxG3 rfl (uxG3 rfl (uxG3 rfl (uxG3 rfl (uxG3 rfl hI.2.2.2.2.2.2.2.2.2.2.2.2.2.2.2.2.2.1))))))))))))))))
    have k_xG4 : xG4 W := by
      rw [hW]
      exact (uxG4 rfl (uxG4 rfl (uxG4 rfl (uxG4 rfl (uxG4 rfl (uxG4 rfl (uxG4 rfl (uxG4 rfl (uxG4 rfl (uxG4 rfl (uxG4 rfl (uxG4 rfl (uxG4 rfl (uxG4 rfl (uxG4 rfl (uxG4 rfl hI.2.2.2.2.2.2.2.2.2.2.2.2.2.2.2.2.2.2.1))))))))))))))))
    have k_xG5 : xG5 W := by
      rw [hW]
      exact (uxG5 rfl (uxG5 rfl (uxG5 rfl (uxG5 rfl (uxG5 rfl (uxG5 rfl (uxG5 rfl (uxG5 rfl (uxG5 rfl (uxG5 rfl (uxG5 rfl (uxG5 rfl (uxG5 rfl (uxG5 rfl (uxG5 rfl (uxG5 rfl hI.2.2.2.2.2.2.2.2.2.2.2.2.2.2.2.2.2.2.2.1))))))))))))))))
    have k_xG6 : xG6 W := by
      rw [hW]
      exact (uxG6 rfl (uxG6 rfl (uxG6 rfl (uxG6 rfl (uxG6 rfl (uxG6 rfl (uxG6 rfl (uxG6 rfl (uxG6 rfl (uxG6 rfl (uxG6 rfl (uxG6 rfl (uxG6 rfl (uxG6 rfl (uxG6 rfl (uxG6 rfl hI.2.2.2.2.2.2.2.2.2.2.2.2.2.2.2.2.2.2.2.2.1))))))))))))))))
    have k_xS1 : xS1 W := by
      rw [hW]
      exact (uxS1 rfl (uxS1 rfl (uxS1 rfl (uxS1 rfl (uxS1 rfl (uxS1 rfl (uxS1 rfl (uxS1 rfl (uxS1 rfl (uxS1 rfl (uxS1 rfl (uxS1 rfl (uxS1 rfl (uxS1 rfl (uxS1 rfl (uxS1 rfl hI.2.2.2.2.2.2.2.2.2.2.2.2.2.2.2.2.2.2.2.2.2.1))))))))))))))))
    have k_xS2 : xS2 W := by
      rw [hW]
      exact (uxS2 rfl (uxS2 rfl (uxS2 rfl (uxS2 rfl (uxS2 rfl (uxS2 rfl (uxS2 rfl (uxS2 rfl (uxS2 rfl (uxS2 rfl (uxS2 rfl (uxS2 rfl (uxS2 rfl (uxS2 rfl (uxS2 rfl (uxS2 rfl hI.2.2.2.2.2.2.2.2.2.2.2.2.2.2.2.2.2.2.2.2.2.2.1))))))))))))))))
    have k_xS3 : xS3 W := by
      rw [hW]
      exact (uxS3 rfl (uxS3 rfl (uxS3 rfl (uxS3 rfl (uxS3 rfl (uxS3 rfl (uxS3 rfl (uxS3 rfl (uxS3 rfl (uxS3 rfl (uxS3 rfl (uxS3 rfl (uxS3 rfl (uxS3 rfl (uxS3 rfl (uxS3 rfl hI.2.2.2.2.2.2.2.2.2.2.2.2.2.2.2.2.2.2.2.2.2.2.2.1))))))))))))))))
    have k_xS4 : xS4 W := by
      rw [hW]
      exact (uxS4 rfl (uxS4 rfl (uxS4 rfl (uxS4 rfl (uxS4 rfl (uxS4 rfl (uxS4 rfl (uxS4 rfl (uxS4 rfl (uxS4 rfl (uxS4 rfl (uxS4 rfl (uxS4 rfl (uxS4 rfl (uxS4 rfl (uxS4 rfl hI.2.2.2.2.2.2.2.2.2.2.2.2.2.2.2.2.2.2.2.2.2.2.2.2.1))))))))))))))))
    have k_xS5 : xS5 W := by
      rw [hW]
      exact (uxS5 rfl (uxS5 rfl (uxS5 rfl (uxS5 rfl (uxS5 rfl (uxS5 rfl (uxS5 rfl (uxS5 rfl (uxS5 rfl (uxS5 rfl (uxS5 rfl (uxS5 rfl (uxS5 rfl (uxS5 rfl (uxS5 rfl (uxS5 rfl hI.2.2.2.2.2.2.2.2.2.2.2.2.2.2.2.2.2.2.2.2.2.2.2.2.2.1))))))))))))))))
    have k_xS6 : xS6 W := by
      rw [hW]
      exact (uxS6 rfl (uxS6 rfl (uxS6 rfl (uxS6 rfl (uxS6 rfl (uxS6 rfl (uxS6 rfl (uxS6 rfl (uxS6 rfl (uxS6 rfl (uxS6 rfl (uxS6 rfl (uxS6 rfl (uxS6 rfl (uxS6 rfl (uxS6 rfl hI.2.2.2.2.2.2.2.2.2.2.2.2.2.2.2.2.2.2.2.2.2.2.2.2.2.2.1))))))))))))))))
    have k_xS7 : xS7 W := by
      rw [hW]
      exact (uxS7 rfl (uxS7 rfl (uxS7 rfl (uxS7 rfl (uxS7 rfl (uxS7 rfl (uxS7 rfl (uxS7 rfl (uxS7 rfl (uxS7 rfl (uxS7 rfl (uxS7 rfl (uxS7 rfl (uxS7 rfl (uxS7 rfl (uxS7 rfl hI.2.2.2.2.2.2.2.2.2.2.2.2.2.2.2.2.2.2.2.2.2.2.2.2.2.2.2.1))))))))))))))))
    have k_xS8 : xS8 W := by
      rw [hW]
      exact (uxS8 rfl (uxS8 rfl (uxS8 rfl (uxS8 rfl (uxS8 rfl (uxS8 rfl (uxS8 rfl (uxS8 rfl (uxS8 rfl (uxS8 rfl (uxS8 rfl (uxS8 rfl (uxS8 rfl (uxS8 rfl (uxS8 rfl (uxS8 rfl hI.2.2.2.2.2.2.2.2.2.2.2.2.2.2.2.2.2.2.2.2.2.2.2.2.2.2.2.2.1))))))))))))))))
    have k_xS9 : xS9 W := by
      rw [hW]
      exact (uxS9 rfl (uxS9 rfl (uxS9 rfl (uxS9 rfl (uxS9 rfl (uxS9 rfl (uxS9 rfl (uxS9 rfl (uxS9 rfl (uxS9 rfl (uxS9 rfl (uxS9 rfl (uxS9 rfl (uxS9 rfl (uxS9 rfl (uxS9 rfl hI.2.2.2.2.2.2.2.2.2.2.2.2.2.2.2.2.2.2.2.2.2.2.2.2.2.2.2.2.2.1))))))))))))))))
    have k_xSA : xSA W := by
      rw [hW]
      exact (uxSA rfl (uxSA rfl (uxSA rfl (uxSA rfl (uxSA rfl (uxSA rfl (uxSA rfl (uxSA rfl (uxSA rfl (uxSA rfl (uxSA rfl (uxSA rfl (uxSA rfl (uxSA rfl (uxSA rfl (uxSA rfl hI.2.2.2.2.2.2.2.2.2.2.2.2.2.2.2.2.2.2.2.2.2.2.2.2.2.2.2.2.2.2.1))))))))))))))))
    have k_xSG : xSG W := by
      rw [hW]
      exact (uxSG rfl (uxSG rfl (uxSG rfl (uxSG rfl (uxSG rfl (uxSG rfl (uxSG rfl (uxSG rfl (uxSG rfl (uxSG rfl (uxSG rfl (uxSG rfl (uxSG rfl (uxSG rfl (uxSG rfl (uxSG rfl hI.2.2.2.2.2.2.2.2.2.2.2.2.2.2.2.2.2.2.2.2.2.2.2.2.2.2.2.2.2.2.2.1))))))))))))))))
    have k_xSF : xSF W := by
      rw [hW]
      exact (uxSF rfl (uxSF rfl (uxSF rfl (uxSF rfl (uxSF rfl (uxSF rfl (uxSF rfl (uxSF rfl (uxSF rfl (uxSF rfl (uxSF rfl (uxSF rfl (uxSF rfl (uxSF rfl (uxSF rfl (uxSF rfl hI.2.2.2.2.2.2.2.2.2.2.2.2.2.2.2.2.2.2.2.2.2.2.2.2.2.2.2.2.2.2.2.2.1))))))))))))))))
    have k_xSB : xSB W := by
      rw [hW]
      exact (uxSB rfl (uxSB rfl (uxSB rfl (uxSB rfl (uxSB rfl (uxSB rfl (uxSB rfl (uxSB rfl (uxSB rfl (uxSB rfl (uxSB rfl (uxSB rfl (uxSB rfl (uxSB rfl (uxSB rfl (uxSB rfl hI.2.2.2.2.2.2.2.2.2.2.2.2.2.2.2.2.2.2.2.2.2.2.2.2.2.2.2.2.2.2.2.2.2.1))))))))))))))))
    have k_xSC : xSC W := by
      rw [hW]
      exact (uxSC rfl (uxSC rfl (uxSC rfl (uxSC rfl (uxSC rfl (uxSC rfl (uxSC rfl (uxSC rfl (uxSC rfl (uxSC rfl (uxSC rfl (uxSC rfl (uxSC rfl (uxSC rfl (uxSC rfl (uxSC rfl hI.2.2.2.2.2.2.2.2.2.2.2.2.2.2.2.2.2.2.2.2.2.2.2.2.2.2.2.2.2.2.2.2.2.2.1))))))))))))))))
    have k_xSD : xSD W := by
      have r91_240 : W 91 240 = 1 * ρ 0 + 0 := by rw [hW, sU_ne (fun z => by omega), sU_ne (fun z => by omega), sU_ne (fun z => by omega), sU_ne (fun z => by omega), sU_ne (fun z => by omega), sU_ne (fun z => by omega), sU_ne (fun z => by omega), sU_at]
      have r91_241 : W 91 241 = 1 * ρ 0 + 0 := by rw [hW, sU_ne (fun z => by omega), sU_ne (fun z => by omega), sU_ne (fun z => by omega), sU_ne (fun z => by omega), sU_ne (fun z => by omega), sU_ne (fun z => by omega), sU_at]
      have r91_242 : W 91 242 = 7 * ρ 0 + 0 := by rw [hW, sU_ne (fun z => by omega), sU_ne (fun z => by omega), sU_ne (fun z => by omega), sU_ne (fun z => by omega), sU_ne (fun z => by omega), sU_at]
      have r91_243 : W 91 243 = 128 * ρ 0 + 0 := by rw [hW, sU_ne (fun z => by omega), sU_ne (fun z => by omega), sU_ne (fun z => by omega), sU_ne (fun z => by omega), sU_at]
      have r91_244 : W 91 244 = 128 * ρ 0 + (1 * ρ 1 + (-128 * ρ 5 + 0)) := by rw [hW, sU_ne (fun z => by omega), sU_at]
      have r91_245 : W 91 245 = 0 := by rw [hW, sU_ne (fun z => by omega), sU_ne (fun z => by omega), sU_ne (fun z => by omega), sU_at]
      have r91_246 : W 91 246 = 1 * ρ 1 + 0 := by rw [hW, sU_ne (fun z => by omega), sU_ne (fun z => by omega), sU_at]
      have r91_247 : W 91 247 = 128 * ρ 0 + 0 := by rw [hW, sU_at]
      intro h
      rw [r91_241, r91_242, r91_243, r91_244, r91_245, r91_246, r91_247, h0]
      refine ⟨by decide, ?_, by decide⟩
      rw [show ((128 : Int) * 1 + 0) = 128 from rfl, show (1 * ρ 1 + 0 : Int) = ρ 1 by omega, xb.2]
      omega
    have k_xSE : xSE W := by
      have r91_249 : W 91 249 = 1 * ρ 0 + 0 := by rw [hW, sU_ne (fun z => by omega), sU_ne (fun z => by omega), sU_ne (fun z => by omega), sU_ne (fun z => by omega), sU_ne (fun z => by omega), sU_ne (fun z => by omega), sU_ne (fun z => by omega), sU_ne (fun z => by omega), sU_ne (fun z => by omega), sU_ne (fun z => by omega), sU_ne (fun z => by omega), sU_ne (fun z => by omega), sU_ne (fun z => by omega), sU_ne (fun z => by omega), sU_ne (fun z => by omega), sU_at]
      have r91_250 : W 91 250 = 1 * ρ 1 + 0 := by rw [hW, sU_ne (fun z => by omega), sU_ne (fun z => by omega), sU_ne (fun z => by omega), sU_ne (fun z => by omega), sU_ne (fun z => by omega), sU_ne (fun z => by omega), sU_ne (fun z => by omega), sU_ne (fun z => by omega), sU_ne (fun z => by omega), sU_ne (fun z => by omega), sU_ne (fun z => by omega), sU_ne (fun z => by omega), sU_ne (fun z => by omega), sU_ne (fun z => by omega), sU_at]
      have r91_251 : W 91 251 = 7 * ρ 0 + 0 := by rw [hW, sU_ne (fun z => by omega), sU_ne (fun z => by omega), sU_ne (fun z => by omega), sU_ne (fun z => by omega), sU_ne (fun z => by omega), sU_ne (fun z => by omega), sU_ne (fun z => by omega), sU_ne (fun z => by omega), sU_ne (fun z => by omega), sU_ne (fun z => by omega), sU_ne (fun z => by omega), sU_ne (fun z => by omega), sU_ne (fun z => by omega), sU_at]
      have r91_252 : W 91 252 = 1 * (xop 0 (ρ 1) 7) + 0 := by rw [hW, sU_ne (fun z => by omega), sU_ne (fun z => by omega), sU_ne (fun z => by omega), sU_ne (fun z => by omega), sU_ne (fun z => by omega), sU_ne (fun z => by omega), sU_ne (fun z => by omega), sU_ne (fun z => by omega), sU_ne (fun z => by omega), sU_ne (fun z => by omega), sU_ne (fun z => by omega), sU_ne (fun z => by omega), sU_at]
      have r91_253 : W 91 253 = 1 * ρ 5 + 0 := by rw [hW, sU_ne (fun z => by omega), sU_ne (fun z => by omega), sU_ne (fun z => by omega), sU_ne (fun z => by omega), sU_ne (fun z => by omega), sU_ne (fun z => by omega), sU_ne (fun z => by omega), sU_ne (fun z => by omega), sU_ne (fun z => by omega), sU_ne (fun z => by omega), sU_ne (fun z => by omega), sU_at]
      have r91_255 : W 91 255 = 0 := by rw [hW, sU_ne (fun z => by omega), sU_ne (fun z => by omega), sU_ne (fun z => by omega), sU_ne (fun z => by omega), sU_ne (fun z => by omega), sU_ne (fun z => by omega), sU_ne (fun z => by omega), sU_ne (fun z => by omega), sU_ne (fun z => by omega), sU_ne (fun z => by omega), sU_at]
      have r91_256 : W 91 256 = 1 * (xop 1 0 128) + 0 := by rw [hW, sU_ne (fun z => by omega), sU_ne (fun z => by omega), sU_ne (fun z => by omega), sU_ne (fun z => by omega), sU_ne (fun z => by omega), sU_ne (fun z => by omega), sU_ne (fun z => by omega), sU_ne (fun z => by omega), sU_ne (fun z => by omega), sU_at]
      have r91_243 : W 91 243 = 128 * ρ 0 + 0 := by rw [hW, sU_ne (fun z => by omega), sU_ne (fun z => by omega), sU_ne (fun z => by omega), sU_ne (fun z => by omega), sU_at]
      have r91_257 : W 91 257 = 1 * (xop 1 (xop 0 (ρ 1) 7) 255) + 0 := by rw [hW, sU_ne (fun z => by omega), sU_ne (fun z => by omega), sU_ne (fun z => by omega), sU_ne (fun z => by omega), sU_ne (fun z => by omega), sU_ne (fun z => by omega), sU_ne (fun z => by omega), sU_ne (fun z => by omega), sU_at]
      intro h
      rw [r91_243, r91_250, r91_251, r91_252, r91_253, r91_255, r91_256, r91_257, h0]
      rw [show ((7 : Int) * 1 + 0) = 7 from rfl, show (1 * ρ 1 + 0 : Int) = ρ 1 by omega, show ((128 : Int) * 1 + 0) = 128 from rfl]
      refine ⟨by omega, ?_, by omega, ?_⟩
      · rw [show (1 * (xop 0 (ρ 1) 7) + 0 : Int) = xop 0 (ρ 1) 7 by omega, xb.1]
        omega
      · rw [show (1 * (xop 0 (ρ 1) 7) + 0 : Int) = xop 0 (ρ 1) 7 by omega]
        omega
    have k_xSW : xSW W := by
      rw [hW]
      exact (uxSW rfl (uxSW rfl (uxSW rfl (uxSW rfl (uxSW rfl (uxSW rfl (uxSW rfl (uxSW rfl (uxSW rfl (uxSW rfl (uxSW rfl (uxSW rfl (uxSW rfl (uxSW rfl (uxSW rfl (uxSW rfl hI.2.2.2.2.2.2.2.2.2.2.2.2.2.2.2.2.2.2.2.2.2.2.2.2.2.2.2.2.2.2.2.2.2.2.2.2.2.1))))))))))))))))
    have k_xST : xST W := by
      rw [hW]
      exact (uxST rfl (uxST rfl (uxST rfl (uxST rfl (uxST rfl (uxST rfl (uxST rfl (uxST rfl (uxST rfl (uxST rfl (uxST rfl (uxST rfl (uxST rfl (uxST rfl (uxST rfl (uxST rfl hI.2.2.2.2.2.2.2.2.2.2.2.2.2.2.2.2.2.2.2.2.2.2.2.2.2.2.2.2.2.2.2.2.2.2.2.2.2.2.1))))))))))))))))
    have k_xSP : xSP W := by
      rw [hW]
      exact (uxSP rfl (uxSP rfl (uxSP rfl (uxSP rfl (uxSP rfl (uxSP rfl (uxSP rfl (uxSP rfl (uxSP rfl (uxSP rfl (uxSP rfl (uxSP rfl (uxSP rfl (uxSP rfl (uxSP rfl (uxSP rfl hI.2.2.2.2.2.2.2.2.2.2.2.2.2.2.2.2.2.2.2.2.2.2.2.2.2.2.2.2.2.2.2.2.2.2.2.2.2.2.2.1))))))))))))))))
    have k_xSL : xSL W := by
      rw [hW]
      exact (uxSL rfl (uxSL rfl (uxSL rfl (uxSL rfl (uxSL rfl (uxSL rfl (uxSL rfl (uxSL rfl (uxSL rfl (uxSL rfl (uxSL rfl (uxSL rfl (uxSL rfl (uxSL rfl (uxSL rfl (uxSL rfl hI.2.2.2.2.2.2.2.2.2.2.2.2.2.2.2.2.2.2.2.2.2.2.2.2.2.2.2.2.2.2.2.2.2.2.2.2.2.2.2.2.1))))))))))))))))
    have k_xSM : xSM W := by
      rw [hW]
      exact (uxSM rfl (uxSM rfl (uxSM rfl (uxSM rfl (uxSM rfl (uxSM rfl (uxSM rfl (uxSM rfl (uxSM rfl (uxSM rfl (uxSM rfl (uxSM rfl (uxSM rfl (uxSM rfl (uxSM rfl (uxSM rfl hI.2.2.2.2.2.2.2.2.2.2.2.2.2.2.2.2.2.2.2.2.2.2.2.2.2.2.2.2.2.2.2.2.2.2.2.2.2.2.2.2.2.1))))))))))))))))
    have k_xSI : xSI W := by
      rw [hW]
      exact (uxSI rfl (uxSI rfl (uxSI rfl (uxSI rfl (uxSI rfl (uxSI rfl (uxSI rfl (uxSI rfl (uxSI rfl (uxSI rfl (uxSI rfl (uxSI rfl (uxSI rfl (uxSI rfl (uxSI rfl (uxSI rfl hI.2.2.2.2.2.2.2.2.2.2.2.2.2.2.2.2.2.2.2.2.2.2.2.2.2.2.2.2.2.2.2.2.2.2.2.2.2.2.2.2.2.2.1))))))))))))))))
    have k_xD3 : xD3 W := by
      rw [hW]
      exact (uxD3 rfl (uxD3 rfl (uxD3 rfl (uxD3 rfl (uxD3 rfl (uxD3 rfl (uxD3 rfl (uxD3 rfl (uxD3 rfl (uxD3 rfl (uxD3 rfl (uxD3 rfl (uxD3 rfl (uxD3 rfl (uxD3 rfl (uxD3 rfl hI.2.2.2.2.2.2.2.2.2.2.2.2.2.2.2.2.2.2.2.2.2.2.2.2.2.2.2.2.2.2.2.2.2.2.2.2.2.2.2.2.2.2.2.1))))))))))))))))
    have k_xDV : xDV W := by
      rw [hW]
      exact (uxDV rfl (uxDV rfl (uxDV rfl (uxDV rfl (uxDV rfl (uxDV rfl (uxDV rfl (uxDV rfl (uxDV rfl (uxDV rfl (uxDV rfl (uxDV rfl (uxDV rfl (uxDV rfl (uxDV rfl (uxDV rfl hI.2.2.2.2.2.2.2.2.2.2.2.2.2.2.2.2.2.2.2.2.2.2.2.2.2.2.2.2.2.2.2.2.2.2.2.2.2.2.2.2.2.2.2.2.1))))))))))))))))
    have k_xDP : xDP W := by
      rw [hW]
      exact (uxDP rfl (uxDP rfl (uxDP rfl (uxDP rfl (uxDP rfl (uxDP rfl (uxDP rfl (uxDP rfl (uxDP rfl (uxDP rfl (uxDP rfl (uxDP rfl (uxDP rfl (uxDP rfl (uxDP rfl (uxDP rfl hI.2.2.2.2.2.2.2.2.2.2.2.2.2.2.2.2.2.2.2.2.2.2.2.2.2.2.2.2.2.2.2.2.2.2.2.2.2.2.2.2.2.2.2.2.2.1))))))))))))))))
    have k_xDE : xDE W := by
      rw [hW]
      exact (uxDE rfl (uxDE rfl (uxDE rfl (uxDE rfl (uxDE rfl (uxDE rfl (uxDE rfl (uxDE rfl (uxDE rfl (uxDE rfl (uxDE rfl (uxDE rfl (uxDE rfl (uxDE rfl (uxDE rfl (uxDE rfl hI.2.2.2.2.2.2.2.2.2.2.2.2.2.2.2.2.2.2.2.2.2.2.2.2.2.2.2.2.2.2.2.2.2.2.2.2.2.2.2.2.2.2.2.2.2.2.1))))))))))))))))
    have k_xQ5 : xQ5 W := by
      rw [hW]
      exact (uxQ5 rfl (uxQ5 rfl (uxQ5 rfl (uxQ5 rfl (uxQ5 rfl (uxQ5 rfl (uxQ5 rfl (uxQ5 rfl (uxQ5 rfl (uxQ5 rfl (uxQ5 rfl (uxQ5 rfl (uxQ5 rfl (uxQ5 rfl (uxQ5 rfl (uxQ5 rfl hI.2.2.2.2.2.2.2.2.2.2.2.2.2.2.2.2.2.2.2.2.2.2.2.2.2.2.2.2.2.2.2.2.2.2.2.2.2.2.2.2.2.2.2.2.2.2.2.1))))))))))))))))
    have k_xQL : xQL W := by
      rw [hW]
      exact (uxQL rfl (uxQL rfl (uxQL rfl (uxQL rfl (uxQL rfl (uxQL rfl (uxQL rfl (uxQL rfl (uxQL rfl (uxQL rfl (uxQL rfl (uxQL rfl (uxQL rfl (uxQL rfl (uxQL rfl (uxQL rfl hI.2.2.2.2.2.2.2.2.2.2.2.2.2.2.2.2.2.2.2.2.2.2.2.2.2.2.2.2.2.2.2.2.2.2.2.2.2.2.2.2.2.2.2.2.2.2.2.2.1))))))))))))))))
    have k_xQW : xQW W := by
      rw [hW]
      exact (uxQW rfl (uxQW rfl (uxQW rfl (uxQW rfl (uxQW rfl (uxQW rfl (uxQW rfl (uxQW rfl (uxQW rfl (uxQW rfl (uxQW rfl (uxQW rfl (uxQW rfl (uxQW rfl (uxQW rfl (uxQW rfl hI.2.2.2.2.2.2.2.2.2.2.2.2.2.2.2.2.2.2.2.2.2.2.2.2.2.2.2.2.2.2.2.2.2.2.2.2.2.2.2.2.2.2.2.2.2.2.2.2.2.1))))))))))))))))
    have k_xQM : xQM W := by
      rw [hW]
      exact (uxQM rfl (uxQM rfl (uxQM rfl (uxQM rfl (uxQM rfl (uxQM rfl (uxQM rfl (uxQM rfl (uxQM rfl (uxQM rfl (uxQM rfl (uxQM rfl (uxQM rfl (uxQM rfl (uxQM rfl (uxQM rfl hI.2.2.2.2.2.2.2.2.2.2.2.2.2.2.2.2.2.2.2.2.2.2.2.2.2.2.2.2.2.2.2.2.2.2.2.2.2.2.2.2.2.2.2.2.2.2.2.2.2.2.1))))))))))))))))
    have k_xQH : xQH W := by
      rw [hW]
      exact (uxQH rfl (uxQH rfl (uxQH rfl (uxQH rfl (uxQH rfl (uxQH rfl (uxQH rfl (uxQH rfl (uxQH rfl (uxQH rfl (uxQH rfl (uxQH rfl (uxQH rfl (uxQH rfl (uxQH rfl (uxQH rfl hI.2.2.2.2.2.2.2.2.2.2.2.2.2.2.2.2.2.2.2.2.2.2.2.2.2.2.2.2.2.2.2.2.2.2.2.2.2.2.2.2.2.2.2.2.2.2.2.2.2.2.2))))))))))))))))
    have k_XC : XC W := ⟨k_xS1, k_xS2, k_xS3, k_xS4, k_xS5, k_xS6, k_xS7, k_xS8, k_xS9, k_xSA, k_xSG, k_xSF, k_xSB, k_xSC, k_xSD, k_xSE, k_xSW, k_xST, k_xSP, k_xSL, k_xSM, k_xSI, k_xD3, k_xDV, k_xDP, k_xDE, k_xQ5, k_xQL, k_xQW, k_xQM, k_xQH⟩
    have kXB : XB W := ⟨k_xN1, k_xN2, k_xN3, k_xN4, k_xN5, k_xN6, k_xH1, k_xK1, k_xC1, k_xRW, k_xWT, k_xCU, k_xG2, k_xG3, k_xG4, k_xG5, k_xG6, k_XC⟩
    exact ⟨base, k2, k3, kXA, kXB⟩
-- rt8
def xr_496 : qRu := (11, [[(1, 1), (-1, 2), (-32, 3), (-64, 4), (-128, 5), (-256, 6), (-512, 7), (-1024, 8), (-65536, 9), (-131072, 10)], [(-1, 1), (1, 2), (32, 3), (64, 4), (128, 5), (256, 6), (512, 7), (1024, 8), (65536, 9), (131072, 10)], [(1, 2)], [(31, 0), (-1, 2)], [(1, 8)], [(63, 0), (-1, 8)], [(1, 3)], [(1, 0), (-1, 3)], [(1, 4)], [(1, 0), (-1, 4)], [(1, 5)], [(1, 0), (-1, 5)], [(1, 6)], [(1, 0), (-1, 6)], [(1, 7)], [(1, 0), (-1, 7)], [(1, 9)], [(1, 0), (-1, 9)], [(1, 10)], [(1, 0), (-1, 10)]], [], [], [(91, 249, [(1, 0)]), (91, 250, [(1, 1)]), (91, 251, [(8, 0)]), (91, 252, [(1, 11)]), (91, 253, [(1, 6)]), (91, 255, []), (91, 256, [(1, 12)]), (91, 257, [(1, 13)]), (91, 240, [(1, 0)]), (91, 241, [(1, 0)]), (91, 242, [(8, 0)]), (91, 243, [(256, 0)]), (91, 245, []), (91, 246, [(1, 1)]), (91, 244, [(256, 0), (1, 1), (-256, 6)]), (91, 247, [(256, 0)])], [])
theorem xo_496 : qRok xr_496 := by
  intro ρ M h0 hf hm hI
  have f0 := hf [(1, 1), (-1, 2), (-32, 3), (-64, 4), (-128, 5), (-256, 6), (-512, 7), (-1024, 8), (-65536, 9), (-131072, 10)] (by decide)
  have f1 := hf [(-1, 1), (1, 2), (32, 3), (64, 4), (128, 5), (256, 6), (512, 7), (1024, 8), (65536, 9), (131072, 10)] (by decide)
  have f2 := hf [(1, 2)] (by decide)
  have f3 := hf [(31, 0), (-1, 2)] (by decide)
  have f4 := hf [(1, 8)] (by decide)
  have f5 := hf [(63, 0), (-1, 8)] (by decide)
  have f6 := hf [(1, 3)] (by decide)
  have f7 := hf [(1, 0), (-1, 3)] (by decide)
  have f8 := hf [(1, 4)] (by decide)
  have f9 := hf [(1, 0), (-1, 4)] (by decide)
  have f10 := hf [(1, 5)] (by decide)
  have f11 := hf [(1, 0), (-1, 5)] (by decide)
  have f12 := hf [(1, 6)] (by decide)
  have f13 := hf [(1, 0), (-1, 6)] (by decide)
  have f14 := hf [(1, 7)] (by decide)
  have f15 := hf [(1, 0), (-1, 7)] (by decide)
  have f16 := hf [(1, 9)] (by decide)
  have f17 := hf [(1, 0), (-1, 9)] (by decide)
  have f18 := hf [(1, 10)] (by decide)
  have f19 := hf [(1, 0), (-1, 10)] (by decide)
  simp only [qD, h0] at f0 f1 f2 f3 f4 f5 f6 f7 f8 f9 f10 f11 f12 f13 f14 f15 f16 f17 f18 f19
  have qxSD := hI.2.2.2.2.2.2.2.2.2.2.2.2.2.2.2.2.2.2.2.2.2.2.2.2.2.2.2.2.2.2.2.2.2.2.2.1
  have qxSE := hI.2.2.2.2.2.2.2.2.2.2.2.2.2.2.2.2.2.2.2.2.2.2.2.2.2.2.2.2.2.2.2.2.2.2.2.2.1
  have xb := xbit8 (t := ρ 1) (b := ρ 6) (h := 1 * ρ 7 + 2 * ρ 8 + 128 * ρ 9 + 256 * ρ 10) (l := 1 * ρ 2 + 32 * ρ 3 + 64 * ρ 4 + 128 * ρ 5) (by omega) (by omega) (by omega) (by omega) (by omega)
  refine ⟨fun a => cond (Nat.blt a 11) (ρ a) (([xop 0 (ρ 1) 8, xop 1 0 256, xop 1 (xop 0 (ρ 1) 8) 255] : List Int).getD (a - 11) 0), fun a ha => ?_, fun f h => ?_, ?_⟩
  · show cond (Nat.blt a 11) (ρ a) _ = ρ a
    rw [show Nat.blt a 11 = true from Nat.ble_eq_true_of_le ha]; rfl
  · exact nomatch h
  · show sI (sU (sU (sU (sU (sU (sU (sU (sU (sU (sU (sU (sU (sU (sU (sU (sU M 91 249 (1 * ρ 0 + 0)) 91 250 (1 * ρ 1 + 0)) 91 251 (8 * ρ 0 + 0)) 91 252 (1 * (xop 0 (ρ 1) 8) + 0)) 91 253 (1 * ρ 6 + 0)) 91 255 (0)) 91 256 (1 * (xop 1 0 256) + 0)) 91 257 (1 * (xop 1 (xop 0 (ρ 1) 8) 255) + 0)) 91 240 (1 * ρ 0 + 0)) 91 241 (1 * ρ 0 + 0)) 91 242 (8 * ρ 0 + 0)) 91 243 (256 * ρ 0 + 0)) 91 245 (0)) 91 246 (1 * ρ 1 + 0)) 91 244 (256 * ρ 0 + (1 * ρ 1 + (-256 * ρ 6 + 0)))) 91 247 (256 * ρ 0 + 0))
    obtain ⟨W, hW⟩ : ∃ W, W = (sU (sU (sU (sU (sU (sU (sU (sU (sU (sU (sU (sU (sU (sU (sU (sU M 91 249 (1 * ρ 0 + 0)) 91 250 (1 * ρ 1 + 0)) 91 251 (8 * ρ 0 + 0)) 91 252 (1 * (xop 0 (ρ 1) 8) + 0)) 91 253 (1 * ρ 6 + 0)) 91 255 (0)) 91 256 (1 * (xop 1 0 256) + 0)) 91 257 (1 * (xop 1 (xop 0 (ρ 1) 8) 255) + 0)) 91 240 (1 * ρ 0 + 0)) 91 241 (1 * ρ 0 + 0)) 91 242 (8 * ρ 0 + 0)) 91 243 (256 * ρ 0 + 0)) 91 245 (0)) 91 246 (1 * ρ 1 + 0)) 91 244 (256 * ρ 0 + (1 * ρ 1 + (-256 * ρ 6 + 0)))) 91 247 (256 * ρ 0 + 0)) := ⟨_, rfl⟩
    rw [← hW]
    have base : sI0 W := by
      rw [hW]
      exact (si_u0 (si_u0 (si_u0 (si_u0 (si_u0 (si_u0 (si_u0 (si_u0 (si_u0 (si_u0 (si_u0 (si_u0 (si_u0 (si_u0 (si_u0 (si_u0 hI.1 (fun r hr => by cases hr)) (fun r hr => by cases hr)) (fun r hr => by cases hr)) (fun r hr => by cases hr)) (fun r hr => by cases hr)) (fun r hr => by cases hr)) (fun r hr => by cases hr)) (fun r hr => by cases hr)) (fun r hr => by cases hr)) (fun r hr => by cases hr)) (fun r hr => by cases hr)) (fun r hr => by cases hr)) (fun r hr => by cases hr)) (fun r hr => by cases hr)) (fun r hr => by cases hr)) (fun r hr => by cases hr))
    have k2 : XI2 W := by
      rw [hW]
      exact (xi2_u rfl (xi2_u rfl (xi2_u rfl (xi2_u rfl (xi2_u rfl (xi2_u rfl (xi2_u rfl (xi2_u rfl (xi2_u rfl (xi2_u rfl (xi2_u rfl (xi2_u rfl (xi2_u rfl (xi2_u rfl (xi2_u rfl (xi2_u rfl hI.2.1))))))))))))))))
    have k3 : XI3 W := by
      rw [hW]
      exact (xi3_u rfl (xi3_u rfl (xi3_u rfl (xi3_u rfl (xi3_u rfl (xi3_u rfl (xi3_u rfl (xi3_u rfl (xi3_u rfl (xi3_u rfl (xi3_u rfl (xi3_u rfl (xi3_u rfl (xi3_u rfl (xi3_u rfl (xi3_u rfl hI.2.2.1))))))))))))))))
    have kXA : XA W := by
      rw [hW]
      exact (uXA rfl (uXA rfl (uXA rfl (uXA rfl (uXA rfl (uXA rfl (uXA rfl (uXA rfl (uXA rfl (uXA rfl (uXA rfl (uXA rfl (uXA rfl (uXA rfl (uXA rfl (uXA rfl hI.2.2.2.1))))))))))))))))
    have k_xN1 : xN1 W := by
      rw [hW]
      exact (uxN1 rfl (uxN1 rfl (uxN1 rfl (uxN1 rfl (uxN1 rfl (uxN1 rfl (uxN1 rfl (uxN1 rfl (uxN1 rfl (uxN1 rfl (uxN1 rfl (uxN1 rfl (uxN1 rfl (uxN1 rfl (uxN1 rfl (uxN1 rfl hI.2.2.2.2.1))))))))))))))))
    have k_xN2 : xN2 W := by
      rw [hW]
      exact (uxN2 rfl (uxN2 rfl (uxN2 rfl (uxN2 rfl (uxN2 rfl (uxN2 rfl (uxN2 rfl (uxN2 rfl (uxN2 rfl (uxN2 rfl (uxN2 rfl (uxN2 rfl (uxN2 rfl (uxN2 rfl (uxN2 rfl (uxN2 rfl hI.2.2.2.2.2.1))))))))))))))))
    have k_xN3 : xN3 W := by
      rw [hW]
      exact (uxN3 rfl (uxN3 rfl (uxN3 rfl (uxN3 rfl (uxN3 rfl (uxN3 rfl (uxN3 rfl (uxN3 rfl (uxN3 rfl (uxN3 rfl (uxN3 rfl (uxN3 rfl (uxN3 rfl (uxN3 rfl (uxN3 rfl (uxN3 rfl hI.2.2.2.2.2.2.1))))))))))))))))
    have k_xN4 : xN4 W := by
      rw [hW]
      exact (uxN4 rfl (uxN4 rfl (uxN4 rfl (uxN4 rfl (uxN4 rfl (uxN4 rfl (uxN4 rfl (uxN4 rfl (uxN4 rfl (uxN4 rfl (uxN4 rfl (uxN4 rfl (uxN4 rfl (uxN4 rfl (uxN4 rfl (uxN4 rfl hI.2.2.2.2.2.2.2.1))))))))))))))))
    have k_xN5 : xN5 W := by
      rw [hW]
      exact (uxN5 rfl (uxN5 rfl (uxN5 rfl (uxN5 rfl (uxN5 rfl (uxN5 rfl (uxN5 rfl (uxN5 rfl (uxN5 rfl (uxN5 rfl (uxN5 rfl (uxN5 rfl (uxN5 rfl (uxN5 rfl (uxN5 rfl (uxN5 rfl hI.2.2.2.2.2.2.2.2.1))))))))))))))))
    have k_xN6 : xN6 W := by
      rw [hW]
      exact (uxN6 rfl (uxN6 rfl (uxN6 rfl (uxN6 rfl (uxN6 rfl (uxN6 rfl (uxN6 rfl (uxN6 rfl (uxN6 rfl (uxN6 rfl (uxN6 rfl (uxN6 rfl (uxN6 rfl (uxN6 rfl (uxN6 rfl (uxN6 rfl hI.2.2.2.2.2.2.2.2.2.1))))))))))))))))
    have k_xH1 : xH1 W := by
      rw [hW]
      exact (uxH1 rfl (uxH1 rfl (uxH1 rfl (uxH1 rfl (uxH1 rfl (uxH1 rfl (uxH1 rfl (uxH1 rfl (uxH1 rfl (uxH1 rfl (uxH1 rfl (uxH1 rfl (uxH1 rfl (uxH1 rfl (uxH1 rfl (uxH1 rfl hI.2.2.2.2.2.2.2.2.2.2.1))))))))))))))))
    have k_xK1 : xK1 W := by
      rw [hW]
      exact (uxK1 rfl (uxK1 rfl (uxK1 rfl (uxK1 rfl (uxK1 rfl (uxK1 rfl (uxK1 rfl (uxK1 rfl (uxK1 rfl (uxK1 rfl (uxK1 rfl (uxK1 rfl (uxK1 rfl (uxK1 rfl (uxK1 rfl (uxK1 rfl hI.2.2.2.2.2.2.2.2.2.2.2.1))))))))))))))))
    have k_xC1 : xC1 W := by
      rw [hW]
      exact (uxC1 rfl (uxC1 rfl (uxC1 rfl (uxC1 rfl (uxC1 rfl (uxC1 rfl (uxC1 rfl (uxC1 rfl (uxC1 rfl (uxC1 rfl (uxC1 rfl (uxC1 rfl (uxC1 rfl (uxC1 rfl (uxC1 rfl (uxC1 rfl hI.2.2.2.2.2.2.2.2.2.2.2.2.1))))))))))))))))
    have k_xRW : xRW W := by
      rw [hW]
      exact (uxRW rfl (uxRW rfl (uxRW rfl (uxRW rfl (uxRW rfl (uxRW rfl (uxRW rfl (uxRW rfl (uxRW rfl (uxRW rfl (uxRW rfl (uxRW rfl (uxRW rfl (uxRW rfl (uxRW rfl (uxRW rfl hI.2.2.2.2.2.2.2.2.2.2.2.2.2.1))))))))))))))))
    have k_xWT : xWT W := by
      rw [hW]
      exact (uxWT rfl (uxWT rfl (uxWT rfl (uxWT rfl (uxWT rfl (uxWT rfl (uxWT rfl (uxWT rfl (uxWT rfl (uxWT rfl (uxWT rfl (uxWT rfl (uxWT rfl (uxWT rfl (uxWT rfl (uxWT rfl hI.2.2.2.2.2.2.2.2.2.2.2.2.2.2.1))))))))))))))))
    have k_xCU : xCU W := by
      rw [hW]
      exact (uxCU rfl (uxCU rfl (uxCU rfl (uxCU rfl (uxCU rfl (uxCU rfl (uxCU rfl (uxCU rfl (uxCU rfl (uxCU rfl (uxCU rfl (uxCU rfl (uxCU rfl (uxCU rfl (uxCU rfl (uxCU rfl hI.2.2.2.2.2.2.2.2.2.2.2.2.2.2.2.1))))))))))))))))
    have k_xG2 : xG2 W := by
      rw [hW]
      exact (uxG2 rfl (uxG2 rfl (uxG2 rfl (uxG2 rfl (uxG2 rfl (uxG2 rfl (uxG2 rfl (uxG2 rfl (uxG2 rfl (uxG2 rfl (uxG2 rfl (uxG2 rfl (uxG2 rfl (uxG2 rfl (uxG2 rfl (uxG2 rfl hI.2.2.2.2.2.2.2.2.2.2.2.2.2.2.2.2.1))))))))))))))))
    have k_xG3 : xG3 W := by
      rw [hW]
      exact (uxG3 rfl (uxG3 rfl (uxG3 rfl (uxG3 rfl (uxG3 rfl (uxG3 rfl (uxG3 rfl (uxG3 rfl (uxG3 rfl (uxG3 rfl (uxG3 rfl (uxG3 rfl (uxG3 rfl (uxG3 rfl (uxG3 rfl (uxG3 rfl hI.2.2.2.2.2.2.2.2.2.2.2.2.2.2.2.2.2.1))))))))))))))))
    have k_xG4 : xG4 W := by
      rw [hW]
      exact (uxG4 rfl (uxG4 rfl (uxG4 rfl (uxG4 rfl (uxG4 rfl (uxG4 rfl (uxG4 rfl (uxG4 rfl (uxG4 rfl (uxG4 rfl (uxG4 rfl (uxG4 rfl (uxG4 rfl (uxG4 rfl (uxG4 rfl (uxG4 rfl hI.2.2.2.2.2.2.2.2.2.2.2.2.2.2.2.2.2.2.1))))))))))))))))
    have k_xG5 : xG5 W := by
      rw [hW]
      exact (uxG5 rfl (uxG5 rfl (uxG5 rfl (uxG5 rfl (uxG5 rfl (uxG5 rfl (uxG5 rfl (uxG5 rfl (uxG5 rfl (uxG5 rfl (uxG5 rfl (uxG5 rfl (uxG5 rfl (uxG5 rfl (uxG5 rfl (uxG5 rfl hI.2.2.2.2.2.2.2.2.2.2.2.2.2.2.2.2.2.2.2.1))))))))))))))))
    have k_xG6 : xG6 W := by
      rw [hW]
      exact (uxG6 rfl (uxG6 rfl (uxG6 rfl (uxG6 rfl (uxG6 rfl (uxG6 rfl (uxG6 rfl (uxG6 rfl (uxG6 rfl (uxG6 rfl (uxG6 rfl (uxG6 rfl (uxG6 rfl (uxG6 rfl (uxG6 rfl (uxG6 rfl hI.2.2.2.2.2.2.2.2.2.2.2.2.2.2.2.2.2.2.2.2.1))))))))))))))))
    have k_xS1 : xS1 W := by
      rw [hW]
      exact (uxS1 rfl (uxS1 rfl (uxS1 rfl (uxS1 rfl (uxS1 rfl (uxS1 rfl (uxS1 rfl (uxS1 rfl (uxS1 rfl (uxS1 rfl (uxS1 rfl (uxS1 rfl (uxS1 rfl (uxS1 rfl (uxS1 rfl (uxS1 rfl hI.2.2.2.2.2.2.2.2.2.2.2.2.2.2.2.2.2.2.2.2.2.1))))))))))))))))
    have k_xS2 : xS2 W := by
      rw [hW]
      exact (uxS2 rfl (uxS2 rfl (uxS2 rfl (uxS2 rfl (uxS2 rfl (uxS2 rfl (uxS2 rfl (uxS2 rfl (uxS2 rfl (uxS2 rfl (uxS2 rfl (uxS2 rfl (uxS2 rfl (uxS2 rfl (uxS2 rfl (uxS2 rfl hI.2.2.2.2.2.2.2.2.2.2.2.2.2.2.2.2.2.2.2.2.2.2.1))))))))))))))))
    have k_xS3 : xS3 W := by
      rw [hW]
      exact (uxS3 rfl (uxS3 rfl (uxS3 rfl (uxS3 rfl (uxS3 rfl (uxS3 rfl (uxS3 rfl (uxS3 rfl (uxS3 rfl (uxS3 rfl (uxS3 rfl (uxS3 rfl (uxS3 rfl (uxS3 rfl (uxS3 rfl (uxS3 rfl hI.2.2.2.2.2.2.2.2.2.2.2.2.2.2.2.2.2.2.2.2.2.2.2.1))))))))))))))))
    have k_xS4 : xS4 W := by
      rw [hW]
      exact (uxS4 rfl (uxS4 rfl (uxS4 rfl (uxS4 rfl (uxS4 rfl (uxS4 rfl (uxS4 rfl (uxS4 rfl (uxS4 rfl (uxS4 rfl (uxS4 rfl (uxS4 rfl (uxS4 rfl (uxS4 rfl (uxS4 rfl (uxS4 rfl hI.2.2.2.2.2.2.2.2.2.2.2.2.2.2.2.2.2.2.2.2.2.2.2.2.1))))))))))))))))
    have k_xS5 : xS5 W := by
      rw [hW]
      exact (uxS5 rfl (uxS5 rfl (uxS5 rfl (uxS5 rfl (uxS5 rfl (uxS5 rfl (uxS5 rfl (uxS5 rfl (uxS5 rfl (uxS5 rfl (uxS5 rfl (uxS5 rfl (uxS5 rfl (uxS5 rfl (uxS5 rfl (uxS5 rfl hI.2.2.2.2.2.2.2.2.2.2.2.2.2.2.2.2.2.2.2.2.2.2.2.2.2.1))))))))))))))))
    have k_xS6 : xS6 W := by
      rw [hW]
      exact (uxS6 rfl (uxS6 rfl (uxS6 rfl (uxS6 rfl (uxS6 rfl (uxS6 rfl (uxS6 rfl (uxS6 rfl (uxS6 rfl (uxS6 rfl (uxS6 rfl (uxS6 rfl (uxS6 rfl (uxS6 rfl (uxS6 rfl (uxS6 rfl hI.2.2.2.2.2.2.2.2.2.2.2.2.2.2.2.2.2.2.2.2.2.2.2.2.2.2.1))))))))))))))))
    have k_xS7 : xS7 W := by
      rw [hW]
      exact (uxS7 rfl (uxS7 rfl (uxS7 rfl (uxS7 rfl (uxS7 rfl (uxS7 rfl (uxS7 rfl (uxS7 rfl (uxS7 rfl (uxS7 rfl (uxS7 rfl (uxS7 rfl (uxS7 rfl (uxS7 rfl (uxS7 rfl (uxS7 rfl hI.2.2.2.2.2.2.2.2.2.2.2.2.2.2.2.2.2.2.2.2.2.2.2.2.2.2.2.1))))))))))))))))
    have k_xS8 : xS8 W := by
      rw [hW]
      exact (uxS8 rfl (uxS8 rfl (uxS8 rfl (uxS8 rfl (uxS8 rfl (uxS8 rfl (uxS8 rfl (uxS8 rfl (uxS8 rfl (uxS8 rfl (uxS8 rfl (uxS8 rfl (uxS8 rfl (uxS8 rfl (uxS8 rfl (uxS8 rfl hI.2.2.2.2.2.2.2.2.2.2.2.2.2.2.2.2.2.2.2.2.2.2.2.2.2.2.2.2.1))))))))))))))))
    have k_xS9 : xS9 W := by
      rw [hW]
      exact (uxS9 rfl (uxS9 rfl (uxS9 rfl (uxS9 rfl (uxS9 rfl (uxS9 rfl (uxS9 rfl (uxS9 rfl (uxS9 rfl (uxS9 rfl (uxS9 rfl (uxS9 rfl (uxS9 rfl (uxS9 rfl (uxS9 rfl (uxS9 rfl hI.2.2.2.2.2.2.2.2.2.2.2.2.2.2.2.2.2.2.2.2.2.2.2.2.2.2.2.2.2.1))))))))))))))))
    have k_xSA : xSA W := by
      rw [hW]
      exact (uxSA rfl (uxSA rfl (uxSA rfl (uxSA rfl (uxSA rfl (uxSA rfl (uxSA rfl (uxSA rfl (uxSA rfl (uxSA rfl (uxSA rfl (uxSA rfl (uxSA rfl (uxSA rfl (uxSA rfl (uxSA rfl hI.2.2.2.2.2.2.2.2.2.2.2.2.2.2.2.2.2.2.2.2.2.2.2.2.2.2.2.2.2.2.1))))))))))))))))
    have k_xSG : xSG W := by
      rw [hW]
      exact (uxSG rfl (uxSG rfl (uxSG rfl (uxSG rfl (uxSG rfl (uxSG rfl (uxSG rfl (uxSG rfl (uxSG rfl (uxSG rfl (uxSG rfl (uxSG rfl (uxSG rfl (uxSG rfl (uxSG rfl (uxSG rfl hI.2.2.2.2.2.2.2.2.2.2.2.2.2.2.2.2.2.2.2.2.2.2.2.2.2.2.2.2.2.2.2.1))))))))))))))))
    have k_xSF : xSF W := by
      rw [hW]
      exact (uxSF rfl (uxSF rfl (uxSF rfl (uxSF rfl (uxSF rfl (uxSF rfl (uxSF rfl (uxSF rfl (uxSF rfl (uxSF rfl (uxSF rfl (uxSF rfl (uxSF rfl (uxSF rfl (uxSF rfl (uxSF rfl hI.2.2.2.2.2.2.2.2.2.2.2.2.2.2.2.2.2.2.2.2.2.2.2.2.2.2.2.2.2.2.2.2.1))))))))))))))))
    have k_xSB : xSB W := by
      rw [hW]
      exact (uxSB rfl (uxSB rfl (uxSB rfl (uxSB rfl (uxSB rfl (uxSB rfl (uxSB rfl (uxSB rfl (uxSB rfl (uxSB rfl (uxSB rfl (uxSB rfl (uxSB rfl (uxSB rfl (uxSB rfl (uxSB rfl hI.2.2.2.2.2.2.2.2.2.2.2.2.2.2.2.2.2.2.2.2.2.2.2.2.2.2.2.2.2.2.2.2.2.1))))))))))))))))
    have k_xSC : xSC W := by
      rw [hW]
      exact (uxSC rfl (uxSC rfl (uxSC rfl (uxSC rfl (uxSC rfl (uxSC rfl (uxSC rfl (uxSC rfl (uxSC rfl (uxSC rfl (uxSC rfl (uxSC rfl (uxSC rfl (uxSC rfl (uxSC rfl (uxSC rfl hI.2.2.2.2.2.2.2.2.2.2.2.2.2.2.2.2.2.2.2.2.2.2.2.2.2.2.2.2.2.2.2.2.2.2.1))))))))))))))))
    have k_xSD : xSD W := by
      have r91_240 : W 91 240 = 1 * ρ 0 + 0 := by rw [hW, sU_ne (fun z => by omega), sU_ne (fun z => by omega), sU_ne (fun z => by omega), sU_ne (fun z => by omega), sU_ne (fun z => by omega), sU_ne (fun z => by omega), sU_ne (fun z => by omega), sU_at]
      have r91_241 : W 91 241 = 1 * ρ 0 + 0 := by rw [hW, sU_ne (fun z => by omega), sU_ne (fun z => by omega), sU_ne (fun z => by omega), sU_ne (fun z => by omega), sU_ne (fun z => by omega), sU_ne (fun z => by omega), sU_at]
      have r91_242 : W 91 242 = 8 * ρ 0 + 0 := by rw [hW, sU_ne (fun z => by omega), sU_ne (fun z => by omega), sU_ne (fun z => by omega), sU_ne (fun z => by omega), sU_ne (fun z => by omega), sU_at]
      have r91_243 : W 91 243 = 256 * ρ 0 + 0 := by rw [hW, sU_ne (fun z => by omega), sU_ne (fun z => by omega), sU_ne (fun z => by omega), sU_ne (fun z => by omega), sU_at]
      have r91_244 : W 91 244 = 256 * ρ 0 + (1 * ρ 1 + (-256 * ρ 6 + 0)) := by rw [hW, sU_ne (fun z => by omega), sU_at]
      have r91_245 : W 91 245 = 0 := by rw [hW, sU_ne (fun z => by omega), sU_ne (fun z => by omega), sU_ne (fun z => by omega), sU_at]
      have r91_246 : W 91 246 = 1 * ρ 1 + 0 := by rw [hW, sU_ne (fun z => by omega), sU_ne (fun z => by omega), sU_at]
      have r91_247 : W 91 247 = 256 * ρ 0 + 0 := by rw [hW, sU_at]
      intro h
      rw [r91_241, r91_242, r91_243, r91_244, r91_245, r91_246, r91_247, h0]
      refine ⟨by decide, ?_, by decide⟩
      rw [show ((256 : Int) * 1 + 0) = 256 from rfl, show (1 * ρ 1 + 0 : Int) = ρ 1 by omega, xb.2]
      omega
    have k_xSE : xSE W := by
      have r91_249 : W 91 249 = 1 * ρ 0 + 0 := by rw [hW, sU_ne (fun z => by omega), sU_ne (fun z => by omega), sU_ne (fun z => by omega), sU_ne (fun z => by omega), sU_ne (fun z => by omega), sU_ne (fun z => by omega), sU_ne (fun z => by omega), sU_ne (fun z => by omega), sU_ne (fun z => by omega), sU_ne (fun z => by omega), sU_ne (fun z => by omega), sU_ne (fun z => by omega), sU_ne (fun z => by omega), sU_ne (fun z => by omega), sU_ne (fun z => by omega), sU_at]
      have r91_250 : W 91 250 = 1 * ρ 1 + 0 := by rw [hW, sU_ne (fun z => by omega), sU_ne (fun z => by omega), sU_ne (fun z => by omega), sU_ne (fun z => by omega), sU_ne (fun z => by omega), sU_ne (fun z => by omega), sU_ne (fun z => by omega), sU_ne (fun z => by omega), sU_ne (fun z => by omega), sU_ne (fun z => by omega), sU_ne (fun z => by omega), sU_ne (fun z => by omega), sU_ne (fun z => by omega), sU_ne (fun z => by omega), sU_at]
      have r91_251 : W 91 251 = 8 * ρ 0 + 0 := by rw [hW, sU_ne (fun z => by omega), sU_ne (fun z => by omega), sU_ne (fun z => by omega), sU_ne (fun z => by omega), sU_ne (fun z => by omega), sU_ne (fun z => by omega), sU_ne (fun z => by omega), sU_ne (fun z => by omega), sU_ne (fun z => by omega), sU_ne (fun z => by omega), sU_ne (fun z => by omega), sU_ne (fun z => by omega), sU_ne (fun z => by omega), sU_at]
      have r91_252 : W 91 252 = 1 * (xop 0 (ρ 1) 8) + 0 := by rw [hW, sU_ne (fun z => by omega), sU_ne (fun z => by omega), sU_ne (fun z => by omega), sU_ne (fun z => by omega), sU_ne (fun z => by omega), sU_ne (fun z => by omega), sU_ne (fun z => by omega), sU_ne (fun z => by omega), sU_ne (fun z => by omega), sU_ne (fun z => by omega), sU_ne (fun z => by omega), sU_ne (fun z => by omega), sU_at]
      have r91_253 : W 91 253 = 1 * ρ 6 + 0 := by rw [hW, sU_ne (fun z => by omega), sU_ne (fun z => by omega), sU_ne (fun z => by omega), sU_ne (fun z => by omega), sU_ne (fun z => by omega), sU_ne (fun z => by omega), sU_ne (fun z => by omega), sU_ne (fun z => by omega), sU_ne (fun z => by omega), sU_ne (fun z => by omega), sU_ne (fun z => by omega), sU_at]
      have r91_255 : W 91 255 = 0 := by rw [hW, sU_ne (fun z => by omega), sU_ne (fun z => by omega), sU_ne (fun z => by omega), sU_ne (fun z => by omega), sU_ne (fun z => by omega), sU_ne (fun z => by omega), sU_ne (fun z => by omega), sU_ne (fun z => by omega), sU_ne (fun z => by omega), sU_ne (fun z => by omega), sU_at]
      have r91_256 : W 91 256 = 1 * (xop 1 0 256) + 0 := by rw [hW, sU_ne (fun z => by omega), sU_ne (fun z => by omega), sU_ne (fun z => by omega), sU_ne (fun z => by omega), sU_ne (fun z => by omega), sU_ne (fun z => by omega), sU_ne (fun z => by omega), sU_ne (fun z => by omega), sU_ne (fun z => by omega), sU_at]
      have r91_243 : W 91 243 = 256 * ρ 0 + 0 := by rw [hW, sU_ne (fun z => by omega), sU_ne (fun z => by omega), sU_ne (fun z => by omega), sU_ne (fun z => by omega), sU_at]
      have r91_257 : W 91 257 = 1 * (xop 1 (xop 0 (ρ 1) 8) 255) + 0 := by rw [hW, sU_ne (fun z => by omega), sU_ne (fun z => by omega), sU_ne (fun z => by omega), sU_ne (fun z => by omega), sU_ne (fun z => by omega), sU_ne (fun z => by omega), sU_ne (fun z => by omega), sU_ne (fun z => by omega), sU_at]
      intro h
      rw [r91_243, r91_250, r91_251, r91_252, r91_253, r91_255, r91_256, r91_257, h0]
      rw [show ((8 : Int) * 1 + 0) = 8 from rfl, show (1 * ρ 1 + 0 : Int) = ρ 1 by omega, show ((256 : Int) * 1 + 0) = 256 from rfl]
      refine ⟨by omega, ?_, by omega, ?_⟩
      · rw [show (1 * (xop 0 (ρ 1) 8) + 0 : Int) = xop 0 (ρ 1) 8 by omega, xb.1]
        omega
      · rw [show (1 * (xop 0 (ρ 1) 8) + 0 : Int) = xop 0 (ρ 1) 8 by omega]
        omega
    have k_xSW : xSW W := by
      rw [hW]
      exact (uxSW rfl (uxSW rfl (uxSW rfl (uxSW rfl (uxSW rfl (uxSW rfl (uxSW rfl (uxSW rfl (uxSW rfl (uxSW rfl (uxSW rfl (uxSW rfl (uxSW rfl (uxSW rfl (uxSW rfl (uxSW rfl hI.2.2.2.2.2.2.2.2.2.2.2.2.2.2.2.2.2.2.2.2.2.2.2.2.2.2.2.2.2.2.2.2.2.2.2.2.2.1))))))))))))))))
    have k_xST : xST W := by
      rw [hW]
      exact (uxST rfl (uxST rfl (uxST rfl (uxST rfl (uxST rfl (uxST rfl (uxST rfl (uxST rfl (uxST rfl (uxST rfl (uxST rfl (uxST rfl (uxST rfl (uxST rfl (uxST rfl (uxST rfl hI.2.2.2.2.2.2.2.2.2.2.2.2.2.2.2.2.2.2.2.2.2.2.2.2.2.2.2.2.2.2.2.2.2.2.2.2.2.2.1))))))))))))))))
    have k_xSP : xSP W := by
      rw [hW]
      exact (uxSP rfl (uxSP rfl (uxSP rfl (uxSP rfl (uxSP rfl (uxSP rfl (uxSP rfl (uxSP rfl (uxSP rfl (uxSP rfl (uxSP rfl (uxSP rfl (uxSP rfl (uxSP rfl (uxSP rfl (uxSP rfl hI.2.2.2.2.2.2.2.2.2.2.2.2.2.2.2.2.2.2.2.2.2.2.2.2.2.2.2.2.2.2.2.2.2.2.2.2.2.2.2.1))))))))))))))))
    have k_xSL : xSL W := by
      rw [hW]
      exact (uxSL rfl (uxSL rfl (uxSL rfl (uxSL rfl (uxSL rfl (uxSL rfl (uxSL rfl (uxSL rfl (uxSL rfl (uxSL rfl (uxSL rfl (uxSL rfl (uxSL rfl (uxSL rfl (uxSL rfl (uxSL rfl hI.2.2.2.2.2.2.2.2.2.2.2.2.2.2.2.2.2.2.2.2.2.2.2.2.2.2.2.2.2.2.2.2.2.2.2.2.2.2.2.2.1))))))))))))))))
    have k_xSM : xSM W := by
      rw [hW]
      exact (uxSM rfl (uxSM rfl (uxSM rfl (uxSM rfl (uxSM rfl (uxSM rfl (uxSM rfl (uxSM rfl (uxSM rfl (uxSM rfl (uxSM rfl (uxSM rfl (uxSM rfl (uxSM rfl (uxSM rfl (uxSM rfl hI.2.2.2.2.2.2.2.2.2.2.2.2.2.2.2.2.2.2.2.2.2.2.2.2.2.2.2.2.2.2.2.2.2.2.2.2.2.2.2.2.2.1))))))))))))))))
    have k_xSI : xSI W := by
      rw [hW]
      exact (uxSI rfl (uxSI rfl (uxSI rfl (uxSI rfl (uxSI rfl (uxSI rfl (uxSI rfl (uxSI rfl (uxSI rfl (uxSI rfl (uxSI rfl (uxSI rfl (uxSI rfl (uxSI rfl (uxSI rfl (uxSI rfl hI.2.2.2.2.2.2.2.2.2.2.2.2.2.2.2.2.2.2.2.2.2.2.2.2.2.2.2.2.2.2.2.2.2.2.2.2.2.2.2.2.2.2.1))))))))))))))))
    have k_xD3 : xD3 W := by
      rw [hW]
      exact (uxD3 rfl (uxD3 rfl (uxD3 rfl (uxD3 rfl (uxD3 rfl (uxD3 rfl (uxD3 rfl (uxD3 rfl (uxD3 rfl (uxD3 rfl (uxD3 rfl (uxD3 rfl (uxD3 rfl (uxD3 rfl (uxD3 rfl (uxD3 rfl hI.2.2.2.2.2.2.2.2.2.2.2.2.2.2.2.2.2.2.2.2.2.2.2.2.2.2.2.2.2.2.2.2.2.2.2.2.2.2.2.2.2.2.2.1))))))))))))))))
    have k_xDV : xDV W := by
      rw [hW]
      exact (uxDV rfl (uxDV rfl (uxDV rfl (uxDV rfl (uxDV rfl (uxDV rfl (uxDV rfl (uxDV rfl (uxDV rfl (uxDV rfl (uxDV rfl (uxDV rfl (uxDV rfl (uxDV rfl (uxDV rfl (uxDV rfl hI.2.2.2.2.2.2.2.2.2.2.2.2.2.2.2.2.2.2.2.2.2.2.2.2.2.2.2.2.2.2.2.2.2.2.2.2.2.2.2.2.2.2.2.2.1))))))))))))))))
    have k_xDP : xDP W := by
      rw [hW]
      exact (uxDP rfl (uxDP rfl (uxDP rfl (uxDP rfl (uxDP rfl (uxDP rfl (uxDP rfl (uxDP rfl (uxDP rfl (uxDP rfl (uxDP rfl (uxDP rfl (uxDP rfl (uxDP rfl (uxDP rfl (uxDP rfl hI.2.2.2.2.2.2.2.2.2.2.2.2.2.2.2.2.2.2.2.2.2.2.2.2.2.2.2.2.2.2.2.2.2.2.2.2.2.2.2.2.2.2.2.2.2.1))))))))))))))))
    have k_xDE : xDE W := by
      rw [hW]
      exact (uxDE rfl (uxDE rfl (uxDE rfl (uxDE rfl (uxDE rfl (uxDE rfl (uxDE rfl (uxDE rfl (uxDE rfl (uxDE rfl (uxDE rfl (uxDE rfl (uxDE rfl (uxDE rfl (uxDE rfl (uxDE rfl hI.2.2.2.2.2.2.2.2.2.2.2.2.2.2.2.2.2.2.2.2.2.2.2.2.2.2.2.2.2.2.2.2.2.2.2.2.2.2.2.2.2.2.2.2.2.2.1))))))))))))))))
    have k_xQ5 : xQ5 W := by
      rw [hW]
      exact (uxQ5 rfl (uxQ5 rfl (uxQ5 rfl (uxQ5 rfl (uxQ5 rfl (uxQ5 rfl (uxQ5 rfl (uxQ5 rfl (uxQ5 rfl (uxQ5 rfl (uxQ5 rfl (uxQ5 rfl (uxQ5 rfl (uxQ5 rfl (uxQ5 rfl (uxQ5 rfl hI.2.2.2.2.2.2.2.2.2.2.2.2.2.2.2.2.2.2.2.2.2.2.2.2.2.2.2.2.2.2.2.2.2.2.2.2.2.2.2.2.2.2.2.2.2.2.2.1))))))))))))))))
    have k_xQL : xQL W := by
      rw [hW]
      exact (uxQL rfl (uxQL rfl (uxQL rfl (uxQL rfl (uxQL rfl (uxQL rfl (uxQL rfl (uxQL rfl (uxQL rfl (uxQL rfl (uxQL rfl (uxQL rfl (uxQL rfl (uxQL rfl (uxQL rfl (uxQL rfl hI.2.2.2.2.2.2.2.2.2.2.2.2.2.2.2.2.2.2.2.2.2.2.2.2.2.2.2.2.2.2.2.2.2.2.2.2.2.2.2.2.2.2.2.2.2.2.2.2.1))))))))))))))))
    have k_xQW : xQW W := by
      rw [hW]
      exact (uxQW rfl (uxQW rfl (uxQW rfl (uxQW rfl (uxQW rfl (uxQW rfl (uxQW rfl (uxQW rfl (uxQW rfl (uxQW rfl (uxQW rfl (uxQW rfl (uxQW rfl (uxQW rfl (uxQW rfl (uxQW rfl hI.2.2.2.2.2.2.2.2.2.2.2.2.2.2.2.2.2.2.2.2.2.2.2.2.2.2.2.2.2.2.2.2.2.2.2.2.2.2.2.2.2.2.2.2.2.2.2.2.2.1))))))))))))))))
    have k_xQM : xQM W := by
      rw [hW]
      exact (uxQM rfl (uxQM rfl (uxQM rfl (uxQM rfl (uxQM rfl (uxQM rfl (uxQM rfl (uxQM rfl (uxQM rfl (uxQM rfl (uxQM rfl (uxQM rfl (uxQM rfl (uxQM rfl (uxQM rfl (uxQM rfl hI.2.2.2.2.2.2.2.2.2.2.2.2.2.2.2.2.2.2.2.2.2.2.2.2.2.2.2.2.2.2.2.2.2.2.2.2.2.2.2.2.2.2.2.2.2.2.2.2.2.2.1))))))))))))))))
    have k_xQH : xQH W := by
      rw [hW]
      exact (uxQH rfl (uxQH rfl (uxQH rfl (uxQH rfl (uxQH rfl (uxQH rfl (uxQH rfl (uxQH rfl (uxQH rfl (uxQH rfl (uxQH rfl (uxQH rfl (uxQH rfl (uxQH rfl (uxQH rfl (uxQH rfl hI.2.2.2.2.2.2.2.2.2.2.2.2.2.2.2.2.2.2.2.2.2.2.2.2.2.2.2.2.2.2.2.2.2.2.2.2.2.2.2.2.2.2.2.2.2.2.2.2.2.2.2))))))))))))))))
    have k_XC : XC W := ⟨k_xS1, k_xS2, k_xS3, k_xS4, k_xS5, k_xS6, k_xS7, k_xS8, k_xS9, k_xSA, k_xSG, k_xSF, k_xSB, k_xSC, k_xSD, k_xSE, k_xSW, k_xST, k_xSP, k_xSL, k_xSM, k_xSI, k_xD3, k_xDV, k_xDP, k_xDE, k_xQ5, k_xQL, k_xQW, k_xQM, k_xQH⟩
    have kXB : XB W := ⟨k_xN1, k_xN2, k_xN3, k_xN4, k_xN5, k_xN6, k_xH1, k_xK1, k_xC1, k_xRW, k_xWT, k_xCU, k_xG2, k_xG3, k_xG4, k_xG5, k_xG6, k_XC⟩
    exact ⟨base, k2, k3, kXA, kXB⟩
-- rt9
def xr_497 : qRu := (11, [[(1, 1), (-1, 2), (-32, 3), (-64, 4), (-128, 5), (-256, 6), (-512, 7), (-1024, 8), (-65536, 9), (-131072, 10)], [(-1, 1), (1, 2), (32, 3), (64, 4), (128, 5), (256, 6), (512, 7), (1024, 8), (65536, 9), (131072, 10)], [(1, 2)], [(31, 0), (-1, 2)], [(1, 8)], [(63, 0), (-1, 8)], [(1, 3)], [(1, 0), (-1, 3)], [(1, 4)], [(1, 0), (-1, 4)], [(1, 5)], [(1, 0), (-1, 5)], [(1, 6)], [(1, 0), (-1, 6)], [(1, 7)], [(1, 0), (-1, 7)], [(1, 9)], [(1, 0), (-1, 9)], [(1, 10)], [(1, 0), (-1, 10)]], [], [], [(91, 249, [(1, 0)]), (91, 250, [(1, 1)]), (91, 251, [(9, 0)]), (91, 252, [(1, 11)]), (91, 253, [(1, 7)]), (91, 255, []), (91, 256, [(1, 12)]), (91, 257, [(1, 13)]), (91, 240, [(1, 0)]), (91, 241, [(1, 0)]), (91, 242, [(9, 0)]), (91, 243, [(512, 0)]), (91, 245, []), (91, 246, [(1, 1)]), (91, 244, [(512, 0), (1, 1), (-512, 7)]), (91, 247, [(512, 0)])], [])
theorem xo_497 : qRok xr_497 := by
  intro ρ M h0 hf hm hI
  have f0 := hf [(1, 1), (-1, 2), (-32, 3), (-64, 4), (-128, 5), (-256, 6), (-512, 7), (-1024, 8), (-65536, 9), (-131072, 10)] (by decide)
  have f1 := hf [(-1, 1), (1, 2), (32, 3), (64, 4), (128, 5), (256, 6), (512, 7), (1024, 8), (65536, 9), (131072, 10)] (by decide)
  have f2 := hf [(1, 2)] (by decide)
  have f3 := hf [(31, 0), (-1, 2)] (by decide)
  have f4 := hf [(1, 8)] (by decide)
  have f5 := hf [(63, 0), (-1, 8)] (by decide)
  have f6 := hf [(1, 3)] (by decide)
  have f7 := hf [(1, 0), (-1, 3)] (by decide)
  have f8 := hf [(1, 4)] (by decide)
  have f9 := hf [(1, 0), (-1, 4)] (by decide)
  have f10 := hf [(1, 5)] (by decide)
  have f11 := hf [(1, 0), (-1, 5)] (by decide)
  have f12 := hf [(1, 6)] (by decide)
  have f13 := hf [(1, 0), (-1, 6)] (by decide)
  have f14 := hf [(1, 7)] (by decide)
  have f15 := hf [(1, 0), (-1, 7)] (by decide)
  have f16 := hf [(1, 9)] (by decide)
  have f17 := hf [(1, 0), (-1, 9)] (by decide)
  have f18 := hf [(1, 10)] (by decide)
  have f19 := hf [(1, 0), (-1, 10)] (by decide)
  simp only [qD, h0] at f0 f1 f2 f3 f4 f5 f6 f7 f8 f9 f10 f11 f12 f13 f14 f15 f16 f17 f18 f19
  have qxSD := hI.2.2.2.2.2.2.2.2.2.2.2.2.2.2.2.2.2.2.2.2.2.2.2.2.2.2.2.2.2.2.2.2.2.2.2.1
  have qxSE := hI.2.2.2.2.2.2.2.2.2.2.2.2.2.2.2.2.2.2.2.2.2.2.2.2.2.2.2.2.2.2.2.2.2.2.2.2.1
  have xb := xbit9 (t := ρ 1) (b := ρ 7) (h := 1 * ρ 8 + 64 * ρ 9 + 128 * ρ 10) (l := 1 * ρ 2 + 32 * ρ 3 + 64 * ρ 4 + 128 * ρ 5 + 256 * ρ 6) (by omega) (by omega) (by omega) (by omega) (by omega)
  refine ⟨fun a => cond (Nat.blt a 11) (ρ a) (([xop 0 (ρ 1) 9, xop 1 0 512, xop 1 (xop 0 (ρ 1) 9) 255] : List Int).getD (a - 11) 0), fun a ha => ?_, fun f h => ?_, ?_⟩
  · show cond (Nat.blt a 11) (ρ a) _ = ρ a
    rw [show Nat.blt a 11 = true from Nat.ble_eq_true_of_le ha]; rfl
  · exact nomatch h
  · show sI (sU (sU (sU (sU (sU (sU (sU (sU (sU (sU (sU (sU (sU (sU (sU (sU M 91 249 (1 * ρ 0 + 0)) 91 250 (1 * ρ 1 + 0)) 91 251 (9 * ρ 0 + 0)) 91 252 (1 * (xop 0 (ρ 1) 9) + 0)) 91 253 (1 * ρ 7 + 0)) 91 255 (0)) 91 256 (1 * (xop 1 0 512) + 0)) 91 257 (1 * (xop 1 (xop 0 (ρ 1) 9) 255) + 0)) 91 240 (1 * ρ 0 + 0)) 91 241 (1 * ρ 0 + 0)) 91 242 (9 * ρ 0 + 0)) 91 243 (512 * ρ 0 + 0)) 91 245 (0)) 91 246 (1 * ρ 1 + 0)) 91 244 (512 * ρ 0 + (1 * ρ 1 + (-512 * ρ 7 + 0)))) 91 247 (512 * ρ 0 + 0))
    obtain ⟨W, hW⟩ : ∃ W, W = (sU (sU (sU (sU (sU (sU (sU (sU (sU (sU (sU (sU (sU (sU (sU (sU M 91 249 (1 * ρ 0 + 0)) 91 250 (1 * ρ 1 + 0)) 91 251 (9 * ρ 0 + 0)) 91 252 (1 * (xop 0 (ρ 1) 9) + 0)) 91 253 (1 * ρ 7 + 0)) 91 255 (0)) 91 256 (1 * (xop 1 0 512) + 0)) 91 257 (1 * (xop 1 (xop 0 (ρ 1) 9) 255) + 0)) 91 240 (1 * ρ 0 + 0)) 91 241 (1 * ρ 0 + 0)) 91 242 (9 * ρ 0 + 0)) 91 243 (512 * ρ 0 + 0)) 91 245 (0)) 91 246 (1 * ρ 1 + 0)) 91 244 (512 * ρ 0 + (1 * ρ 1 + (-512 * ρ 7 + 0)))) 91 247 (512 * ρ 0 + 0)) := ⟨_, rfl⟩
    rw [← hW]
    have base : sI0 W := by
      rw [hW]
      exact (si_u0 (si_u0 (si_u0 (si_u0 (si_u0 (si_u0 (si_u0 (si_u0 (si_u0 (si_u0 (si_u0 (si_u0 (si_u0 (si_u0 (si_u0 (si_u0 hI.1 (fun r hr => by cases hr)) (fun r hr => by cases hr)) (fun r hr => by cases hr)) (fun r hr => by cases hr)) (fun r hr => by cases hr)) (fun r hr => by cases hr)) (fun r hr => by cases hr)) (fun r hr => by cases hr)) (fun r hr => by cases hr)) (fun r hr => by cases hr)) (fun r hr => by cases hr)) (fun r hr => by cases hr)) (fun r hr => by cases hr)) (fun r hr => by cases hr)) (fun r hr => by cases hr)) (fun r hr => by cases hr))
    have k2 : XI2 W := by
      rw [hW]
      exact (xi2_u rfl (xi2_u rfl (xi2_u rfl (xi2_u rfl (xi2_u rfl (xi2_u rfl (xi2_u rfl (xi2_u rfl (xi2_u rfl (xi2_u rfl (xi2_u rfl (xi2_u rfl (xi2_u rfl (xi2_u rfl (xi2_u rfl (xi2_u rfl hI.2.1))))))))))))))))
    have k3 : XI3 W := by
      rw [hW]
      exact (xi3_u rfl (xi3_u rfl (xi3_u rfl (xi3_u rfl (xi3_u rfl (xi3_u rfl (xi3_u rfl (xi3_u rfl (xi3_u rfl (xi3_u rfl (xi3_u rfl (xi3_u rfl (xi3_u rfl (xi3_u rfl (xi3_u rfl (xi3_u rfl hI.2.2.1))))))))))))))))
    have kXA : XA W := by
      rw [hW]
      exact (uXA rfl (uXA rfl (uXA rfl (uXA rfl (uXA rfl (uXA rfl (uXA rfl (uXA rfl (uXA rfl (uXA rfl (uXA rfl (uXA rfl (uXA rfl (uXA rfl (uXA rfl (uXA rfl hI.2.2.2.1))))))))))))))))
    have k_xN1 : xN1 W := by
      rw [hW]
      exact (uxN1 rfl (uxN1 rfl (uxN1 rfl (uxN1 rfl (uxN1 rfl (uxN1 rfl (uxN1 rfl (uxN1 rfl (uxN1 rfl (uxN1 rfl (uxN1 rfl (uxN1 rfl (uxN1 rfl (uxN1 rfl (uxN1 rfl (uxN1 rfl hI.2.2.2.2.1))))))))))))))))
    have k_xN2 : xN2 W := by
      rw [hW]
      exact (uxN2 rfl (uxN2 rfl (uxN2 rfl (uxN2 rfl (uxN2 rfl (uxN2 rfl (uxN2 rfl (uxN2 rfl (uxN2 rfl (uxN2 rfl (uxN2 rfl (uxN2 rfl (uxN2 rfl (uxN2 rfl (uxN2 rfl (uxN2 rfl hI.2.2.2.2.2.1))))))))))))))))
    have k_xN3 : xN3 W := by
      rw [hW]
      exact (uxN3 rfl (uxN3 rfl (uxN3 rfl (uxN3 rfl (uxN3 rfl (uxN3 rfl (uxN3 rfl (uxN3 rfl (uxN3 rfl (uxN3 rfl (uxN3 rfl (uxN3 rfl (uxN3 rfl (uxN3 rfl (uxN3 rfl (uxN3 rfl hI.2.2.2.2.2.2.1))))))))))))))))
    have k_xN4 : xN4 W := by
      rw [hW]
      exact (uxN4 rfl (uxN4 rfl (uxN4 rfl (uxN4 rfl (uxN4 rfl (uxN4 rfl (uxN4 rfl (uxN4 rfl (uxN4 rfl (uxN4 rfl (uxN4 rfl (uxN4 rfl (uxN4 rfl (uxN4 rfl (uxN4 rfl (uxN4 rfl hI.2.2.2.2.2.2.2.1))))))))))))))))
    have k_xN5 : xN5 W := by
      rw [hW]
      exact (uxN5 rfl (uxN5 rfl (uxN5 rfl (uxN5 rfl (uxN5 rfl (uxN5 rfl (uxN5 rfl (uxN5 rfl (uxN5 rfl (uxN5 rfl (uxN5 rfl (uxN5 rfl (uxN5 rfl (uxN5 rfl (uxN5 rfl (uxN5 rfl hI.2.2.2.2.2.2.2.2.1))))))))))))))))
    have k_xN6 : xN6 W := by
      rw [hW]
      exact (uxN6 rfl (uxN6 rfl (uxN6 rfl (uxN6 rfl (uxN6 rfl (uxN6 rfl (uxN6 rfl (uxN6 rfl (uxN6 rfl (uxN6 rfl (uxN6 rfl (uxN6 rfl (uxN6 rfl (uxN6 rfl (uxN6 rfl (uxN6 rfl hI.2.2.2.2.2.2.2.2.2.1))))))))))))))))
    have k_xH1 : xH1 W := by
      rw [hW]
      exact (uxH1 rfl (uxH1 rfl (uxH1 rfl (uxH1 rfl (uxH1 rfl (uxH1 rfl (uxH1 rfl (uxH1 rfl (uxH1 rfl (uxH1 rfl (uxH1 rfl (uxH1 rfl (uxH1 rfl (uxH1 rfl (uxH1 rfl (uxH1 rfl hI.2.2.2.2.2.2.2.2.2.2.1))))))))))))))))
    have k_xK1 : xK1 W := by
      rw [hW]
      exact (uxK1 rfl (uxK1 rfl (uxK1 rfl (uxK1 rfl (uxK1 rfl (uxK1 rfl (uxK1 rfl (uxK1 rfl (uxK1 rfl (uxK1 rfl (uxK1 rfl (uxK1 rfl (uxK1 rfl (uxK1 rfl (uxK1 rfl (uxK1 rfl hI.2.2.2.2.2.2.2.2.2.2.2.1))))))))))))))))
    have k_xC1 : xC1 W := by
      rw [hW]
      exact (uxC1 rfl (uxC1 rfl (uxC1 rfl (uxC1 rfl (uxC1 rfl (uxC1 rfl (uxC1 rfl (uxC1 rfl (uxC1 rfl (uxC1 rfl (uxC1 rfl (uxC1 rfl (uxC1 rfl (uxC1 rfl (uxC1 rfl (uxC1 rfl hI.2.2.2.2.2.2.2.2.2.2.2.2.1))))))))))))))))
    have k_xRW : xRW W := by
      rw [hW]
      exact (uxRW rfl (uxRW rfl (uxRW rfl (uxRW rfl (uxRW rfl (uxRW rfl (uxRW rfl (uxRW rfl (uxRW rfl (uxRW rfl (uxRW rfl (uxRW rfl (uxRW rfl (uxRW rfl (uxRW rfl (uxRW rfl hI.2.2.2.2.2.2.2.2.2.2.2.2.2.1))))))))))))))))
    have k_xWT : xWT W := by
      rw [hW]
      exact (uxWT rfl (uxWT rfl (uxWT rfl (uxWT rfl (uxWT rfl (uxWT rfl (uxWT rfl (uxWT rfl (uxWT rfl (uxWT rfl (uxWT rfl (uxWT rfl (uxWT rfl (uxWT rfl (uxWT rfl (uxWT rfl hI.2.2.2.2.2.2.2.2.2.2.2.2.2.2.1))))))))))))))))
    have k_xCU : xCU W := by
      rw [hW]
      exact (uxCU rfl (uxCU rfl (uxCU rfl (uxCU rfl (uxCU rfl (uxCU rfl (uxCU rfl (uxCU rfl (uxCU rfl (uxCU rfl (uxCU rfl (uxCU rfl (uxCU rfl (uxCU rfl (uxCU rfl (uxCU rfl hI.2.2.2.2.2.2.2.2.2.2.2.2.2.2.2.1))))))))))))))))
    have k_xG2 : xG2 W := by
      rw [hW]
      exact (uxG2 rfl (uxG2 rfl (uxG2 rfl (uxG2 rfl (uxG2 rfl (uxG2 rfl (uxG2 rfl (uxG2 rfl (uxG2 rfl (uxG2 rfl (uxG2 rfl (uxG2 rfl (uxG2 rfl (uxG2 rfl (uxG2 rfl (uxG2 rfl hI.2.2.2.2.2.2.2.2.2.2.2.2.2.2.2.2.1))))))))))))))))
    have k_xG3 : xG3 W := by
      rw [hW]
      exact (uxG3 rfl (uxG3 rfl (uxG3 rfl (uxG3 rfl (uxG3 rfl (uxG3 rfl (uxG3 rfl (uxG3 rfl (uxG3 rfl (uxG3 rfl (uxG3 rfl (uxG3 rfl (uxG3 rfl (uxG3 rfl (uxG3 rfl (uxG3 rfl hI.2.2.2.2.2.2.2.2.2.2.2.2.2.2.2.2.2.1))))))))))))))))
    have k_xG4 : xG4 W := by
      rw [hW]
      exact (uxG4 rfl (uxG4 rfl (uxG4 rfl (uxG4 rfl (uxG4 rfl (uxG4 rfl (uxG4 rfl (uxG4 rfl (uxG4 rfl (uxG4 rfl (uxG4 rfl (uxG4 rfl (uxG4 rfl (uxG4 rfl (uxG4 rfl (uxG4 rfl hI.2.2.2.2.2.2.2.2.2.2.2.2.2.2.2.2.2.2.1))))))))))))))))
    have k_xG5 : xG5 W := by
      rw [hW]
      exact (uxG5 rfl (uxG5 rfl (uxG5 rfl (uxG5 rfl (uxG5 rfl (uxG5 rfl (uxG5 rfl (uxG5 rfl (uxG5 rfl (uxG5 rfl (uxG5 rfl (uxG5 rfl (uxG5 rfl (uxG5 rfl (uxG5 rfl (uxG5 rfl hI.2.2.2.2.2.2.2.2.2.2.2.2.2.2.2.2.2.2.2.1))))))))))))))))
    have k_xG6 : xG6 W := by
      rw [hW]
      exact (uxG6 rfl (uxG6 rfl (uxG6 rfl (uxG6 rfl (uxG6 rfl (uxG6 rfl (uxG6 rfl (uxG6 rfl (uxG6 rfl (uxG6 rfl (uxG6 rfl (uxG6 rfl (uxG6 rfl (uxG6 rfl (uxG6 rfl (uxG6 rfl hI.2.2.2.2.2.2.2.2.2.2.2.2.2.2.2.2.2.2.2.2.1))))))))))))))))
    have k_xS1 : xS1 W := by
      rw [hW]
      exact (uxS1 rfl (uxS1 rfl (uxS1 rfl (uxS1 rfl (uxS1 rfl (uxS1 rfl (uxS1 rfl (uxS1 rfl (uxS1 rfl (uxS1 rfl (uxS1 rfl (uxS1 rfl (uxS1 rfl (uxS1 rfl (uxS1 rfl (uxS1 rfl hI.2.2.2.2.2.2.2.2.2.2.2.2.2.2.2.2.2.2.2.2.2.1))))))))))))))))
    have k_xS2 : xS2 W := by
      rw [hW]
      exact (uxS2 rfl (uxS2 rfl (uxS2 rfl (uxS2 rfl (uxS2 rfl (uxS2 rfl (uxS2 rfl (uxS2 rfl (uxS2 rfl (uxS2 rfl (uxS2 rfl (uxS2 rfl (uxS2 rfl (uxS2 rfl (uxS2 rfl (uxS2 rfl hI.2.2.2.2.2.2.2.2.2.2.2.2.2.2.2.2.2.2.2.2.2.2.1))))))))))))))))
    have k_xS3 : xS3 W := by
      rw [hW]
      exact (uxS3 rfl (uxS3 rfl (uxS3 rfl (uxS3 rfl (uxS3 rfl (uxS3 rfl (uxS3 rfl (uxS3 rfl (uxS3 rfl (uxS3 rfl (uxS3 rfl (uxS3 rfl (uxS3 rfl (uxS3 rfl (uxS3 rfl (uxS3 rfl hI.2.2.2.2.2.2.2.2.2.2.2.2.2.2.2.2.2.2.2.2.2.2.2.1))))))))))))))))
    have k_xS4 : xS4 W := by
      rw [hW]
      exact (uxS4 rfl (uxS4 rfl (uxS4 rfl (uxS4 rfl (uxS4 rfl (uxS4 rfl (uxS4 rfl (uxS4 rfl (uxS4 rfl (uxS4 rfl (uxS4 rfl (uxS4 rfl (uxS4 rfl (uxS4 rfl (uxS4 rfl (uxS4 rfl hI.2.2.2.2.2.2.2.2.2.2.2.2.2.2.2.2.2.2.2.2.2.2.2.2.1))))))))))))))))
    have k_xS5 : xS5 W := by
      rw [hW]
      exact (uxS5 rfl (uxS5 rfl (uxS5 rfl (uxS5 rfl (uxS5 rfl (uxS5 rfl (uxS5 rfl (uxS5 rfl (uxS5 rfl (uxS5 rfl (uxS5 rfl (uxS5 rfl (uxS5 rfl (uxS5 rfl (uxS5 rfl (uxS5 rfl hI.2.2.2.2.2.2.2.2.2.2.2.2.2.2.2.2.2.2.2.2.2.2.2.2.2.1))))))))))))))))
    have k_xS6 : xS6 W := by
      rw [hW]
      exact (uxS6 rfl (uxS6 rfl (uxS6 rfl (uxS6 rfl (uxS6 rfl (uxS6 rfl (uxS6 rfl (uxS6 rfl (uxS6 rfl (uxS6 rfl (uxS6 rfl (uxS6 rfl (uxS6 rfl (uxS6 rfl (uxS6 rfl (uxS6 rfl hI.2.2.2.2.2.2.2.2.2.2.2.2.2.2.2.2.2.2.2.2.2.2.2.2.2.2.1))))))))))))))))
    have k_xS7 : xS7 W := by
      rw [hW]
      exact (uxS7 rfl (uxS7 rfl (uxS7 rfl (uxS7 rfl (uxS7 rfl (uxS7 rfl (uxS7 rfl (uxS7 rfl (uxS7 rfl (uxS7 rfl (uxS7 rfl (uxS7 rfl (uxS7 rfl (uxS7 rfl (uxS7 rfl (uxS7 rfl hI.2.2.2.2.2.2.2.2.2.2.2.2.2.2.2.2.2.2.2.2.2.2.2.2.2.2.2.1))))))))))))))))
    have k_xS8 : xS8 W := by
      rw [hW]
      exact (uxS8 rfl (uxS8 rfl (uxS8 rfl (uxS8 rfl (uxS8 rfl (uxS8 rfl (uxS8 rfl (uxS8 rfl (uxS8 rfl (uxS8 rfl (uxS8 rfl (uxS8 rfl (uxS8 rfl (uxS8 rfl (uxS8 rfl (uxS8 rfl hI.2.2.2.2.2.2.2.2.2.2.2.2.2.2.2.2.2.2.2.2.2.2.2.2.2.2.2.2.1))))))))))))))))
    have k_xS9 : xS9 W := by
      rw [hW]
      exact (uxS9 rfl (uxS9 rfl (uxS9 rfl (uxS9 rfl (uxS9 rfl (uxS9 rfl (uxS9 rfl (uxS9 rfl (uxS9 rfl (uxS9 rfl (uxS9 rfl (uxS9 rfl (uxS9 rfl (uxS9 rfl (uxS9 rfl (uxS9 rfl hI.2.2.2.2.2.2.2.2.2.2.2.2.2.2.2.2.2.2.2.2.2.2.2.2.2.2.2.2.2.1))))))))))))))))
    have k_xSA : xSA W := by
      rw [hW]
      exact (uxSA rfl (uxSA rfl (uxSA rfl (uxSA rfl (uxSA rfl (uxSA rfl (uxSA rfl (uxSA rfl (uxSA rfl (uxSA rfl (uxSA rfl (uxSA rfl (uxSA rfl (uxSA rfl (uxSA rfl (uxSA rfl hI.2.2.2.2.2.2.2.2.2.2.2.2.2.2.2.2.2.2.2.2.2.2.2.2.2.2.2.2.2.2.1))))))))))))))))
    have k_xSG : xSG W := by
      rw [hW]
      exact (uxSG rfl (uxSG rfl (uxSG rfl (uxSG rfl (uxSG rfl (uxSG rfl (uxSG rfl (uxSG rfl (uxSG rfl (uxSG rfl (uxSG rfl (uxSG rfl (uxSG rfl (uxSG rfl (uxSG rfl (uxSG rfl hI.2.2.2.2.2.2.2.2.2.2.2.2.2.2.2.2.2.2.2.2.2.2.2.2.2.2.2.2.2.2.2.1))))))))))))))))
    have k_xSF : xSF W := by
      rw [hW]
      exact (uxSF rfl (uxSF rfl (uxSF rfl (uxSF rfl (uxSF rfl (uxSF rfl (uxSF rfl (uxSF rfl (uxSF rfl (uxSF rfl (uxSF rfl (uxSF rfl (uxSF rfl (uxSF rfl (uxSF rfl (uxSF rfl hI.2.2.2.2.2.2.2.2.2.2.2.2.2.2.2.2.2.2.2.2.2.2.2.2.2.2.2.2.2.2.2.2.1))))))))))))))))
    have k_xSB : xSB W := by
      rw [hW]
      exact (uxSB rfl (uxSB rfl (uxSB rfl (uxSB rfl (uxSB rfl (uxSB rfl (uxSB rfl (uxSB rfl (uxSB rfl (uxSB rfl (uxSB rfl (uxSB rfl (uxSB rfl (uxSB rfl (uxSB rfl (uxSB rfl hI.2.2.2.2.2.2.2.2.2.2.2.2.2.2.2.2.2.2.2.2.2.2.2.2.2.2.2.2.2.2.2.2.2.1))))))))))))))))
    have k_xSC : xSC W := by
      rw [hW]
      exact (uxSC rfl (uxSC rfl (uxSC rfl (uxSC rfl (uxSC rfl (uxSC rfl (uxSC rfl (uxSC rfl (uxSC rfl (uxSC rfl (uxSC rfl (uxSC rfl (uxSC rfl (uxSC rfl (uxSC rfl (uxSC rfl hI.2.2.2.2.2.2.2.2.2.2.2.2.2.2.2.2.2.2.2.2.2.2.2.2.2.2.2.2.2.2.2.2.2.2.1))))))))))))))))
    have k_xSD : xSD W := by
      have r91_240 : W 91 240 = 1 * ρ 0 + 0 := by rw [hW, sU_ne (fun z => by omega), sU_ne (fun z => by omega), sU_ne (fun z => by omega), sU_ne (fun z => by omega), sU_ne (fun z => by omega), sU_ne (fun z => by omega), sU_ne (fun z => by omega), sU_at]
      have r91_241 : W 91 241 = 1 * ρ 0 + 0 := by rw [hW, sU_ne (fun z => by omega), sU_ne (fun z => by omega), sU_ne (fun z => by omega), sU_ne (fun z => by omega), sU_ne (fun z => by omega), sU_ne (fun z => by omega), sU_at]
      have r91_242 : W 91 242 = 9 * ρ 0 + 0 := by rw [hW, sU_ne (fun z => by omega), sU_ne (fun z => by omega), sU_ne (fun z => by omega), sU_ne (fun z => by omega), sU_ne (fun z => by omega), sU_at]
      have r91_243 : W 91 243 = 512 * ρ 0 + 0 := by rw [hW, sU_ne (fun z => by omega), sU_ne (fun z => by omega), sU_ne (fun z => by omega), sU_ne (fun z => by omega), sU_at]
      have r91_244 : W 91 244 = 512 * ρ 0 + (1 * ρ 1 + (-512 * ρ 7 + 0)) := by rw [hW, sU_ne (fun z => by omega), sU_at]
      have r91_245 : W 91 245 = 0 := by rw [hW, sU_ne (fun z => by omega), sU_ne (fun z => by omega), sU_ne (fun z => by omega), sU_at]
      have r91_246 : W 91 246 = 1 * ρ 1 + 0 := by rw [hW, sU_ne (fun z => by omega), sU_ne (fun z => by omega), sU_at]
      have r91_247 : W 91 247 = 512 * ρ 0 + 0 := by rw [hW, sU_at]
      intro h
      rw [r91_241, r91_242, r91_243, r91_244, r91_245, r91_246, r91_247, h0]
      refine ⟨by decide, ?_, by decide⟩
      rw [show ((512 : Int) * 1 + 0) = 512 from rfl, show (1 * ρ 1 + 0 : Int) = ρ 1 by omega, xb.2]
      omega
    have k_xSE : xSE W := by
      have r91_249 : W 91 249 = 1 * ρ 0 + 0 := by rw [hW, sU_ne (fun z => by omega), sU_ne (fun z => by omega), sU_ne (fun z => by omega), sU_ne (fun z => by omega), sU_ne (fun z => by omega), sU_ne (fun z => by omega), sU_ne (fun z => by omega), sU_ne (fun z => by omega), sU_ne (fun z => by omega), sU_ne (fun z => by omega), sU_ne (fun z => by omega), sU_ne (fun z => by omega), sU_ne (fun z => by omega), sU_ne (fun z => by omega), sU_ne (fun z => by omega), sU_at]
      have r91_250 : W 91 250 = 1 * ρ 1 + 0 := by rw [hW, sU_ne (fun z => by omega), sU_ne (fun z => by omega), sU_ne (fun z => by omega), sU_ne (fun z => by omega), sU_ne (fun z => by omega), sU_ne (fun z => by omega), sU_ne (fun z => by omega), sU_ne (fun z => by omega), sU_ne (fun z => by omega), sU_ne (fun z => by omega), sU_ne (fun z => by omega), sU_ne (fun z => by omega), sU_ne (fun z => by omega), sU_ne (fun z => by omega), sU_at]
      have r91_251 : W 91 251 = 9 * ρ 0 + 0 := by rw [hW, sU_ne (fun z => by omega), sU_ne (fun z => by omega), sU_ne (fun z => by omega), sU_ne (fun z => by omega), sU_ne (fun z => by omega), sU_ne (fun z => by omega), sU_ne (fun z => by omega), sU_ne (fun z => by omega), sU_ne (fun z => by omega), sU_ne (fun z => by omega), sU_ne (fun z => by omega), sU_ne (fun z => by omega), sU_ne (fun z => by omega), sU_at]
      have r91_252 : W 91 252 = 1 * (xop 0 (ρ 1) 9) + 0 := by rw [hW, sU_ne (fun z => by omega), sU_ne (fun z => by omega), sU_ne (fun z => by omega), sU_ne (fun z => by omega), sU_ne (fun z => by omega), sU_ne (fun z => by omega), sU_ne (fun z => by omega), sU_ne (fun z => by omega), sU_ne (fun z => by omega), sU_ne (fun z => by omega), sU_ne (fun z => by omega), sU_ne (fun z => by omega), sU_at]
      have r91_253 : W 91 253 = 1 * ρ 7 + 0 := by rw [hW, sU_ne (fun z => by omega), sU_ne (fun z => by omega), sU_ne (fun z => by omega), sU_ne (fun z => by omega), sU_ne (fun z => by omega), sU_ne (fun z => by omega), sU_ne (fun z => by omega), sU_ne (fun z => by omega), sU_ne (fun z => by omega), sU_ne (fun z => by omega), sU_ne (fun z => by omega), sU_at]
      have r91_255 : W 91 255 = 0 := by rw [hW, sU_ne (fun z => by omega), sU_ne (fun z => by omega), sU_ne (fun z => by omega), sU_ne (fun z => by omega), sU_ne (fun z => by omega), sU_ne (fun z => by omega), sU_ne (fun z => by omega), sU_ne (fun z => by omega), sU_ne (fun z => by omega), sU_ne (fun z => by omega), sU_at]
      have r91_256 : W 91 256 = 1 * (xop 1 0 512) + 0 := by rw [hW, sU_ne (fun z => by omega), sU_ne (fun z => by omega), sU_ne (fun z => by omega), sU_ne (fun z => by omega), sU_ne (fun z => by omega), sU_ne (fun z => by omega), sU_ne (fun z => by omega), sU_ne (fun z => by omega), sU_ne (fun z => by omega), sU_at]
      have r91_243 : W 91 243 = 512 * ρ 0 + 0 := by rw [hW, sU_ne (fun z => by omega), sU_ne (fun z => by omega), sU_ne (fun z => by omega), sU_ne (fun z => by omega), sU_at]
      have r91_257 : W 91 257 = 1 * (xop 1 (xop 0 (ρ 1) 9) 255) + 0 := by rw [hW, sU_ne (fun z => by omega), sU_ne (fun z => by omega), sU_ne (fun z => by omega), sU_ne (fun z => by omega), sU_ne (fun z => by omega), sU_ne (fun z => by omega), sU_ne (fun z => by omega), sU_ne (fun z => by omega), sU_at]
      intro h
      rw [r91_243, r91_250, r91_251, r91_252, r91_253, r91_255, r91_256, r91_257, h0]
      rw [show ((9 : Int) * 1 + 0) = 9 from rfl, show (1 * ρ 1 + 0 : Int) = ρ 1 by omega, show ((512 : Int) * 1 + 0) = 512 from rfl]
      refine ⟨by omega, ?_, by omega, ?_⟩
      · rw [show (1 * (xop 0 (ρ 1) 9) + 0 : Int) = xop 0 (ρ 1) 9 by omega, xb.1]
        omega
      · rw [show (1 * (xop 0 (ρ 1) 9) + 0 : Int) = xop 0 (ρ 1) 9 by omega]
        omega
    have k_xSW : xSW W := by
      rw [hW]
      exact (uxSW rfl (uxSW rfl (uxSW rfl (uxSW rfl (uxSW rfl (uxSW rfl (uxSW rfl (uxSW rfl (uxSW rfl (uxSW rfl (uxSW rfl (uxSW rfl (uxSW rfl (uxSW rfl (uxSW rfl (uxSW rfl hI.2.2.2.2.2.2.2.2.2.2.2.2.2.2.2.2.2.2.2.2.2.2.2.2.2.2.2.2.2.2.2.2.2.2.2.2.2.1))))))))))))))))
    have k_xST : xST W := by
      rw [hW]
      exact (uxST rfl (uxST rfl (uxST rfl (uxST rfl (uxST rfl (uxST rfl (uxST rfl (uxST rfl (uxST rfl (uxST rfl (uxST rfl (uxST rfl (uxST rfl (uxST rfl (uxST rfl (uxST rfl hI.2.2.2.2.2.2.2.2.2.2.2.2.2.2.2.2.2.2.2.2.2.2.2.2.2.2.2.2.2.2.2.2.2.2.2.2.2.2.1))))))))))))))))
    have k_xSP : xSP W := by
      rw [hW]
      exact (uxSP rfl (uxSP rfl (uxSP rfl (uxSP rfl (uxSP rfl (uxSP rfl (uxSP rfl (uxSP rfl (uxSP rfl (uxSP rfl (uxSP rfl (uxSP rfl (uxSP rfl (uxSP rfl (uxSP rfl (uxSP rfl hI.2.2.2.2.2.2.2.2.2.2.2.2.2.2.2.2.2.2.2.2.2.2.2.2.2.2.2.2.2.2.2.2.2.2.2.2.2.2.2.1))))))))))))))))
    have k_xSL : xSL W := by
      rw [hW]
      exact (uxSL rfl (uxSL rfl (uxSL rfl (uxSL rfl (uxSL rfl (uxSL rfl (uxSL rfl (uxSL rfl (uxSL rfl (uxSL rfl (uxSL rfl (uxSL rfl (uxSL rfl (uxSL rfl (uxSL rfl (uxSL rfl hI.2.2.2.2.2.2.2.2.2.2.2.2.2.2.2.2.2.2.2.2.2.2.2.2.2.2.2.2.2.2.2.2.2.2.2.2.2.2.2.2.1))))))))))))))))
    have k_xSM : xSM W := by
      rw [hW]
      exact (uxSM rfl (uxSM rfl (uxSM rfl (uxSM rfl (uxSM rfl (uxSM rfl (uxSM rfl (uxSM rfl (uxSM rfl (uxSM rfl (uxSM rfl (uxSM rfl (uxSM rfl (uxSM rfl (uxSM rfl (uxSM rfl hI.2.2.2.2.2.2.2.2.2.2.2.2.2.2.2.2.2.2.2.2.2.2.2.2.2.2.2.2.2.2.2.2.2.2.2.2.2.2.2.2.2.1))))))))))))))))
    have k_xSI : xSI W := by
      rw [hW]
      exact (uxSI rfl (uxSI rfl (uxSI rfl (uxSI rfl (uxSI rfl (uxSI rfl (uxSI rfl (uxSI rfl (uxSI rfl (uxSI rfl (uxSI rfl (uxSI rfl (uxSI rfl (uxSI rfl (uxSI rfl (uxSI rfl hI.2.2.2.2.2.2.2.2.2.2.2.2.2.2.2.2.2.2.2.2.2.2.2.2.2.2.2.2.2.2.2.2.2.2.2.2.2.2.2.2.2.2.1))))))))))))))))
    have k_xD3 : xD3 W := by
      rw [hW]
      exact (uxD3 rfl (uxD3 rfl (uxD3 rfl (uxD3 rfl (uxD3 rfl (uxD3 rfl (uxD3 rfl (uxD3 rfl (uxD3 rfl (uxD3 rfl (uxD3 rfl (uxD3 rfl (uxD3 rfl (uxD3 rfl (uxD3 rfl (uxD3 rfl hI.2.2.2.2.2.2.2.2.2.2.2.2.2.2.2.2.2.2.2.2.2.2.2.2.2.2.2.2.2.2.2.2.2.2.2.2.2.2.2.2.2.2.2.1))))))))))))))))
    have k_xDV : xDV W := by
      rw [hW]
      exact (uxDV rfl (uxDV rfl (uxDV rfl (uxDV rfl (uxDV rfl (uxDV rfl (uxDV rfl (uxDV rfl (uxDV rfl (uxDV rfl (uxDV rfl (uxDV rfl (uxDV rfl (uxDV rfl (uxDV rfl (uxDV rfl hI.2.2.2.2.2.2.2.2.2.2.2.2.2.2.2.2.2.2.2.2.2.2.2.2.2.2.2.2.2.2.2.2.2.2.2.2.2.2.2.2.2.2.2.2.1))))))))))))))))
    have k_xDP : xDP W := by
      rw [hW]
      exact (uxDP rfl (uxDP rfl (uxDP rfl (uxDP rfl (uxDP rfl (uxDP rfl (uxDP rfl (uxDP rfl (uxDP rfl (uxDP rfl (uxDP rfl (uxDP rfl (uxDP rfl (uxDP rfl (uxDP rfl (uxDP rfl hI.2.2.2.2.2.2.2.2.2.2.2.2.2.2.2.2.2.2.2.2.2.2.2.2.2.2.2.2.2.2.2.2.2.2.2.2.2.2.2.2.2.2.2.2.2.1))))))))))))))))
    have k_xDE : xDE W := by
      rw [hW]
      exact (uxDE rfl (uxDE rfl (uxDE rfl (uxDE rfl (uxDE rfl (uxDE rfl (uxDE rfl (uxDE rfl (uxDE rfl (uxDE rfl (uxDE rfl (uxDE rfl (uxDE rfl (uxDE rfl (uxDE rfl (uxDE rfl hI.2.2.2.2.2.2.2.2.2.2.2.2.2.2.2.2.2.2.2.2.2.2.2.2.2.2.2.2.2.2.2.2.2.2.2.2.2.2.2.2.2.2.2.2.2.2.1))))))))))))))))
    have k_xQ5 : xQ5 W := by
      rw [hW]
      exact (uxQ5 rfl (uxQ5 rfl (uxQ5 rfl (uxQ5 rfl (uxQ5 rfl (uxQ5 rfl (uxQ5 rfl (uxQ5 rfl (uxQ5 rfl (uxQ5 rfl (uxQ5 rfl (uxQ5 rfl (uxQ5 rfl (uxQ5 rfl (uxQ5 rfl (uxQ5 rfl hI.2.2.2.2.2.2.2.2.2.2.2.2.2.2.2.2.2.2.2.2.2.2.2.2.2.2.2.2.2.2.2.2.2.2.2.2.2.2.2.2.2.2.2.2.2.2.2.1))))))))))))))))
    have k_xQL : xQL W := by
      rw [hW]
      exact (uxQL rfl (uxQL rfl (uxQL rfl (uxQL rfl (uxQL rfl (uxQL rfl (uxQL rfl (uxQL rfl (uxQL rfl (uxQL rfl (uxQL rfl (uxQL rfl (uxQL rfl (uxQL rfl (uxQL rfl (uxQL rfl hI.2.2.2.2.2.2.2.2.2.2.2.2.2.2.2.2.2.2.2.2.2.2.2.2.2.2.2.2.2.2.2.2.2.2.2.2.2.2.2.2.2.2.2.2.2.2.2.2.1))))))))))))))))
    have k_xQW : xQW W := by
      rw [hW]
      exact (uxQW rfl (uxQW rfl (uxQW rfl (uxQW rfl (uxQW rfl (uxQW rfl (uxQW rfl (uxQW rfl (uxQW rfl (uxQW rfl (uxQW rfl (uxQW rfl (uxQW rfl (uxQW rfl (uxQW rfl (uxQW rfl hI.2.2.2.2.2.2.2.2.2.2.2.2.2.2.2.2.2.2.2.2.2.2.2.2.2.2.2.2.2.2.2.2.2.2.2.2.2.2.2.2.2.2.2.2.2.2.2.2.2.1))))))))))))))))
    have k_xQM : xQM W := by
      rw [hW]
      exact (uxQM rfl (uxQM rfl (uxQM rfl (uxQM rfl (uxQM rfl (uxQM rfl (uxQM rfl (uxQM rfl (uxQM rfl (uxQM rfl (uxQM rfl (uxQM rfl (uxQM rfl (uxQM rfl (uxQM rfl (uxQM rfl hI.2.2.2.2.2.2.2.2.2.2.2.2.2.2.2.2.2.2.2.2.2.2.2.2.2.2.2.2.2.2.2.2.2.2.2.2.2.2.2.2.2.2.2.2.2.2.2.2.2.2.1))))))))))))))))
    have k_xQH : xQH W := by
      rw [hW]
      exact (uxQH rfl (uxQH rfl (uxQH rfl (uxQH rfl (uxQH rfl (uxQH rfl (uxQH rfl (uxQH rfl (uxQH rfl (uxQH rfl (uxQH rfl (uxQH rfl (uxQH rfl (uxQH rfl (uxQH rfl (uxQH rfl hI.2.2.2.2.2.2.2.2.2.2.2.2.2.2.2.2.2.2.2.2.2.2.2.2.2.2.2.2.2.2.2.2.2.2.2.2.2.2.2.2.2.2.2.2.2.2.2.2.2.2.2))))))))))))))))
    have k_XC : XC W := ⟨k_xS1, k_xS2, k_xS3, k_xS4, k_xS5, k_xS6, k_xS7, k_xS8, k_xS9, k_xSA, k_xSG, k_xSF, k_xSB, k_xSC, k_xSD, k_xSE, k_xSW, k_xST, k_xSP, k_xSL, k_xSM, k_xSI, k_xD3, k_xDV, k_xDP, k_xDE, k_xQ5, k_xQL, k_xQW, k_xQM, k_xQH⟩
    have kXB : XB W := ⟨k_xN1, k_xN2, k_xN3, k_xN4, k_xN5, k_xN6, k_xH1, k_xK1, k_xC1, k_xRW, k_xWT, k_xCU, k_xG2, k_xG3, k_xG4, k_xG5, k_xG6, k_XC⟩
    exact ⟨base, k2, k3, kXA, kXB⟩
-- rt16
def xr_498 : qRu := (11, [[(1, 1), (-1, 2), (-32, 3), (-64, 4), (-128, 5), (-256, 6), (-512, 7), (-1024, 8), (-65536, 9), (-131072, 10)], [(-1, 1), (1, 2), (32, 3), (64, 4), (128, 5), (256, 6), (512, 7), (1024, 8), (65536, 9), (131072, 10)], [(1, 2)], [(31, 0), (-1, 2)], [(1, 8)], [(63, 0), (-1, 8)], [(1, 3)], [(1, 0), (-1, 3)], [(1, 4)], [(1, 0), (-1, 4)], [(1, 5)], [(1, 0), (-1, 5)], [(1, 6)], [(1, 0), (-1, 6)], [(1, 7)], [(1, 0), (-1, 7)], [(1, 9)], [(1, 0), (-1, 9)], [(1, 10)], [(1, 0), (-1, 10)]], [], [], [(91, 249, [(1, 0)]), (91, 250, [(1, 1)]), (91, 251, [(16, 0)]), (91, 252, [(1, 11)]), (91, 253, [(1, 9)]), (91, 255, []), (91, 256, [(1, 12)]), (91, 257, [(1, 13)]), (91, 240, [(1, 0)]), (91, 241, [(1, 0)]), (91, 242, [(16, 0)]), (91, 243, [(65536, 0)]), (91, 245, []), (91, 246, [(1, 1)]), (91, 244, [(65536, 0), (1, 1), (-65536, 9)]), (91, 247, [(65536, 0)])], [])
theorem xo_498 : qRok xr_498 := by
  intro ρ M h0 hf hm hI
  have f0 := hf [(1, 1), (-1, 2), (-32, 3), (-64, 4), (-128, 5), (-256, 6), (-512, 7), (-1024, 8), (-65536, 9), (-131072, 10)] (by decide)
  have f1 := hf [(-1, 1), (1, 2), (32, 3), (64, 4), (128, 5), (256, 6), (512, 7), (1024, 8), (65536, 9), (131072, 10)] (by decide)
  have f2 := hf [(1, 2)] (by decide)
  have f3 := hf [(31, 0), (-1, 2)] (by decide)
  have f4 := hf [(1, 8)] (by decide)
  have f5 := hf [(63, 0), (-1, 8)] (by decide)
  have f6 := hf [(1, 3)] (by decide)
  have f7 := hf [(1, 0), (-1, 3)] (by decide)
  have f8 := hf [(1, 4)] (by decide)
  have f9 := hf [(1, 0), (-1, 4)] (by decide)
  have f10 := hf [(1, 5)] (by decide)
  have f11 := hf [(1, 0), (-1, 5)] (by decide)
  have f12 := hf [(1, 6)] (by decide)
  have f13 := hf [(1, 0), (-1, 6)] (by decide)
  have f14 := hf [(1, 7)] (by decide)
  have f15 := hf [(1, 0), (-1, 7)] (by decide)
  have f16 := hf [(1, 9)] (by decide)
  have f17 := hf [(1, 0), (-1, 9)] (by decide)
  have f18 := hf [(1, 10)] (by decide)
  have f19 := hf [(1, 0), (-1, 10)] (by decide)
  simp only [qD, h0] at f0 f1 f2 f3 f4 f5 f6 f7 f8 f9 f10 f11 f12 f13 f14 f15 f16 f17 f18 f19
  have qxSD := hI.2.2.2.2.2.2.2.2.2.2.2.2.2.2.2.2.2.2.2.2.2.2.2.2.2.2.2.2.2.2.2.2.2.2.2.1
  have qxSE := hI.2.2.2.2.2.2.2.2.2.2.2.2.2.2.2.2.2.2.2.2.2.2.2.2.2.2.2.2.2.2.2.2.2.2.2.2.1
  have xb := xbit16 (t := ρ 1) (b := ρ 9) (h := 1 * ρ 10) (l := 1 * ρ 2 + 32 * ρ 3 + 64 * ρ 4 + 128 * ρ 5 + 256 * ρ 6 + 512 * ρ 7 + 1024 * ρ 8) (by omega) (by omega) (by omega) (by omega) (by omega)
  refine ⟨fun a => cond (Nat.blt a 11) (ρ a) (([xop 0 (ρ 1) 16, xop 1 0 65536, xop 1 (xop 0 (ρ 1) 16) 255] : List Int).getD (a - 11) 0), fun a ha => ?_, fun f h => ?_, ?_⟩
  · show cond (Nat.blt a 11) (ρ a) _ = ρ a
    rw [show Nat.blt a 11 = true from Nat.ble_eq_true_of_le ha]; rfl
  · exact nomatch h
  · show sI (sU (sU (sU (sU (sU (sU (sU (sU (sU (sU (sU (sU (sU (sU (sU (sU M 91 249 (1 * ρ 0 + 0)) 91 250 (1 * ρ 1 + 0)) 91 251 (16 * ρ 0 + 0)) 91 252 (1 * (xop 0 (ρ 1) 16) + 0)) 91 253 (1 * ρ 9 + 0)) 91 255 (0)) 91 256 (1 * (xop 1 0 65536) + 0)) 91 257 (1 * (xop 1 (xop 0 (ρ 1) 16) 255) + 0)) 91 240 (1 * ρ 0 + 0)) 91 241 (1 * ρ 0 + 0)) 91 242 (16 * ρ 0 + 0)) 91 243 (65536 * ρ 0 + 0)) 91 245 (0)) 91 246 (1 * ρ 1 + 0)) 91 244 (65536 * ρ 0 + (1 * ρ 1 + (-65536 * ρ 9 + 0)))) 91 247 (65536 * ρ 0 + 0))
    obtain ⟨W, hW⟩ : ∃ W, W = (sU (sU (sU (sU (sU (sU (sU (sU (sU (sU (sU (sU (sU (sU (sU (sU M 91 249 (1 * ρ 0 + 0)) 91 250 (1 * ρ 1 + 0)) 91 251 (16 * ρ 0 + 0)) 91 252 (1 * (xop 0 (ρ 1) 16) + 0)) 91 253 (1 * ρ 9 + 0)) 91 255 (0)) 91 256 (1 * (xop 1 0 65536) + 0)) 91 257 (1 * (xop 1 (xop 0 (ρ 1) 16) 255) + 0)) 91 240 (1 * ρ 0 + 0)) 91 241 (1 * ρ 0 + 0)) 91 242 (16 * ρ 0 + 0)) 91 243 (65536 * ρ 0 + 0)) 91 245 (0)) 91 246 (1 * ρ 1 + 0)) 91 244 (65536 * ρ 0 + (1 * ρ 1 + (-65536 * ρ 9 + 0)))) 91 247 (65536 * ρ 0 + 0)) := ⟨_, rfl⟩
    rw [← hW]
    have base : sI0 W := by
      rw [hW]
      exact (si_u0 (si_u0 (si_u0 (si_u0 (si_u0 (si_u0 (si_u0 (si_u0 (si_u0 (si_u0 (si_u0 (si_u0 (si_u0 (si_u0 (si_u0 (si_u0 hI.1 (fun r hr => by cases hr)) (fun r hr => by cases hr)) (fun r hr => by cases hr)) (fun r hr => by cases hr)) (fun r hr => by cases hr)) (fun r hr => by cases hr)) (fun r hr => by cases hr)) (fun r hr => by cases hr)) (fun r hr => by cases hr)) (fun r hr => by cases hr)) (fun r hr => by cases hr)) (fun r hr => by cases hr)) (fun r hr => by cases hr)) (fun r hr => by cases hr)) (fun r hr => by cases hr)) (fun r hr => by cases hr))
    have k2 : XI2 W := by
      rw [hW]
      exact (xi2_u rfl (xi2_u rfl (xi2_u rfl (xi2_u rfl (xi2_u rfl (xi2_u rfl (xi2_u rfl (xi2_u rfl (xi2_u rfl (xi2_u rfl (xi2_u rfl (xi2_u rfl (xi2_u rfl (xi2_u rfl (xi2_u rfl (xi2_u rfl hI.2.1))))))))))))))))
    have k3 : XI3 W := by
      rw [hW]
      exact (xi3_u rfl (xi3_u rfl (xi3_u rfl (xi3_u rfl (xi3_u rfl (xi3_u rfl (xi3_u rfl (xi3_u rfl (xi3_u rfl (xi3_u rfl (xi3_u rfl (xi3_u rfl (xi3_u rfl (xi3_u rfl (xi3_u rfl (xi3_u rfl hI.2.2.1))))))))))))))))
    have kXA : XA W := by
      rw [hW]
      exact (uXA rfl (uXA rfl (uXA rfl (uXA rfl (uXA rfl (uXA rfl (uXA rfl (uXA rfl (uXA rfl (uXA rfl (uXA rfl (uXA rfl (uXA rfl (uXA rfl (uXA rfl (uXA rfl hI.2.2.2.1))))))))))))))))
    have k_xN1 : xN1 W := by
      rw [hW]
      exact (uxN1 rfl (uxN1 rfl (uxN1 rfl (uxN1 rfl (uxN1 rfl (uxN1 rfl (uxN1 rfl (uxN1 rfl (uxN1 rfl (uxN1 rfl (uxN1 rfl (uxN1 rfl (uxN1 rfl (uxN1 rfl (uxN1 rfl (uxN1 rfl hI.2.2.2.2.1))))))))))))))))
    have k_xN2 : xN2 W := by
      rw [hW]
      exact (uxN2 rfl (uxN2 rfl (uxN2 rfl (uxN2 rfl (uxN2 rfl (uxN2 rfl (uxN2 rfl (uxN2 rfl (uxN2 rfl (uxN2 rfl (uxN2 rfl (uxN2 rfl (uxN2 rfl (uxN2 rfl (uxN2 rfl (uxN2 rfl hI.2.2.2.2.2.1))))))))))))))))
    have k_xN3 : xN3 W := by
      rw [hW]
      exact (uxN3 rfl (uxN3 rfl (uxN3 rfl (uxN3 rfl (uxN3 rfl (uxN3 rfl (uxN3 rfl (uxN3 rfl (uxN3 rfl (uxN3 rfl (uxN3 rfl (uxN3 rfl (uxN3 rfl (uxN3 rfl (uxN3 rfl (uxN3 rfl hI.2.2.2.2.2.2.1))))))))))))))))
    have k_xN4 : xN4 W := by
      rw [hW]
      exact (uxN4 rfl (uxN4 rfl (uxN4 rfl (uxN4 rfl (uxN4 rfl (uxN4 rfl (uxN4 rfl (uxN4 rfl (uxN4 rfl (uxN4 rfl (uxN4 rfl (uxN4 rfl (uxN4 rfl (uxN4 rfl (uxN4 rfl (uxN4 rfl hI.2.2.2.2.2.2.2.1))))))))))))))))
    have k_xN5 : xN5 W := by
      rw [hW]
      exact (uxN5 rfl (uxN5 rfl (uxN5 rfl (uxN5 rfl (uxN5 rfl (uxN5 rfl (uxN5 rfl (uxN5 rfl (uxN5 rfl (uxN5 rfl (uxN5 rfl (uxN5 rfl (uxN5 rfl (uxN5 rfl (uxN5 rfl (uxN5 rfl hI.2.2.2.2.2.2.2.2.1))))))))))))))))
    have k_xN6 : xN6 W := by
      rw [hW]
      exact (uxN6 rfl (uxN6 rfl (uxN6 rfl (uxN6 rfl (uxN6 rfl (uxN6 rfl (uxN6 rfl (uxN6 rfl (uxN6 rfl (uxN6 rfl (uxN6 rfl (uxN6 rfl (uxN6 rfl (uxN6 rfl (uxN6 rfl (uxN6 rfl hI.2.2.2.2.2.2.2.2.2.1))))))))))))))))
    have k_xH1 : xH1 W := by
      rw [hW]
      exact (uxH1 rfl (uxH1 rfl (uxH1 rfl (uxH1 rfl (uxH1 rfl (uxH1 rfl (uxH1 rfl (uxH1 rfl (uxH1 rfl (uxH1 rfl (uxH1 rfl (uxH1 rfl (uxH1 rfl (uxH1 rfl (uxH1 rfl (uxH1 rfl hI.2.2.2.2.2.2.2.2.2.2.1))))))))))))))))
    have k_xK1 : xK1 W := by
      rw [hW]
      exact (uxK1 rfl (uxK1 rfl (uxK1 rfl (uxK1 rfl (uxK1 rfl (uxK1 rfl (uxK1 rfl (uxK1 rfl (uxK1 rfl (uxK1 rfl (uxK1 rfl (uxK1 rfl (uxK1 rfl (uxK1 rfl (uxK1 rfl (uxK1 rfl hI.2.2.2.2.2.2.2.2.2.2.2.1))))))))))))))))
    have k_xC1 : xC1 W := by
      rw [hW]
      exact (uxC1 rfl (uxC1 rfl (uxC1 rfl (uxC1 rfl (uxC1 rfl (uxC1 rfl (uxC1 rfl (uxC1 rfl (uxC1 rfl (uxC1 rfl (uxC1 rfl (uxC1 rfl (uxC1 rfl (uxC1 rfl (uxC1 rfl (uxC1 rfl hI.2.2.2.2.2.2.2.2.2.2.2.2.1))))))))))))))))
    have k_xRW : xRW W := by
      rw [hW]
      exact (uxRW rfl (uxRW rfl (uxRW rfl (uxRW rfl (uxRW rfl (uxRW rfl (uxRW rfl (uxRW rfl (uxRW rfl (uxRW rfl (uxRW rfl (uxRW rfl (uxRW rfl (uxRW rfl (uxRW rfl (uxRW rfl hI.2.2.2.2.2.2.2.2.2.2.2.2.2.1))))))))))))))))
    have k_xWT : xWT W := by
      rw [hW]
      exact (uxWT rfl (uxWT rfl (uxWT rfl (uxWT rfl (uxWT rfl (uxWT rfl (uxWT rfl (uxWT rfl (uxWT rfl (uxWT rfl (uxWT rfl (uxWT rfl (uxWT rfl (uxWT rfl (uxWT rfl (uxWT rfl hI.2.2.2.2.2.2.2.2.2.2.2.2.2.2.1))))))))))))))))
    have k_xCU : xCU W := by
      rw [hW]
      exact (uxCU rfl (uxCU rfl (uxCU rfl (uxCU rfl (uxCU rfl (uxCU rfl (uxCU rfl (uxCU rfl (uxCU rfl (uxCU rfl (uxCU rfl (uxCU rfl (uxCU rfl (uxCU rfl (uxCU rfl (uxCU rfl hI.2.2.2.2.2.2.2.2.2.2.2.2.2.2.2.1))))))))))))))))
    have k_xG2 : xG2 W := by
      rw [hW]
      exact (uxG2 rfl (uxG2 rfl (uxG2 rfl (uxG2 rfl (uxG2 rfl (uxG2 rfl (uxG2 rfl (uxG2 rfl (uxG2 rfl (uxG2 rfl (uxG2 rfl (uxG2 rfl (uxG2 rfl (uxG2 rfl (uxG2 rfl (uxG2 rfl hI.2.2.2.2.2.2.2.2.2.2.2.2.2.2.2.2.1))))))))))))))))
    have k_xG3 : xG3 W := by
      rw [hW]
      exact (uxG3 rfl (uxG3 rfl (uxG3 rfl (uxG3 rfl (uxG3 rfl (uxG3 rfl (uxG3 rfl (uxG3 rfl (uxG3 rfl (uxG3 rfl (uxG3 rfl (uxG3 rfl (uxG3 rfl (uxG3 rfl (uxG3 rfl (uxG3 rfl hI.2.2.2.2.2.2.2.2.2.2.2.2.2.2.2.2.2.1))))))))))))))))
    have k_xG4 : xG4 W := by
      rw [hW]
      exact (uxG4 rfl (uxG4 rfl (uxG4 rfl (uxG4 rfl (uxG4 rfl (uxG4 rfl (uxG4 rfl (uxG4 rfl (uxG4 rfl (uxG4 rfl (uxG4 rfl (uxG4 rfl (uxG4 rfl (uxG4 rfl (uxG4 rfl (uxG4 rfl hI.2.2.2.2.2.2.2.2.2.2.2.2.2.2.2.2.2.2.1))))))))))))))))
    have k_xG5 : xG5 W := by
      rw [hW]
      exact (uxG5 rfl (uxG5 rfl (uxG5 rfl (uxG5 rfl (uxG5 rfl (uxG5 rfl (uxG5 rfl (uxG5 rfl (uxG5 rfl (uxG5 rfl (uxG5 rfl (uxG5 rfl (uxG5 rfl (uxG5 rfl (uxG5 rfl (uxG5 rfl hI.2.2.2.2.2.2.2.2.2.2.2.2.2.2.2.2.2.2.2.1))))))))))))))))
    have k_xG6 : xG6 W := by
      rw [hW]
      exact (uxG6 rfl (uxG6 rfl (uxG6 rfl (uxG6 rfl (uxG6 rfl (uxG6 rfl (uxG6 rfl (uxG6 rfl (uxG6 rfl (uxG6 rfl (uxG6 rfl (uxG6 rfl (uxG6 rfl (uxG6 rfl (uxG6 rfl (uxG6 rfl hI.2.2.2.2.2.2.2.2.2.2.2.2.2.2.2.2.2.2.2.2.1))))))))))))))))
    have k_xS1 : xS1 W := by
      rw [hW]
      exact (uxS1 rfl (uxS1 rfl (uxS1 rfl (uxS1 rfl (uxS1 rfl (uxS1 rfl (uxS1 rfl (uxS1 rfl (uxS1 rfl (uxS1 rfl (uxS1 rfl (uxS1 rfl (uxS1 rfl (uxS1 rfl (uxS1 rfl (uxS1 rfl hI.2.2.2.2.2.2.2.2.2.2.2.2.2.2.2.2.2.2.2.2.2.1))))))))))))))))
    have k_xS2 : xS2 W := by
      rw [hW]
      exact (uxS2 rfl (uxS2 rfl (uxS2 rfl (uxS2 rfl (uxS2 rfl (uxS2 rfl (uxS2 rfl (uxS2 rfl (uxS2 rfl (uxS2 rfl (uxS2 rfl (uxS2 rfl (uxS2 rfl (uxS2 rfl (uxS2 rfl (uxS2 rfl hI.2.2.2.2.2.2.2.2.2.2.2.2.2.2.2.2.2.2.2.2.2.2.1))))))))))))))))
    have k_xS3 : xS3 W := by
      rw [hW]
      exact (uxS3 rfl (uxS3 rfl (uxS3 rfl (uxS3 rfl (uxS3 rfl (uxS3 rfl (uxS3 rfl (uxS3 rfl (uxS3 rfl (uxS3 rfl (uxS3 rfl (uxS3 rfl (uxS3 rfl (uxS3 rfl (uxS3 rfl (uxS3 rfl hI.2.2.2.2.2.2.2.2.2.2.2.2.2.2.2.2.2.2.2.2.2.2.2.1))))))))))))))))
    have k_xS4 : xS4 W := by
      rw [hW]
      exact (uxS4 rfl (uxS4 rfl (uxS4 rfl (uxS4 rfl (uxS4 rfl (uxS4 rfl (uxS4 rfl (uxS4 rfl (uxS4 rfl (uxS4 rfl (uxS4 rfl (uxS4 rfl (uxS4 rfl (uxS4 rfl (uxS4 rfl (uxS4 rfl hI.2.2.2.2.2.2.2.2.2.2.2.2.2.2.2.2.2.2.2.2.2.2.2.2.1))))))))))))))))
    have k_xS5 : xS5 W := by
      rw [hW]
      exact (uxS5 rfl (uxS5 rfl (uxS5 rfl (uxS5 rfl (uxS5 rfl (uxS5 rfl (uxS5 rfl (uxS5 rfl (uxS5 rfl (uxS5 rfl (uxS5 rfl (uxS5 rfl (uxS5 rfl (uxS5 rfl (uxS5 rfl (uxS5 rfl hI.2.2.2.2.2.2.2.2.2.2.2.2.2.2.2.2.2.2.2.2.2.2.2.2.2.1))))))))))))))))
    have k_xS6 : xS6 W := by
      rw [hW]
      exact (uxS6 rfl (uxS6 rfl (uxS6 rfl (uxS6 rfl (uxS6 rfl (uxS6 rfl (uxS6 rfl (uxS6 rfl (uxS6 rfl (uxS6 rfl (uxS6 rfl (uxS6 rfl (uxS6 rfl (uxS6 rfl (uxS6 rfl (uxS6 rfl hI.2.2.2.2.2.2.2.2.2.2.2.2.2.2.2.2.2.2.2.2.2.2.2.2.2.2.1))))))))))))))))
    have k_xS7 : xS7 W := by
      rw [hW]
      exact (uxS7 rfl (uxS7 rfl (uxS7 rfl (uxS7 rfl (uxS7 rfl (uxS7 rfl (uxS7 rfl (uxS7 rfl (uxS7 rfl (uxS7 rfl (uxS7 rfl (uxS7 rfl (uxS7 rfl (uxS7 rfl (uxS7 rfl (uxS7 rfl hI.2.2.2.2.2.2.2.2.2.2.2.2.2.2.2.2.2.2.2.2.2.2.2.2.2.2.2.1))))))))))))))))
    have k_xS8 : xS8 W := by
      rw [hW]
      exact (uxS8 rfl (uxS8 rfl (uxS8 rfl (uxS8 rfl (uxS8 rfl (uxS8 rfl (uxS8 rfl (uxS8 rfl (uxS8 rfl (uxS8 rfl (uxS8 rfl (uxS8 rfl (uxS8 rfl (uxS8 rfl (uxS8 rfl (uxS8 rfl hI.2.2.2.2.2.2.2.2.2.2.2.2.2.2.2.2.2.2.2.2.2.2.2.2.2.2.2.2.1))))))))))))))))
    have k_xS9 : xS9 W := by
      rw [hW]
      exact (uxS9 rfl (uxS9 rfl (uxS9 rfl (uxS9 rfl (uxS9 rfl (uxS9 rfl (uxS9 rfl (uxS9 rfl (uxS9 rfl (uxS9 rfl (uxS9 rfl (uxS9 rfl (uxS9 rfl (uxS9 rfl (uxS9 rfl (uxS9 rfl hI.2.2.2.2.2.2.2.2.2.2.2.2.2.2.2.2.2.2.2.2.2.2.2.2.2.2.2.2.2.1))))))))))))))))
    have k_xSA : xSA W := by
      rw [hW]
      exact (uxSA rfl (uxSA rfl (uxSA rfl (uxSA rfl (uxSA rfl (uxSA rfl (uxSA rfl (uxSA rfl (uxSA rfl (uxSA rfl (uxSA rfl (uxSA rfl (uxSA rfl (uxSA rfl (uxSA rfl (uxSA rfl hI.2.2.2.2.2.2.2.2.2.2.2.2.2.2.2.2.2.2.2.2.2.2.2.2.2.2.2.2.2.2.1))))))))))))))))
    have k_xSG : xSG W := by
      rw [hW]
      exact (uxSG rfl (uxSG rfl (uxSG rfl (uxSG rfl (uxSG rfl (uxSG rfl (uxSG rfl (uxSG rfl (uxSG rfl (uxSG rfl (uxSG rfl (uxSG rfl (uxSG rfl (uxSG rfl (uxSG rfl (uxSG rfl hI.2.2.2.2.2.2.2.2.2.2.2.2.2.2.2.2.2.2.2.2.2.2.2.2.2.2.2.2.2.2.2.1))))))))))))))))
    have k_xSF : xSF W := by
      rw [hW]
      exact (uxSF rfl (uxSF rfl (uxSF rfl (uxSF rfl (uxSF rfl (uxSF rfl (uxSF rfl (uxSF rfl (uxSF rfl (uxSF rfl (uxSF rfl (uxSF rfl (uxSF rfl (uxSF rfl (uxSF rfl (uxSF rfl hI.2.2.2.2.2.2.2.2.2.2.2.2.2.2.2.2.2.2.2.2.2.2.2.2.2.2.2.2.2.2.2.2.1))))))))))))))))
    have k_xSB : xSB W := by
      rw [hW]
      exact (uxSB rfl (uxSB rfl (uxSB rfl (uxSB rfl (uxSB rfl (uxSB rfl (uxSB rfl (uxSB rfl (uxSB rfl (uxSB rfl (uxSB rfl (uxSB rfl (uxSB rfl (uxSB rfl (uxSB rfl (uxSB rfl hI.2.2.2.2.2.2.2.2.2.2.2.2.2.2.2.2.2.2.2.2.2.2.2.2.2.2.2.2.2.2.2.2.2.1))))))))))))))))
    have k_xSC : xSC W := by
      rw [hW]
      exact (uxSC rfl (uxSC rfl (uxSC rfl (uxSC rfl (uxSC rfl (uxSC rfl (uxSC rfl (uxSC rfl (uxSC rfl (uxSC rfl (uxSC rfl (uxSC rfl (uxSC rfl (uxSC rfl (uxSC rfl (uxSC rfl hI.2.2.2.2.2.2.2.2.2.2.2.2.2.2.2.2.2.2.2.2.2.2.2.2.2.2.2.2.2.2.2.2.2.2.1))))))))))))))))
    have k_xSD : xSD W := by
      have r91_240 : W 91 240 = 1 * ρ 0 + 0 := by rw [hW, sU_ne (fun z => by omega), sU_ne (fun z => by omega), sU_ne (fun z => by omega), sU_ne (fun z => by omega), sU_ne (fun z => by omega), sU_ne (fun z => by omega), sU_ne (fun z => by omega), sU_at]
      have r91_241 : W 91 241 = 1 * ρ 0 + 0 := by rw [hW, sU_ne (fun z => by omega), sU_ne (fun z => by omega), sU_ne (fun z => by omega), sU_ne (fun z => by omega), sU_ne (fun z => by omega), sU_ne (fun z => by omega), sU_at]
      have r91_242 : W 91 242 = 16 * ρ 0 + 0 := by rw [hW, sU_ne (fun z => by omega), sU_ne (fun z => by omega), sU_ne (fun z => by omega), sU_ne (fun z => by omega), sU_ne (fun z => by omega), sU_at]
      have r91_243 : W 91 243 = 65536 * ρ 0 + 0 := by rw [hW, sU_ne (fun z => by omega), sU_ne (fun z => by omega), sU_ne (fun z => by omega), sU_ne (fun z => by omega), sU_at]
      have r91_244 : W 91 244 = 65536 * ρ 0 + (1 * ρ 1 + (-65536 * ρ 9 + 0)) := by rw [hW, sU_ne (fun z => by omega), sU_at]
      have r91_245 : W 91 245 = 0 := by rw [hW, sU_ne (fun z => by omega), sU_ne (fun z => by omega), sU_ne (fun z => by omega), sU_at]
      have r91_246 : W 91 246 = 1 * ρ 1 + 0 := by rw [hW, sU_ne (fun z => by omega), sU_ne (fun z => by omega), sU_at]
      have r91_247 : W 91 247 = 65536 * ρ 0 + 0 := by rw [hW, sU_at]
      intro h
      rw [r91_241, r91_242, r91_243, r91_244, r91_245, r91_246, r91_247, h0]
      refine ⟨by decide, ?_, by decide⟩
      rw [show ((65536 : Int) * 1 + 0) = 65536 from rfl, show (1 * ρ 1 + 0 : Int) = ρ 1 by omega, xb.2]
      omega
    have k_xSE : xSE W := by
      have r91_249 : W 91 249 = 1 * ρ 0 + 0 := by rw [hW, sU_ne (fun z => by omega), sU_ne (fun z => by omega), sU_ne (fun z => by omega), sU_ne (fun z => by omega), sU_ne (fun z => by omega), sU_ne (fun z => by omega), sU_ne (fun z => by omega), sU_ne (fun z => by omega), sU_ne (fun z => by omega), sU_ne (fun z => by omega), sU_ne (fun z => by omega), sU_ne (fun z => by omega), sU_ne (fun z => by omega), sU_ne (fun z => by omega), sU_ne (fun z => by omega), sU_at]
      have r91_250 : W 91 250 = 1 * ρ 1 + 0 := by rw [hW, sU_ne (fun z => by omega), sU_ne (fun z => by omega), sU_ne (fun z => by omega), sU_ne (fun z => by omega), sU_ne (fun z => by omega), sU_ne (fun z => by omega), sU_ne (fun z => by omega), sU_ne (fun z => by omega), sU_ne (fun z => by omega), sU_ne (fun z => by omega), sU_ne (fun z => by omega), sU_ne (fun z => by omega), sU_ne (fun z => by omega), sU_ne (fun z => by omega), sU_at]
      have r91_251 : W 91 251 = 16 * ρ 0 + 0 := by rw [hW, sU_ne (fun z => by omega), sU_ne (fun z => by omega), sU_ne (fun z => by omega), sU_ne (fun z => by omega), sU_ne (fun z => by omega), sU_ne (fun z => by omega), sU_ne (fun z => by omega), sU_ne (fun z => by omega), sU_ne (fun z => by omega), sU_ne (fun z => by omega), sU_ne (fun z => by omega), sU_ne (fun z => by omega), sU_ne (fun z => by omega), sU_at]
      have r91_252 : W 91 252 = 1 * (xop 0 (ρ 1) 16) + 0 := by rw [hW, sU_ne (fun z => by omega), sU_ne (fun z => by omega), sU_ne (fun z => by omega), sU_ne (fun z => by omega), sU_ne (fun z => by omega), sU_ne (fun z => by omega), sU_ne (fun z => by omega), sU_ne (fun z => by omega), sU_ne (fun z => by omega), sU_ne (fun z => by omega), sU_ne (fun z => by omega), sU_ne (fun z => by omega), sU_at]
      have r91_253 : W 91 253 = 1 * ρ 9 + 0 := by rw [hW, sU_ne (fun z => by omega), sU_ne (fun z => by omega), sU_ne (fun z => by omega), sU_ne (fun z => by omega), sU_ne (fun z => by omega), sU_ne (fun z => by omega), sU_ne (fun z => by omega), sU_ne (fun z => by omega), sU_ne (fun z => by omega), sU_ne (fun z => by omega), sU_ne (fun z => by omega), sU_at]
      have r91_255 : W 91 255 = 0 := by rw [hW, sU_ne (fun z => by omega), sU_ne (fun z => by omega), sU_ne (fun z => by omega), sU_ne (fun z => by omega), sU_ne (fun z => by omega), sU_ne (fun z => by omega), sU_ne (fun z => by omega), sU_ne (fun z => by omega), sU_ne (fun z => by omega), sU_ne (fun z => by omega), sU_at]
      have r91_256 : W 91 256 = 1 * (xop 1 0 65536) + 0 := by rw [hW, sU_ne (fun z => by omega), sU_ne (fun z => by omega), sU_ne (fun z => by omega), sU_ne (fun z => by omega), sU_ne (fun z => by omega), sU_ne (fun z => by omega), sU_ne (fun z => by omega), sU_ne (fun z => by omega), sU_ne (fun z => by omega), sU_at]
      have r91_243 : W 91 243 = 65536 * ρ 0 + 0 := by rw [hW, sU_ne (fun z => by omega), sU_ne (fun z => by omega), sU_ne (fun z => by omega), sU_ne (fun z => by omega), sU_at]
      have r91_257 : W 91 257 = 1 * (xop 1 (xop 0 (ρ 1) 16) 255) + 0 := by rw [hW, sU_ne (fun z => by omega), sU_ne (fun z => by omega), sU_ne (fun z => by omega), sU_ne (fun z => by omega), sU_ne (fun z => by omega), sU_ne (fun z => by omega), sU_ne (fun z => by omega), sU_ne (fun z => by omega), sU_at]
      intro h
      rw [r91_243, r91_250, r91_251, r91_252, r91_253, r91_255, r91_256, r91_257, h0]
      rw [show ((16 : Int) * 1 + 0) = 16 from rfl, show (1 * ρ 1 + 0 : Int) = ρ 1 by omega, show ((65536 : Int) * 1 + 0) = 65536 from rfl]
      refine ⟨by omega, ?_, by omega, ?_⟩
      · rw [show (1 * (xop 0 (ρ 1) 16) + 0 : Int) = xop 0 (ρ 1) 16 by omega, xb.1]
        omega
      · rw [show (1 * (xop 0 (ρ 1) 16) + 0 : Int) = xop 0 (ρ 1) 16 by omega]
        omega
    have k_xSW : xSW W := by
      rw [hW]
      exact (uxSW rfl (uxSW rfl (uxSW rfl (uxSW rfl (uxSW rfl (uxSW rfl (uxSW rfl (uxSW rfl (uxSW rfl (uxSW rfl (uxSW rfl (uxSW rfl (uxSW rfl (uxSW rfl (uxSW rfl (uxSW rfl hI.2.2.2.2.2.2.2.2.2.2.2.2.2.2.2.2.2.2.2.2.2.2.2.2.2.2.2.2.2.2.2.2.2.2.2.2.2.1))))))))))))))))
    have k_xST : xST W := by
      rw [hW]
      exact (uxST rfl (uxST rfl (uxST rfl (uxST rfl (uxST rfl (uxST rfl (uxST rfl (uxST rfl (uxST rfl (uxST rfl (uxST rfl (uxST rfl (uxST rfl (uxST rfl (uxST rfl (uxST rfl hI.2.2.2.2.2.2.2.2.2.2.2.2.2.2.2.2.2.2.2.2.2.2.2.2.2.2.2.2.2.2.2.2.2.2.2.2.2.2.1))))))))))))))))
    have k_xSP : xSP W := by
      rw [hW]
      exact (uxSP rfl (uxSP rfl (uxSP rfl (uxSP rfl (uxSP rfl (uxSP rfl (uxSP rfl (uxSP rfl (uxSP rfl (uxSP rfl (uxSP rfl (uxSP rfl (uxSP rfl (uxSP rfl (uxSP rfl (uxSP rfl hI.2.2.2.2.2.2.2.2.2.2.2.2.2.2.2.2.2.2.2.2.2.2.2.2.2.2.2.2.2.2.2.2.2.2.2.2.2.2.2.1))))))))))))))))
    have k_xSL : xSL W := by
      rw [hW]
      exact (uxSL rfl (uxSL rfl (uxSL rfl (uxSL rfl (uxSL rfl (uxSL rfl (uxSL rfl (uxSL rfl (uxSL rfl (uxSL rfl (uxSL rfl (uxSL rfl (uxSL rfl (uxSL rfl (uxSL rfl (uxSL rfl hI.2.2.2.2.2.2.2.2.2.2.2.2.2.2.2.2.2.2.2.2.2.2.2.2.2.2.2.2.2.2.2.2.2.2.2.2.2.2.2.2.1))))))))))))))))
    have k_xSM : xSM W := by
      rw [hW]
      exact (uxSM rfl (uxSM rfl (uxSM rfl (uxSM rfl (uxSM rfl (uxSM rfl (uxSM rfl (uxSM rfl (uxSM rfl (uxSM rfl (uxSM rfl (uxSM rfl (uxSM rfl (uxSM rfl (uxSM rfl (uxSM rfl hI.2.2.2.2.2.2.2.2.2.2.2.2.2.2.2.2.2.2.2.2.2.2.2.2.2.2.2.2.2.2.2.2.2.2.2.2.2.2.2.2.2.1))))))))))))))))
    have k_xSI : xSI W := by
      rw [hW]
      exact (uxSI rfl (uxSI rfl (uxSI rfl (uxSI rfl (uxSI rfl (uxSI rfl (uxSI rfl (uxSI rfl (uxSI rfl (uxSI rfl (uxSI rfl (uxSI rfl (uxSI rfl (uxSI rfl (uxSI rfl (uxSI rfl hI.2.2.2.2.2.2.2.2.2.2.2.2.2.2.2.2.2.2.2.2.2.2.2.2.2.2.2.2.2.2.2.2.2.2.2.2.2.2.2.2.2.2.1))))))))))))))))
    have k_xD3 : xD3 W := by
      rw [hW]
      exact (uxD3 rfl (uxD3 rfl (uxD3 rfl (uxD3 rfl (uxD3 rfl (uxD3 rfl (uxD3 rfl (uxD3 rfl (uxD3 rfl (uxD3 rfl (uxD3 rfl (uxD3 rfl (uxD3 rfl (uxD3 rfl (uxD3 rfl (uxD3 rfl hI.2.2.2.2.2.2.2.2.2.2.2.2.2.2.2.2.2.2.2.2.2.2.2.2.2.2.2.2.2.2.2.2.2.2.2.2.2.2.2.2.2.2.2.1))))))))))))))))
    have k_xDV : xDV W := by
      rw [hW]
      exact (uxDV rfl (uxDV rfl (uxDV rfl (uxDV rfl (uxDV rfl (uxDV rfl (uxDV rfl (uxDV rfl (uxDV rfl (uxDV rfl (uxDV rfl (uxDV rfl (uxDV rfl (uxDV rfl (uxDV rfl (uxDV rfl hI.2.2.2.2.2.2.2.2.2.2.2.2.2.2.2.2.2.2.2.2.2.2.2.2.2.2.2.2.2.2.2.2.2.2.2.2.2.2.2.2.2.2.2.2.1))))))))))))))))
    have k_xDP : xDP W := by
      rw [hW]
      exact (uxDP rfl (uxDP rfl (uxDP rfl (uxDP rfl (uxDP rfl (uxDP rfl (uxDP rfl (uxDP rfl (uxDP rfl (uxDP rfl (uxDP rfl (uxDP rfl (uxDP rfl (uxDP rfl (uxDP rfl (uxDP rfl hI.2.2.2.2.2.2.2.2.2.2.2.2.2.2.2.2.2.2.2.2.2.2.2.2.2.2.2.2.2.2.2.2.2.2.2.2.2.2.2.2.2.2.2.2.2.1))))))))))))))))
    have k_xDE : xDE W := by
      rw [hW]
      exact (uxDE rfl (uxDE rfl (uxDE rfl (uxDE rfl (uxDE rfl (uxDE rfl (uxDE rfl (uxDE rfl (uxDE rfl (uxDE rfl (uxDE rfl (uxDE rfl (uxDE rfl (uxDE rfl (uxDE rfl (uxDE rfl hI.2.2.2.2.2.2.2.2.2.2.2.2.2.2.2.2.2.2.2.2.2.2.2.2.2.2.2.2.2.2.2.2.2.2.2.2.2.2.2.2.2.2.2.2.2.2.1))))))))))))))))
    have k_xQ5 : xQ5 W := by
      rw [hW]
      exact (uxQ5 rfl (uxQ5 rfl (uxQ5 rfl (uxQ5 rfl (uxQ5 rfl (uxQ5 rfl (uxQ5 rfl (uxQ5 rfl (uxQ5 rfl (uxQ5 rfl (uxQ5 rfl (uxQ5 rfl (uxQ5 rfl (uxQ5 rfl (uxQ5 rfl (uxQ5 rfl hI.2.2.2.2.2.2.2.2.2.2.2.2.2.2.2.2.2.2.2.2.2.2.2.2.2.2.2.2.2.2.2.2.2.2.2.2.2.2.2.2.2.2.2.2.2.2.2.1))))))))))))))))
    have k_xQL : xQL W := by
      rw [hW]
      exact (uxQL rfl (uxQL rfl (uxQL rfl (uxQL rfl (uxQL rfl (uxQL rfl (uxQL rfl (uxQL rfl (uxQL rfl (uxQL rfl (uxQL rfl (uxQL rfl (uxQL rfl (uxQL rfl (uxQL rfl (uxQL rfl hI.2.2.2.2.2.2.2.2.2.2.2.2.2.2.2.2.2.2.2.2.2.2.2.2.2.2.2.2.2.2.2.2.2.2.2.2.2.2.2.2.2.2.2.2.2.2.2.2.1))))))))))))))))
    have k_xQW : xQW W := by
      rw [hW]
      exact (uxQW rfl (uxQW rfl (uxQW rfl (uxQW rfl (uxQW rfl (uxQW rfl (uxQW rfl (uxQW rfl (uxQW rfl (uxQW rfl (uxQW rfl (uxQW rfl (uxQW rfl (uxQW rfl (uxQW rfl (uxQW rfl hI.2.2.2.2.2.2.2.2.2.2.2.2.2.2.2.2.2.2.2.2.2.2.2.2.2.2.2.2.2.2.2.2.2.2.2.2.2.2.2.2.2.2.2.2.2.2.2.2.2.1))))))))))))))))
    have k_xQM : xQM W := by
      rw [hW]
      exact (uxQM rfl (uxQM rfl (uxQM rfl (uxQM rfl (uxQM rfl (uxQM rfl (uxQM rfl (uxQM rfl (uxQM rfl (uxQM rfl (uxQM rfl (uxQM rfl (uxQM rfl (uxQM rfl (uxQM rfl (uxQM rfl hI.2.2.2.2.2.2.2.2.2.2.2.2.2.2.2.2.2.2.2.2.2.2.2.2.2.2.2.2.2.2.2.2.2.2.2.2.2.2.2.2.2.2.2.2.2.2.2.2.2.2.1))))))))))))))))
    have k_xQH : xQH W := by
      rw [hW]
      exact (uxQH rfl (uxQH rfl (uxQH rfl (uxQH rfl (uxQH rfl (uxQH rfl (uxQH rfl (uxQH rfl (uxQH rfl (uxQH rfl (uxQH rfl (uxQH rfl (uxQH rfl (uxQH rfl (uxQH rfl (uxQH rfl hI.2.2.2.2.2.2.2.2.2.2.2.2.2.2.2.2.2.2.2.2.2.2.2.2.2.2.2.2.2.2.2.2.2.2.2.2.2.2.2.2.2.2.2.2.2.2.2.2.2.2.2))))))))))))))))
    have k_XC : XC W := ⟨k_xS1, k_xS2, k_xS3, k_xS4, k_xS5, k_xS6, k_xS7, k_xS8, k_xS9, k_xSA, k_xSG, k_xSF, k_xSB, k_xSC, k_xSD, k_xSE, k_xSW, k_xST, k_xSP, k_xSL, k_xSM, k_xSI, k_xD3, k_xDV, k_xDP, k_xDE, k_xQ5, k_xQL, k_xQW, k_xQM, k_xQH⟩
    have kXB : XB W := ⟨k_xN1, k_xN2, k_xN3, k_xN4, k_xN5, k_xN6, k_xH1, k_xK1, k_xC1, k_xRW, k_xWT, k_xCU, k_xG2, k_xG3, k_xG4, k_xG5, k_xG6, k_XC⟩
    exact ⟨base, k2, k3, kXA, kXB⟩
-- rt17
def xr_499 : qRu := (11, [[(1, 1), (-1, 2), (-32, 3), (-64, 4), (-128, 5), (-256, 6), (-512, 7), (-1024, 8), (-65536, 9), (-131072, 10)], [(-1, 1), (1, 2), (32, 3), (64, 4), (128, 5), (256, 6), (512, 7), (1024, 8), (65536, 9), (131072, 10)], [(1, 2)], [(31, 0), (-1, 2)], [(1, 8)], [(63, 0), (-1, 8)], [(1, 3)], [(1, 0), (-1, 3)], [(1, 4)], [(1, 0), (-1, 4)], [(1, 5)], [(1, 0), (-1, 5)], [(1, 6)], [(1, 0), (-1, 6)], [(1, 7)], [(1, 0), (-1, 7)], [(1, 9)], [(1, 0), (-1, 9)], [(1, 10)], [(1, 0), (-1, 10)]], [], [], [(91, 249, [(1, 0)]), (91, 250, [(1, 1)]), (91, 251, [(17, 0)]), (91, 252, [(1, 11)]), (91, 253, [(1, 10)]), (91, 255, []), (91, 256, [(1, 12)]), (91, 257, [(1, 13)]), (91, 240, [(1, 0)]), (91, 241, [(1, 0)]), (91, 242, [(17, 0)]), (91, 243, [(131072, 0)]), (91, 245, []), (91, 246, [(1, 1)]), (91, 244, [(131072, 0), (1, 1), (-131072, 10)]), (91, 247, [(131072, 0)])], [])
theorem xo_499 : qRok xr_499 := by
  intro ρ M h0 hf hm hI
  have f0 := hf [(1, 1), (-1, 2), (-32, 3), (-64, 4), (-128, 5), (-256, 6), (-512, 7), (-1024, 8), (-65536, 9), (-131072, 10)] (by decide)
  have f1 := hf [(-1, 1), (1, 2), (32, 3), (64, 4), (128, 5), (256, 6), (512, 7), (1024, 8), (65536, 9), (131072, 10)] (by decide)
  have f2 := hf [(1, 2)] (by decide)
  have f3 := hf [(31, 0), (-1, 2)] (by decide)
  have f4 := hf [(1, 8)] (by decide)
  have f5 := hf [(63, 0), (-1, 8)] (by decide)
  have f6 := hf [(1, 3)] (by decide)
  have f7 := hf [(1, 0), (-1, 3)] (by decide)
  have f8 := hf [(1, 4)] (by decide)
  have f9 := hf [(1, 0), (-1, 4)] (by decide)
  have f10 := hf [(1, 5)] (by decide)
  have f11 := hf [(1, 0), (-1, 5)] (by decide)
  have f12 := hf [(1, 6)] (by decide)
  have f13 := hf [(1, 0), (-1, 6)] (by decide)
  have f14 := hf [(1, 7)] (by decide)
  have f15 := hf [(1, 0), (-1, 7)] (by decide)
  have f16 := hf [(1, 9)] (by decide)
  have f17 := hf [(1, 0), (-1, 9)] (by decide)
  have f18 := hf [(1, 10)] (by decide)
  have f19 := hf [(1, 0), (-1, 10)] (by decide)
  simp only [qD, h0] at f0 f1 f2 f3 f4 f5 f6 f7 f8 f9 f10 f11 f12 f13 f14 f15 f16 f17 f18 f19
  have qxSD := hI.2.2.2.2.2.2.2.2.2.2.2.2.2.2.2.2.2.2.2.2.2.2.2.2.2.2.2.2.2.2.2.2.2.2.2.1
  have qxSE := hI.2.2.2.2.2.2.2.2.2.2.2.2.2.2.2.2.2.2.2.2.2.2.2.2.2.2.2.2.2.2.2.2.2.2.2.2.1
  have xb := xbit17 (t := ρ 1) (b := ρ 10) (h := 0) (l := 1 * ρ 2 + 32 * ρ 3 + 64 * ρ 4 + 128 * ρ 5 + 256 * ρ 6 + 512 * ρ 7 + 1024 * ρ 8 + 65536 * ρ 9) (by omega) (by omega) (by omega) (by omega) (by omega)
  refine ⟨fun a => cond (Nat.blt a 11) (ρ a) (([xop 0 (ρ 1) 17, xop 1 0 131072, xop 1 (xop 0 (ρ 1) 17) 255] : List Int).getD (a - 11) 0), fun a ha => ?_, fun f h => ?_, ?_⟩
  · show cond (Nat.blt a 11) (ρ a) _ = ρ a
    rw [show Nat.blt a 11 = true from Nat.ble_eq_true_of_le ha]; rfl
  · exact nomatch h
  · show sI (sU (sU (sU (sU (sU (sU (sU (sU (sU (sU (sU (sU (sU (sU (sU (sU M 91 249 (1 * ρ 0 + 0)) 91 250 (1 * ρ 1 + 0)) 91 251 (17 * ρ 0 + 0)) 91 252 (1 * (xop 0 (ρ 1) 17) + 0)) 91 253 (1 * ρ 10 + 0)) 91 255 (0)) 91 256 (1 * (xop 1 0 131072) + 0)) 91 257 (1 * (xop 1 (xop 0 (ρ 1) 17) 255) + 0)) 91 240 (1 * ρ 0 + 0)) 91 241 (1 * ρ 0 + 0)) 91 242 (17 * ρ 0 + 0)) 91 243 (131072 * ρ 0 + 0)) 91 245 (0)) 91 246 (1 * ρ 1 + 0)) 91 244 (131072 * ρ 0 + (1 * ρ 1 + (-131072 * ρ 10 + 0)))) 91 247 (131072 * ρ 0 + 0))
    obtain ⟨W, hW⟩ : ∃ W, W = (sU (sU (sU (sU (sU (sU (sU (sU (sU (sU (sU (sU (sU (sU (sU (sU M 91 249 (1 * ρ 0 + 0)) 91 250 (1 * ρ 1 + 0)) 91 251 (17 * ρ 0 + 0)) 91 252 (1 * (xop 0 (ρ 1) 17) + 0)) 91 253 (1 * ρ 10 + 0)) 91 255 (0)) 91 256 (1 * (xop 1 0 131072) + 0)) 91 257 (1 * (xop 1 (xop 0 (ρ 1) 17) 255) + 0)) 91 240 (1 * ρ 0 + 0)) 91 241 (1 * ρ 0 + 0)) 91 242 (17 * ρ 0 + 0)) 91 243 (131072 * ρ 0 + 0)) 91 245 (0)) 91 246 (1 * ρ 1 + 0)) 91 244 (131072 * ρ 0 + (1 * ρ 1 + (-131072 * ρ 10 + 0)))) 91 247 (131072 * ρ 0 + 0)) := ⟨_, rfl⟩
    rw [← hW]
    have base : sI0 W := by
      rw [hW]
      exact (si_u0 (si_u0 (si_u0 (si_u0 (si_u0 (si_u0 (si_u0 (si_u0 (si_u0 (si_u0 (si_u0 (si_u0 (si_u0 (si_u0 (si_u0 (si_u0 hI.1 (fun r hr => by cases hr)) (fun r hr => by cases hr)) (fun r hr => by cases hr)) (fun r hr => by cases hr)) (fun r hr => by cases hr)) (fun r hr => by cases hr)) (fun r hr => by cases hr)) (fun r hr => by cases hr)) (fun r hr => by cases hr)) (fun r hr => by cases hr)) (fun r hr => by cases hr)) (fun r hr => by cases hr)) (fun r hr => by cases hr)) (fun r hr => by cases hr)) (fun r hr => by cases hr)) (fun r hr => by cases hr))
    have k2 : XI2 W := by
      rw [hW]
      exact (xi2_u rfl (xi2_u rfl (xi2_u rfl (xi2_u rfl (xi2_u rfl (xi2_u rfl (xi2_u rfl (xi2_u rfl (xi2_u rfl (xi2_u rfl (xi2_u rfl (xi2_u rfl (xi2_u rfl (xi2_u rfl (xi2_u rfl (xi2_u rfl hI.2.1))))))))))))))))
    have k3 : XI3 W := by
      rw [hW]
      exact (xi3_u rfl (xi3_u rfl (xi3_u rfl (xi3_u rfl (xi3_u rfl (xi3_u rfl (xi3_u rfl (xi3_u rfl (xi3_u rfl (xi3_u rfl (xi3_u rfl (xi3_u rfl (xi3_u rfl (xi3_u rfl (xi3_u rfl (xi3_u rfl hI.2.2.1))))))))))))))))
    have kXA : XA W := by
      rw [hW]
      exact (uXA rfl (uXA rfl (uXA rfl (uXA rfl (uXA rfl (uXA rfl (uXA rfl (uXA rfl (uXA rfl (uXA rfl (uXA rfl (uXA rfl (uXA rfl (uXA rfl (uXA rfl (uXA rfl hI.2.2.2.1))))))))))))))))
    have k_xN1 : xN1 W := by
      rw [hW]
      exact (uxN1 rfl (uxN1 rfl (uxN1 rfl (uxN1 rfl (uxN1 rfl (uxN1 rfl (uxN1 rfl (uxN1 rfl (uxN1 rfl (uxN1 rfl (uxN1 rfl (uxN1 rfl (uxN1 rfl (uxN1 rfl (uxN1 rfl (uxN1 rfl hI.2.2.2.2.1))))))))))))))))
    have k_xN2 : xN2 W := by
      rw [hW]
      exact (uxN2 rfl (uxN2 rfl (uxN2 rfl (uxN2 rfl (uxN2 rfl (uxN2 rfl (uxN2 rfl (uxN2 rfl (uxN2 rfl (uxN2 rfl (uxN2 rfl (uxN2 rfl (uxN2 rfl (uxN2 rfl (uxN2 rfl (uxN2 rfl hI.2.2.2.2.2.1))))))))))))))))
    have k_xN3 : xN3 W := by
      rw [hW]
      exact (uxN3 rfl (uxN3 rfl (uxN3 rfl (uxN3 rfl (uxN3 rfl (uxN3 rfl (uxN3 rfl (uxN3 rfl (uxN3 rfl (uxN3 rfl (uxN3 rfl (uxN3 rfl (uxN3 rfl (uxN3 rfl (uxN3 rfl (uxN3 rfl hI.2.2.2.2.2.2.1))))))))))))))))
    have k_xN4 : xN4 W := by
      rw [hW]
      exact (uxN4 rfl (uxN4 rfl (uxN4 rfl (uxN4 rfl (uxN4 rfl (uxN4 rfl (uxN4 rfl (uxN4 rfl (uxN4 rfl (uxN4 rfl (uxN4 rfl (uxN4 rfl (uxN4 rfl (uxN4 rfl (uxN4 rfl (uxN4 rfl hI.2.2.2.2.2.2.2.1))))))))))))))))
    have k_xN5 : xN5 W := by
      rw [hW]
      exact (uxN5 rfl (uxN5 rfl (uxN5 rfl (uxN5 rfl (uxN5 rfl (uxN5 rfl (uxN5 rfl (uxN5 rfl (uxN5 rfl (uxN5 rfl (uxN5 rfl (uxN5 rfl (uxN5 rfl (uxN5 rfl (uxN5 rfl (uxN5 rfl hI.2.2.2.2.2.2.2.2.1))))))))))))))))
    have k_xN6 : xN6 W := by
      rw [hW]
      exact (uxN6 rfl (uxN6 rfl (uxN6 rfl (uxN6 rfl (uxN6 rfl (uxN6 rfl (uxN6 rfl (uxN6 rfl (uxN6 rfl (uxN6 rfl (uxN6 rfl (uxN6 rfl (uxN6 rfl (uxN6 rfl (uxN6 rfl (uxN6 rfl hI.2.2.2.2.2.2.2.2.2.1))))))))))))))))
    have k_xH1 : xH1 W := by
      rw [hW]
      exact (uxH1 rfl (uxH1 rfl (uxH1 rfl (uxH1 rfl (uxH1 rfl (uxH1 rfl (uxH1 rfl (uxH1 rfl (uxH1 rfl (uxH1 rfl (uxH1 rfl (uxH1 rfl (uxH1 rfl (uxH1 rfl (uxH1 rfl (uxH1 rfl hI.2.2.2.2.2.2.2.2.2.2.1))))))))))))))))
    have k_xK1 : xK1 W := by
      rw [hW]
      exact (uxK1 rfl (uxK1 rfl (uxK1 rfl (uxK1 rfl (uxK1 rfl (uxK1 rfl (uxK1 rfl (uxK1 rfl (uxK1 rfl (uxK1 rfl (uxK1 rfl (uxK1 rfl (uxK1 rfl (uxK1 rfl (uxK1 rfl (uxK1 rfl hI.2.2.2.2.2.2.2.2.2.2.2.1))))))))))))))))
    have k_xC1 : xC1 W := by
      rw [hW]
      exact (uxC1 rfl (uxC1 rfl (uxC1 rfl (uxC1 rfl (uxC1 rfl (uxC1 rfl (uxC1 rfl (uxC1 rfl (uxC1 rfl (uxC1 rfl (uxC1 rfl (uxC1 rfl (uxC1 rfl (uxC1 rfl (uxC1 rfl (uxC1 rfl hI.2.2.2.2.2.2.2.2.2.2.2.2.1))))))))))))))))
    have k_xRW : xRW W := by
      rw [hW]
      exact (uxRW rfl (uxRW rfl (uxRW rfl (uxRW rfl (uxRW rfl (uxRW rfl (uxRW rfl (uxRW rfl (uxRW rfl (uxRW rfl (uxRW rfl (uxRW rfl (uxRW rfl (uxRW rfl (uxRW rfl (uxRW rfl hI.2.2.2.2.2.2.2.2.2.2.2.2.2.1))))))))))))))))
    have k_xWT : xWT W := by
      rw [hW]
      exact (uxWT rfl (uxWT rfl (uxWT rfl (uxWT rfl (uxWT rfl (uxWT rfl (uxWT rfl (uxWT rfl (uxWT rfl (uxWT rfl (uxWT rfl (uxWT rfl (uxWT rfl (uxWT rfl (uxWT rfl (uxWT rfl hI.2.2.2.2.2.2.2.2.2.2.2.2.2.2.1))))))))))))))))
    have k_xCU : xCU W := by
      rw [hW]
      exact (uxCU rfl (uxCU rfl (uxCU rfl (uxCU rfl (uxCU rfl (uxCU rfl (uxCU rfl (uxCU rfl (uxCU rfl (uxCU rfl (uxCU rfl (uxCU rfl (uxCU rfl (uxCU rfl (uxCU rfl (uxCU rfl hI.2.2.2.2.2.2.2.2.2.2.2.2.2.2.2.1))))))))))))))))
    have k_xG2 : xG2 W := by
      rw [hW]
      exact (uxG2 rfl (uxG2 rfl (uxG2 rfl (uxG2 rfl (uxG2 rfl (uxG2 rfl (uxG2 rfl (uxG2 rfl (uxG2 rfl (uxG2 rfl (uxG2 rfl (uxG2 rfl (uxG2 rfl (uxG2 rfl (uxG2 rfl (uxG2 rfl hI.2.2.2.2.2.2.2.2.2.2.2.2.2.2.2.2.1))))))))))))))))
    have k_xG3 : xG3 W := by
      rw [hW]
      exact (uxG3 rfl (uxG3 rfl (uxG3 rfl (uxG3 rfl (uxG3 rfl (uxG3 rfl (uxG3 rfl (uxG3 rfl (uxG3 rfl (uxG3 rfl (uxG3 rfl (uxG3 rfl (uxG3 rfl (uxG3 rfl (uxG3 rfl (uxG3 rfl hI.2.2.2.2.2.2.2.2.2.2.2.2.2.2.2.2.2.1))))))))))))))))
    have k_xG4 : xG4 W := by
      rw [hW]
      exact (uxG4 rfl (uxG4 rfl (uxG4 rfl (uxG4 rfl (uxG4 rfl (uxG4 rfl (uxG4 rfl (uxG4 rfl (uxG4 rfl (uxG4 rfl (uxG4 rfl (uxG4 rfl (uxG4 rfl (uxG4 rfl (uxG4 rfl (uxG4 rfl hI.2.2.2.2.2.2.2.2.2.2.2.2.2.2.2.2.2.2.1))))))))))))))))
    have k_xG5 : xG5 W := by
      rw [hW]
      exact (uxG5 rfl (uxG5 rfl (uxG5 rfl (uxG5 rfl (uxG5 rfl (uxG5 rfl (uxG5 rfl (uxG5 rfl (uxG5 rfl (uxG5 rfl (uxG5 rfl (uxG5 rfl (uxG5 rfl (uxG5 rfl (uxG5 rfl (uxG5 rfl hI.2.2.2.2.2.2.2.2.2.2.2.2.2.2.2.2.2.2.2.1))))))))))))))))
    have k_xG6 : xG6 W := by
      rw [hW]
      exact (uxG6 rfl (uxG6 rfl (uxG6 rfl (uxG6 rfl (uxG6 rfl (uxG6 rfl (uxG6 rfl (uxG6 rfl (uxG6 rfl (uxG6 rfl (uxG6 rfl (uxG6 rfl (uxG6 rfl (uxG6 rfl (uxG6 rfl (uxG6 rfl hI.2.2.2.2.2.2.2.2.2.2.2.2.2.2.2.2.2.2.2.2.1))))))))))))))))
    have k_xS1 : xS1 W := by
      rw [hW]
      exact (uxS1 rfl (uxS1 rfl (uxS1 rfl (uxS1 rfl (uxS1 rfl (uxS1 rfl (uxS1 rfl (uxS1 rfl (uxS1 rfl (uxS1 rfl (uxS1 rfl (uxS1 rfl (uxS1 rfl (uxS1 rfl (uxS1 rfl (uxS1 rfl hI.2.2.2.2.2.2.2.2.2.2.2.2.2.2.2.2.2.2.2.2.2.1))))))))))))))))
    have k_xS2 : xS2 W := by
      rw [hW]
      exact (uxS2 rfl (uxS2 rfl (uxS2 rfl (uxS2 rfl (uxS2 rfl (uxS2 rfl (uxS2 rfl (uxS2 rfl (uxS2 rfl (uxS2 rfl (uxS2 rfl (uxS2 rfl (uxS2 rfl (uxS2 rfl (uxS2 rfl (uxS2 rfl hI.2.2.2.2.2.2.2.2.2.2.2.2.2.2.2.2.2.2.2.2.2.2.1))))))))))))))))
    have k_xS3 : xS3 W := by
      rw [hW]
      exact (uxS3 rfl (uxS3 rfl (uxS3 rfl (uxS3 rfl (uxS3 rfl (uxS3 rfl (uxS3 rfl (uxS3 rfl (uxS3 rfl (uxS3 rfl (uxS3 rfl (uxS3 rfl (uxS3 rfl (uxS3 rfl (uxS3 rfl (uxS3 rfl hI.2.2.2.2.2.2.2.2.2.2.2.2.2.2.2.2.2.2.2.2.2.2.2.1))))))))))))))))
    have k_xS4 : xS4 W := by
      rw [hW]
      exact (uxS4 rfl (uxS4 rfl (uxS4 rfl (uxS4 rfl (uxS4 rfl (uxS4 rfl (uxS4 rfl (uxS4 rfl (uxS4 rfl (uxS4 rfl (uxS4 rfl (uxS4 rfl (uxS4 rfl (uxS4 rfl (uxS4 rfl (uxS4 rfl hI.2.2.2.2.2.2.2.2.2.2.2.2.2.2.2.2.2.2.2.2.2.2.2.2.1))))))))))))))))
    have k_xS5 : xS5 W := by
      rw [hW]
      exact (uxS5 rfl (uxS5 rfl (uxS5 rfl (uxS5 rfl (uxS5 rfl (uxS5 rfl (uxS5 rfl (uxS5 rfl (uxS5 rfl (uxS5 rfl (uxS5 rfl (uxS5 rfl (uxS5 rfl (uxS5 rfl (uxS5 rfl (uxS5 rfl hI.2.2.2.2.2.2.2.2.2.2.2.2.2.2.2.2.2.2.2.2.2.2.2.2.2.1))))))))))))))))
    have k_xS6 : xS6 W := by
      rw [hW]
      exact (uxS6 rfl (uxS6 rfl (uxS6 rfl (uxS6 rfl (uxS6 rfl (uxS6 rfl (uxS6 rfl (uxS6 rfl (uxS6 rfl (uxS6 rfl (uxS6 rfl (uxS6 rfl (uxS6 rfl (uxS6 rfl (uxS6 rfl (uxS6 rfl hI.2.2.2.2.2.2.2.2.2.2.2.2.2.2.2.2.2.2.2.2.2.2.2.2.2.2.1))))))))))))))))
    have k_xS7 : xS7 W := by
      rw [hW]
      exact (uxS7 rfl (uxS7 rfl (uxS7 rfl (uxS7 rfl (uxS7 rfl (uxS7 rfl (uxS7 rfl (uxS7 rfl (uxS7 rfl (uxS7 rfl (uxS7 rfl (uxS7 rfl (uxS7 rfl (uxS7 rfl (uxS7 rfl (uxS7 rfl hI.2.2.2.2.2.2.2.2.2.2.2.2.2.2.2.2.2.2.2.2.2.2.2.2.2.2.2.1))))))))))))))))
    have k_xS8 : xS8 W := by
      rw [hW]
      exact (uxS8 rfl (uxS8 rfl (uxS8 rfl (uxS8 rfl (uxS8 rfl (uxS8 rfl (uxS8 rfl (uxS8 rfl (uxS8 rfl (uxS8 rfl (uxS8 rfl (uxS8 rfl (uxS8 rfl (uxS8 rfl (uxS8 rfl (uxS8 rfl hI.2.2.2.2.2.2.2.2.2.2.2.2.2.2.2.2.2.2.2.2.2.2.2.2.2.2.2.2.1))))))))))))))))
    have k_xS9 : xS9 W := by
      rw [hW]
      exact (uxS9 rfl (uxS9 rfl (uxS9 rfl (uxS9 rfl (uxS9 rfl (uxS9 rfl (uxS9 rfl (uxS9 rfl (uxS9 rfl (uxS9 rfl (uxS9 rfl (uxS9 rfl (uxS9 rfl (uxS9 rfl (uxS9 rfl (uxS9 rfl hI.2.2.2.2.2.2.2.2.2.2.2.2.2.2.2.2.2.2.2.2.2.2.2.2.2.2.2.2.2.1))))))))))))))))
    have k_xSA : xSA W := by
      rw [hW]
      exact (uxSA rfl (uxSA rfl (uxSA rfl (uxSA rfl (uxSA rfl (uxSA rfl (uxSA rfl (uxSA rfl (uxSA rfl (uxSA rfl (uxSA rfl (uxSA rfl (uxSA rfl (uxSA rfl (uxSA rfl (uxSA rfl hI.2.2.2.2.2.2.2.2.2.2.2.2.2.2.2.2.2.2.2.2.2.2.2.2.2.2.2.2.2.2.1))))))))))))))))
    have k_xSG : xSG W := by
      rw [hW]
      exact (uxSG rfl (uxSG rfl (uxSG rfl (uxSG rfl (uxSG rfl (uxSG rfl (uxSG rfl (uxSG rfl (uxSG rfl (uxSG rfl (uxSG rfl (uxSG rfl (uxSG rfl (uxSG rfl (uxSG rfl (uxSG rfl hI.2.2.2.2.2.2.2.2.2.2.2.2.2.2.2.2.2.2.2.2.2.2.2.2.2.2.2.2.2.2.2.1))))))))))))))))
    have k_xSF : xSF W := by
      rw [hW]
      exact (uxSF rfl (uxSF rfl (uxSF rfl (uxSF rfl (uxSF rfl (uxSF rfl (uxSF rfl (uxSF rfl (uxSF rfl (uxSF rfl (uxSF rfl (uxSF rfl (uxSF rfl (uxSF rfl (uxSF rfl (uxSF rfl hI.2.2.2.2.2.2.2.2.2.2.2.2.2.2.2.2.2.2.2.2.2.2.2.2.2.2.2.2.2.2.2.2.1))))))))))))))))
    have k_xSB : xSB W := by
      rw [hW]
      exact (uxSB rfl (uxSB rfl (uxSB rfl (uxSB rfl (uxSB rfl (uxSB rfl (uxSB rfl (uxSB rfl (uxSB rfl (uxSB rfl (uxSB rfl (uxSB rfl (uxSB rfl (uxSB rfl (uxSB rfl (uxSB rfl hI.2.2.2.2.2.2.2.2.2.2.2.2.2.2.2.2.2.2.2.2.2.2.2.2.2.2.2.2.2.2.2.2.2.1))))))))))))))))
    have k_xSC : xSC W := by
      rw [hW]
      exact (uxSC rfl (uxSC rfl (uxSC rfl (uxSC rfl (uxSC rfl (uxSC rfl (uxSC rfl (uxSC rfl (uxSC rfl (uxSC rfl (uxSC rfl (uxSC rfl (uxSC rfl (uxSC rfl (uxSC rfl (uxSC rfl hI.2.2.2.2.2.2.2.2.2.2.2.2.2.2.2.2.2.2.2.2.2.2.2.2.2.2.2.2.2.2.2.2.2.2.1))))))))))))))))
    have k_xSD : xSD W := by
      have r91_240 : W 91 240 = 1 * ρ 0 + 0 := by rw [hW, sU_ne (fun z => by omega), sU_ne (fun z => by omega), sU_ne (fun z => by omega), sU_ne (fun z => by omega), sU_ne (fun z => by omega), sU_ne (fun z => by omega), sU_ne (fun z => by omega), sU_at]
      have r91_241 : W 91 241 = 1 * ρ 0 + 0 := by rw [hW, sU_ne (fun z => by omega), sU_ne (fun z => by omega), sU_ne (fun z => by omega), sU_ne (fun z => by omega), sU_ne (fun z => by omega), sU_ne (fun z => by omega), sU_at]
      have r91_242 : W 91 242 = 17 * ρ 0 + 0 := by rw [hW, sU_ne (fun z => by omega), sU_ne (fun z => by omega), sU_ne (fun z => by omega), sU_ne (fun z => by omega), sU_ne (fun z => by omega), sU_at]
      have r91_243 : W 91 243 = 131072 * ρ 0 + 0 := by rw [hW, sU_ne (fun z => by omega), sU_ne (fun z => by omega), sU_ne (fun z => by omega), sU_ne (fun z => by omega), sU_at]
      have r91_244 : W 91 244 = 131072 * ρ 0 + (1 * ρ 1 + (-131072 * ρ 10 + 0)) := by rw [hW, sU_ne (fun z => by omega), sU_at]
      have r91_245 : W 91 245 = 0 := by rw [hW, sU_ne (fun z => by omega), sU_ne (fun z => by omega), sU_ne (fun z => by omega), sU_at]
      have r91_246 : W 91 246 = 1 * ρ 1 + 0 := by rw [hW, sU_ne (fun z => by omega), sU_ne (fun z => by omega), sU_at]
      have r91_247 : W 91 247 = 131072 * ρ 0 + 0 := by rw [hW, sU_at]
      intro h
      rw [r91_241, r91_242, r91_243, r91_244, r91_245, r91_246, r91_247, h0]
      refine ⟨by decide, ?_, by decide⟩
      rw [show ((131072 : Int) * 1 + 0) = 131072 from rfl, show (1 * ρ 1 + 0 : Int) = ρ 1 by omega, xb.2]
      omega
    have k_xSE : xSE W := by
      have r91_249 : W 91 249 = 1 * ρ 0 + 0 := by rw [hW, sU_ne (fun z => by omega), sU_ne (fun z => by omega), sU_ne (fun z => by omega), sU_ne (fun z => by omega), sU_ne (fun z => by omega), sU_ne (fun z => by omega), sU_ne (fun z => by omega), sU_ne (fun z => by omega), sU_ne (fun z => by omega), sU_ne (fun z => by omega), sU_ne (fun z => by omega), sU_ne (fun z => by omega), sU_ne (fun z => by omega), sU_ne (fun z => by omega), sU_ne (fun z => by omega), sU_at]
      have r91_250 : W 91 250 = 1 * ρ 1 + 0 := by rw [hW, sU_ne (fun z => by omega), sU_ne (fun z => by omega), sU_ne (fun z => by omega), sU_ne (fun z => by omega), sU_ne (fun z => by omega), sU_ne (fun z => by omega), sU_ne (fun z => by omega), sU_ne (fun z => by omega), sU_ne (fun z => by omega), sU_ne (fun z => by omega), sU_ne (fun z => by omega), sU_ne (fun z => by omega), sU_ne (fun z => by omega), sU_ne (fun z => by omega), sU_at]
      have r91_251 : W 91 251 = 17 * ρ 0 + 0 := by rw [hW, sU_ne (fun z => by omega), sU_ne (fun z => by omega), sU_ne (fun z => by omega), sU_ne (fun z => by omega), sU_ne (fun z => by omega), sU_ne (fun z => by omega), sU_ne (fun z => by omega), sU_ne (fun z => by omega), sU_ne (fun z => by omega), sU_ne (fun z => by omega), sU_ne (fun z => by omega), sU_ne (fun z => by omega), sU_ne (fun z => by omega), sU_at]
      have r91_252 : W 91 252 = 1 * (xop 0 (ρ 1) 17) + 0 := by rw [hW, sU_ne (fun z => by omega), sU_ne (fun z => by omega), sU_ne (fun z => by omega), sU_ne (fun z => by omega), sU_ne (fun z => by omega), sU_ne (fun z => by omega), sU_ne (fun z => by omega), sU_ne (fun z => by omega), sU_ne (fun z => by omega), sU_ne (fun z => by omega), sU_ne (fun z => by omega), sU_ne (fun z => by omega), sU_at]
      have r91_253 : W 91 253 = 1 * ρ 10 + 0 := by rw [hW, sU_ne (fun z => by omega), sU_ne (fun z => by omega), sU_ne (fun z => by omega), sU_ne (fun z => by omega), sU_ne (fun z => by omega), sU_ne (fun z => by omega), sU_ne (fun z => by omega), sU_ne (fun z => by omega), sU_ne (fun z => by omega), sU_ne (fun z => by omega), sU_ne (fun z => by omega), sU_at]
      have r91_255 : W 91 255 = 0 := by rw [hW, sU_ne (fun z => by omega), sU_ne (fun z => by omega), sU_ne (fun z => by omega), sU_ne (fun z => by omega), sU_ne (fun z => by omega), sU_ne (fun z => by omega), sU_ne (fun z => by omega), sU_ne (fun z => by omega), sU_ne (fun z => by omega), sU_ne (fun z => by omega), sU_at]
      have r91_256 : W 91 256 = 1 * (xop 1 0 131072) + 0 := by rw [hW, sU_ne (fun z => by omega), sU_ne (fun z => by omega), sU_ne (fun z => by omega), sU_ne (fun z => by omega), sU_ne (fun z => by omega), sU_ne (fun z => by omega), sU_ne (fun z => by omega), sU_ne (fun z => by omega), sU_ne (fun z => by omega), sU_at]
      have r91_243 : W 91 243 = 131072 * ρ 0 + 0 := by rw [hW, sU_ne (fun z => by omega), sU_ne (fun z => by omega), sU_ne (fun z => by omega), sU_ne (fun z => by omega), sU_at]
      have r91_257 : W 91 257 = 1 * (xop 1 (xop 0 (ρ 1) 17) 255) + 0 := by rw [hW, sU_ne (fun z => by omega), sU_ne (fun z => by omega), sU_ne (fun z => by omega), sU_ne (fun z => by omega), sU_ne (fun z => by omega), sU_ne (fun z => by omega), sU_ne (fun z => by omega), sU_ne (fun z => by omega), sU_at]
      intro h
      rw [r91_243, r91_250, r91_251, r91_252, r91_253, r91_255, r91_256, r91_257, h0]
      rw [show ((17 : Int) * 1 + 0) = 17 from rfl, show (1 * ρ 1 + 0 : Int) = ρ 1 by omega, show ((131072 : Int) * 1 + 0) = 131072 from rfl]
      refine ⟨by omega, ?_, by omega, ?_⟩
      · rw [show (1 * (xop 0 (ρ 1) 17) + 0 : Int) = xop 0 (ρ 1) 17 by omega, xb.1]
        omega
      · rw [show (1 * (xop 0 (ρ 1) 17) + 0 : Int) = xop 0 (ρ 1) 17 by omega]
        omega
    have k_xSW : xSW W := by
      rw [hW]
      exact (uxSW rfl (uxSW rfl (uxSW rfl (uxSW rfl (uxSW rfl (uxSW rfl (uxSW rfl (uxSW rfl (uxSW rfl (uxSW rfl (uxSW rfl (uxSW rfl (uxSW rfl (uxSW rfl (uxSW rfl (uxSW rfl hI.2.2.2.2.2.2.2.2.2.2.2.2.2.2.2.2.2.2.2.2.2.2.2.2.2.2.2.2.2.2.2.2.2.2.2.2.2.1))))))))))))))))
    have k_xST : xST W := by
      rw [hW]
      exact (uxST rfl (uxST rfl (uxST rfl (uxST rfl (uxST rfl (uxST rfl (uxST rfl (uxST rfl (uxST rfl (uxST rfl (uxST rfl (uxST rfl (uxST rfl (uxST rfl (uxST rfl (uxST rfl hI.2.2.2.2.2.2.2.2.2.2.2.2.2.2.2.2.2.2.2.2.2.2.2.2.2.2.2.2.2.2.2.2.2.2.2.2.2.2.1))))))))))))))))
    have k_xSP : xSP W := by
      rw [hW]
      exact (uxSP rfl (uxSP rfl (uxSP rfl (uxSP rfl (uxSP rfl (uxSP rfl (uxSP rfl (uxSP rfl (uxSP rfl (uxSP rfl (uxSP rfl (uxSP rfl (uxSP rfl (uxSP rfl (uxSP rfl (uxSP rfl hI.2.2.2.2.2.2.2.2.2.2.2.2.2.2.2.2.2.2.2.2.2.2.2.2.2.2.2.2.2.2.2.2.2.2.2.2.2.2.2.1))))))))))))))))
    have k_xSL : xSL W := by
      rw [hW]
      exact (uxSL rfl (uxSL rfl (uxSL rfl (uxSL rfl (uxSL rfl (uxSL rfl (uxSL rfl (uxSL rfl (uxSL rfl (uxSL rfl (uxSL rfl (uxSL rfl (uxSL rfl (uxSL rfl (uxSL rfl (uxSL rfl hI.2.2.2.2.2.2.2.2.2.2.2.2.2.2.2.2.2.2.2.2.2.2.2.2.2.2.2.2.2.2.2.2.2.2.2.2.2.2.2.2.1))))))))))))))))
    have k_xSM : xSM W := by
      rw [hW]
      exact (uxSM rfl (uxSM rfl (uxSM rfl (uxSM rfl (uxSM rfl (uxSM rfl (uxSM rfl (uxSM rfl (uxSM rfl (uxSM rfl (uxSM rfl (uxSM rfl (uxSM rfl (uxSM rfl (uxSM rfl (uxSM rfl hI.2.2.2.2.2.2.2.2.2.2.2.2.2.2.2.2.2.2.2.2.2.2.2.2.2.2.2.2.2.2.2.2.2.2.2.2.2.2.2.2.2.1))))))))))))))))
    have k_xSI : xSI W := by
      rw [hW]
      exact (uxSI rfl (uxSI rfl (uxSI rfl (uxSI rfl (uxSI rfl (uxSI rfl (uxSI rfl (uxSI rfl (uxSI rfl (uxSI rfl (uxSI rfl (uxSI rfl (uxSI rfl (uxSI rfl (uxSI rfl (uxSI rfl hI.2.2.2.2.2.2.2.2.2.2.2.2.2.2.2.2.2.2.2.2.2.2.2.2.2.2.2.2.2.2.2.2.2.2.2.2.2.2.2.2.2.2.1))))))))))))))))
    have k_xD3 : xD3 W := by
      rw [hW]
      exact (uxD3 rfl (uxD3 rfl (uxD3 rfl (uxD3 rfl (uxD3 rfl (uxD3 rfl (uxD3 rfl (uxD3 rfl (uxD3 rfl (uxD3 rfl (uxD3 rfl (uxD3 rfl (uxD3 rfl (uxD3 rfl (uxD3 rfl (uxD3 rfl hI.2.2.2.2.2.2.2.2.2.2.2.2.2.2.2.2.2.2.2.2.2.2.2.2.2.2.2.2.2.2.2.2.2.2.2.2.2.2.2.2.2.2.2.1))))))))))))))))
    have k_xDV : xDV W := by
      rw [hW]
      exact (uxDV rfl (uxDV rfl (uxDV rfl (uxDV rfl (uxDV rfl (uxDV rfl (uxDV rfl (uxDV rfl (uxDV rfl (uxDV rfl (uxDV rfl (uxDV rfl (uxDV rfl (uxDV rfl (uxDV rfl (uxDV rfl hI.2.2.2.2.2.2.2.2.2.2.2.2.2.2.2.2.2.2.2.2.2.2.2.2.2.2.2.2.2.2.2.2.2.2.2.2.2.2.2.2.2.2.2.2.1))))))))))))))))
    have k_xDP : xDP W := by
      rw [hW]
      exact (uxDP rfl (uxDP rfl (uxDP rfl (uxDP rfl (uxDP rfl (uxDP rfl (uxDP rfl (uxDP rfl (uxDP rfl (uxDP rfl (uxDP rfl (uxDP rfl (uxDP rfl (uxDP rfl (uxDP rfl (uxDP rfl hI.2.2.2.2.2.2.2.2.2.2.2.2.2.2.2.2.2.2.2.2.2.2.2.2.2.2.2.2.2.2.2.2.2.2.2.2.2.2.2.2.2.2.2.2.2.1))))))))))))))))
    have k_xDE : xDE W := by
      rw [hW]
      exact (uxDE rfl (uxDE rfl (uxDE rfl (uxDE rfl (uxDE rfl (uxDE rfl (uxDE rfl (uxDE rfl (uxDE rfl (uxDE rfl (uxDE rfl (uxDE rfl (uxDE rfl (uxDE rfl (uxDE rfl (uxDE rfl hI.2.2.2.2.2.2.2.2.2.2.2.2.2.2.2.2.2.2.2.2.2.2.2.2.2.2.2.2.2.2.2.2.2.2.2.2.2.2.2.2.2.2.2.2.2.2.1))))))))))))))))
    have k_xQ5 : xQ5 W := by
      rw [hW]
      exact (uxQ5 rfl (uxQ5 rfl (uxQ5 rfl (uxQ5 rfl (uxQ5 rfl (uxQ5 rfl (uxQ5 rfl (uxQ5 rfl (uxQ5 rfl (uxQ5 rfl (uxQ5 rfl (uxQ5 rfl (uxQ5 rfl (uxQ5 rfl (uxQ5 rfl (uxQ5 rfl hI.2.2.2.2.2.2.2.2.2.2.2.2.2.2.2.2.2.2.2.2.2.2.2.2.2.2.2.2.2.2.2.2.2.2.2.2.2.2.2.2.2.2.2.2.2.2.2.1))))))))))))))))
    have k_xQL : xQL W := by
      rw [hW]
      exact (uxQL rfl (uxQL rfl (uxQL rfl (uxQL rfl (uxQL rfl (uxQL rfl (uxQL rfl (uxQL rfl (uxQL rfl (uxQL rfl (uxQL rfl (uxQL rfl (uxQL rfl (uxQL rfl (uxQL rfl (uxQL rfl hI.2.2.2.2.2.2.2.2.2.2.2.2.2.2.2.2.2.2.2.2.2.2.2.2.2.2.2.2.2.2.2.2.2.2.2.2.2.2.2.2.2.2.2.2.2.2.2.2.1))))))))))))))))
    have k_xQW : xQW W := by
      rw [hW]
      exact (uxQW rfl (uxQW rfl (uxQW rfl (uxQW rfl (uxQW rfl (uxQW rfl (uxQW rfl (uxQW rfl (uxQW rfl (uxQW rfl (uxQW rfl (uxQW rfl (uxQW rfl (uxQW rfl (uxQW rfl (uxQW rfl hI.2.2.2.2.2.2.2.2.2.2.2.2.2.2.2.2.2.2.2.2.2.2.2.2.2.2.2.2.2.2.2.2.2.2.2.2.2.2.2.2.2.2.2.2.2.2.2.2.2.1))))))))))))))))
    have k_xQM : xQM W := by
      rw [hW]
      exact (uxQM rfl (uxQM rfl (uxQM rfl (uxQM rfl (uxQM rfl (uxQM rfl (uxQM rfl (uxQM rfl (uxQM rfl (uxQM rfl (uxQM rfl (uxQM rfl (uxQM rfl (uxQM rfl (uxQM rfl (uxQM rfl hI.2.2.2.2.2.2.2.2.2.2.2.2.2.2.2.2.2.2.2.2.2.2.2.2.2.2.2.2.2.2.2.2.2.2.2.2.2.2.2.2.2.2.2.2.2.2.2.2.2.2.1))))))))))))))))
    have k_xQH : xQH W := by
      rw [hW]
      exact (uxQH rfl (uxQH rfl (uxQH rfl (uxQH rfl (uxQH rfl (uxQH rfl (uxQH rfl (uxQH rfl (uxQH rfl (uxQH rfl (uxQH rfl (uxQH rfl (uxQH rfl (uxQH rfl (uxQH rfl (uxQH rfl hI.2.2.2.2.2.2.2.2.2.2.2.2.2.2.2.2.2.2.2.2.2.2.2.2.2.2.2.2.2.2.2.2.2.2.2.2.2.2.2.2.2.2.2.2.2.2.2.2.2.2.2))))))))))))))))
    have k_XC : XC W := ⟨k_xS1, k_xS2, k_xS3, k_xS4, k_xS5, k_xS6, k_xS7, k_xS8, k_xS9, k_xSA, k_xSG, k_xSF, k_xSB, k_xSC, k_xSD, k_xSE, k_xSW, k_xST, k_xSP, k_xSL, k_xSM, k_xSI, k_xD3, k_xDV, k_xDP, k_xDE, k_xQ5, k_xQL, k_xQW, k_xQM, k_xQH⟩
    have kXB : XB W := ⟨k_xN1, k_xN2, k_xN3, k_xN4, k_xN5, k_xN6, k_xH1, k_xK1, k_xC1, k_xRW, k_xWT, k_xCU, k_xG2, k_xG3, k_xG4, k_xG5, k_xG6, k_XC⟩
    exact ⟨base, k2, k3, kXA, kXB⟩
-- ro0
def xr_500 : qRu := (11, [[(1, 1), (-1, 2), (-32, 3), (-64, 4), (-128, 5), (-256, 6), (-512, 7), (-1024, 8), (-65536, 9), (-131072, 10)], [(-1, 1), (1, 2), (32, 3), (64, 4), (128, 5), (256, 6), (512, 7), (1024, 8), (65536, 9), (131072, 10)], [(1, 2)], [(31, 0), (-1, 2)], [(1, 8)], [(63, 0), (-1, 8)], [(1, 3)], [(1, 0), (-1, 3)], [(1, 4)], [(1, 0), (-1, 4)], [(1, 5)], [(1, 0), (-1, 5)], [(1, 6)], [(1, 0), (-1, 6)], [(1, 7)], [(1, 0), (-1, 7)], [(1, 9)], [(1, 0), (-1, 9)], [(1, 10)], [(1, 0), (-1, 10)]], [(91, 249, [])], [], [(91, 240, [(1, 0)]), (91, 241, [(1, 0)]), (91, 242, []), (91, 243, [(1, 0)]), (91, 245, []), (91, 246, [(1, 1)]), (91, 244, [(1, 11)]), (91, 247, [(1, 0)]), (4, 291, [(1, 12)])], [[(-1, 1), (1, 2), (1, 11), (-1, 12)], [(1, 1), (-1, 2), (-1, 11), (1, 12)], [(1, 12)], [(31, 0), (-1, 12)]])
theorem xo_500 : qRok xr_500 := by
  intro ρ M h0 hf hm hI
  have f0 := hf [(1, 1), (-1, 2), (-32, 3), (-64, 4), (-128, 5), (-256, 6), (-512, 7), (-1024, 8), (-65536, 9), (-131072, 10)] (by decide)
  have f1 := hf [(-1, 1), (1, 2), (32, 3), (64, 4), (128, 5), (256, 6), (512, 7), (1024, 8), (65536, 9), (131072, 10)] (by decide)
  have f2 := hf [(1, 2)] (by decide)
  have f3 := hf [(31, 0), (-1, 2)] (by decide)
  have f4 := hf [(1, 8)] (by decide)
  have f5 := hf [(63, 0), (-1, 8)] (by decide)
  have f6 := hf [(1, 3)] (by decide)
  have f7 := hf [(1, 0), (-1, 3)] (by decide)
  have f8 := hf [(1, 4)] (by decide)
  have f9 := hf [(1, 0), (-1, 4)] (by decide)
  have f10 := hf [(1, 5)] (by decide)
  have f11 := hf [(1, 0), (-1, 5)] (by decide)
  have f12 := hf [(1, 6)] (by decide)
  have f13 := hf [(1, 0), (-1, 6)] (by decide)
  have f14 := hf [(1, 7)] (by decide)
  have f15 := hf [(1, 0), (-1, 7)] (by decide)
  have f16 := hf [(1, 9)] (by decide)
  have f17 := hf [(1, 0), (-1, 9)] (by decide)
  have f18 := hf [(1, 10)] (by decide)
  have f19 := hf [(1, 0), (-1, 10)] (by decide)
  simp only [qD, h0] at f0 f1 f2 f3 f4 f5 f6 f7 f8 f9 f10 f11 f12 f13 f14 f15 f16 f17 f18 f19
  have m0 : M 91 249 = 0 := hm (91, 249, []) (by decide)
  have qxSD := hI.2.2.2.2.2.2.2.2.2.2.2.2.2.2.2.2.2.2.2.2.2.2.2.2.2.2.2.2.2.2.2.2.2.2.2.1
  have xb := xbo0 (t := ρ 1) (by omega) (by omega)

  have xc : xop 5 (ρ 1) 1 - ρ 1 = 0 ∨ (xop 5 (ρ 1) 1 - ρ 1 = 1 ∧ (ρ 2 / 1) % 2 = 0) := by omega
  refine ⟨fun a => cond (Nat.blt a 11) (ρ a) (([xop 5 (ρ 1) 1, ((xop 5 (ρ 1) 1 - ρ 1) / 1 + ρ 2)] : List Int).getD (a - 11) 0), fun a ha => ?_, fun f h => ?_, ?_⟩
  · show cond (Nat.blt a 11) (ρ a) _ = ρ a
    rw [show Nat.blt a 11 = true from Nat.ble_eq_true_of_le ha]; rfl
  · have h : f ∈ ([[(-1, 1), (1, 2), (1, 11), (-1, 12)], [(1, 1), (-1, 2), (-1, 11), (1, 12)], [(1, 12)], [(31, 0), (-1, 12)]] : List qF) := h
    simp only [List.mem_cons, List.not_mem_nil, or_false] at h
    rcases h with rfl | rfl | rfl | rfl
    · show 0 ≤ -1 * ρ 1 + (1 * ρ 2 + (1 * (xop 5 (ρ 1) 1) + (-1 * (((xop 5 (ρ 1) 1 - ρ 1) / 1 + ρ 2)) + 0)))
      (try rw [h0]); omega
    · show 0 ≤ 1 * ρ 1 + (-1 * ρ 2 + (-1 * (xop 5 (ρ 1) 1) + (1 * (((xop 5 (ρ 1) 1 - ρ 1) / 1 + ρ 2)) + 0)))
      (try rw [h0]); omega
    · show 0 ≤ 1 * (((xop 5 (ρ 1) 1 - ρ 1) / 1 + ρ 2)) + 0
      (try rw [h0]); omega
    · show 0 ≤ 31 * ρ 0 + (-1 * (((xop 5 (ρ 1) 1 - ρ 1) / 1 + ρ 2)) + 0)
      (try rw [h0]); omega
  · show sI (sU (sU (sU (sU (sU (sU (sU (sU (sU M 91 240 (1 * ρ 0 + 0)) 91 241 (1 * ρ 0 + 0)) 91 242 (0)) 91 243 (1 * ρ 0 + 0)) 91 245 (0)) 91 246 (1 * ρ 1 + 0)) 91 244 (1 * (xop 5 (ρ 1) 1) + 0)) 91 247 (1 * ρ 0 + 0)) 4 291 (1 * (((xop 5 (ρ 1) 1 - ρ 1) / 1 + ρ 2)) + 0))
    obtain ⟨W, hW⟩ : ∃ W, W = (sU (sU (sU (sU (sU (sU (sU (sU (sU M 91 240 (1 * ρ 0 + 0)) 91 241 (1 * ρ 0 + 0)) 91 242 (0)) 91 243 (1 * ρ 0 + 0)) 91 245 (0)) 91 246 (1 * ρ 1 + 0)) 91 244 (1 * (xop 5 (ρ 1) 1) + 0)) 91 247 (1 * ρ 0 + 0)) 4 291 (1 * (((xop 5 (ρ 1) 1 - ρ 1) / 1 + ρ 2)) + 0)) := ⟨_, rfl⟩
    rw [← hW]
    have base : sI0 W := by
      rw [hW]
      exact (si_u0 (si_u0 (si_u0 (si_u0 (si_u0 (si_u0 (si_u0 (si_u0 (si_u0 hI.1 (fun r hr => by cases hr)) (fun r hr => by cases hr)) (fun r hr => by cases hr)) (fun r hr => by cases hr)) (fun r hr => by cases hr)) (fun r hr => by cases hr)) (fun r hr => by cases hr)) (fun r hr => by cases hr)) (fun r hr => by cases hr))
    have k2 : XI2 W := by
      rw [hW]
      exact (xi2_u rfl (xi2_u rfl (xi2_u rfl (xi2_u rfl (xi2_u rfl (xi2_u rfl (xi2_u rfl (xi2_u rfl (xi2_u rfl hI.2.1)))))))))
    have k3 : XI3 W := by
      rw [hW]
      exact (xi3_u rfl (xi3_u rfl (xi3_u rfl (xi3_u rfl (xi3_u rfl (xi3_u rfl (xi3_u rfl (xi3_u rfl (xi3_u rfl hI.2.2.1)))))))))
    have kXA : XA W := by
      rw [hW]
      exact (uXA rfl (uXA rfl (uXA rfl (uXA rfl (uXA rfl (uXA rfl (uXA rfl (uXA rfl (uXA rfl hI.2.2.2.1)))))))))
    have k_xN1 : xN1 W := by
      rw [hW]
      exact (uxN1 rfl (uxN1 rfl (uxN1 rfl (uxN1 rfl (uxN1 rfl (uxN1 rfl (uxN1 rfl (uxN1 rfl (uxN1 rfl hI.2.2.2.2.1)))))))))
    have k_xN2 : xN2 W := by
      rw [hW]
      exact (uxN2 rfl (uxN2 rfl (uxN2 rfl (uxN2 rfl (uxN2 rfl (uxN2 rfl (uxN2 rfl (uxN2 rfl (uxN2 rfl hI.2.2.2.2.2.1)))))))))
    have k_xN3 : xN3 W := by
      rw [hW]
      exact (uxN3 rfl (uxN3 rfl (uxN3 rfl (uxN3 rfl (uxN3 rfl (uxN3 rfl (uxN3 rfl (uxN3 rfl (uxN3 rfl hI.2.2.2.2.2.2.1)))))))))
    have k_xN4 : xN4 W := by
      rw [hW]
      exact (uxN4 rfl (uxN4 rfl (uxN4 rfl (uxN4 rfl (uxN4 rfl (uxN4 rfl (uxN4 rfl (uxN4 rfl (uxN4 rfl hI.2.2.2.2.2.2.2.1)))))))))
    have k_xN5 : xN5 W := by
      rw [hW]
      exact (uxN5 rfl (uxN5 rfl (uxN5 rfl (uxN5 rfl (uxN5 rfl (uxN5 rfl (uxN5 rfl (uxN5 rfl (uxN5 rfl hI.2.2.2.2.2.2.2.2.1)))))))))
    have k_xN6 : xN6 W := by
      rw [hW]
      exact (uxN6 rfl (uxN6 rfl (uxN6 rfl (uxN6 rfl (uxN6 rfl (uxN6 rfl (uxN6 rfl (uxN6 rfl (uxN6 rfl hI.2.2.2.2.2.2.2.2.2.1)))))))))
    have k_xH1 : xH1 W := by
      rw [hW]
      exact (uxH1 rfl (uxH1 rfl (uxH1 rfl (uxH1 rfl (uxH1 rfl (uxH1 rfl (uxH1 rfl (uxH1 rfl (uxH1 rfl hI.2.2.2.2.2.2.2.2.2.2.1)))))))))
    have k_xK1 : xK1 W := by
      rw [hW]
      exact (uxK1 rfl (uxK1 rfl (uxK1 rfl (uxK1 rfl (uxK1 rfl (uxK1 rfl (uxK1 rfl (uxK1 rfl (uxK1 rfl hI.2.2.2.2.2.2.2.2.2.2.2.1)))))))))
    have k_xC1 : xC1 W := by
      rw [hW]
      exact (uxC1 rfl (uxC1 rfl (uxC1 rfl (uxC1 rfl (uxC1 rfl (uxC1 rfl (uxC1 rfl (uxC1 rfl (uxC1 rfl hI.2.2.2.2.2.2.2.2.2.2.2.2.1)))))))))
    have k_xRW : xRW W := by
      rw [hW]
      exact (uxRW rfl (uxRW rfl (uxRW rfl (uxRW rfl (uxRW rfl (uxRW rfl (uxRW rfl (uxRW rfl (uxRW rfl hI.2.2.2.2.2.2.2.2.2.2.2.2.2.1)))))))))
    have k_xWT : xWT W := by
      rw [hW]
      exact (uxWT rfl (uxWT rfl (uxWT rfl (uxWT rfl (uxWT rfl (uxWT rfl (uxWT rfl (uxWT rfl (uxWT rfl hI.2.2.2.2.2.2.2.2.2.2.2.2.2.2.1)))))))))
    have k_xCU : xCU W := by
      rw [hW]
      exact (uxCU rfl (uxCU rfl (uxCU rfl (uxCU rfl (uxCU rfl (uxCU rfl (uxCU rfl (uxCU rfl (uxCU rfl hI.2.2.2.2.2.2.2.2.2.2.2.2.2.2.2.1)))))))))
    have k_xG2 : xG2 W := by
      rw [hW]
      exact (uxG2 rfl (uxG2 rfl (uxG2 rfl (uxG2 rfl (uxG2 rfl (uxG2 rfl (uxG2 rfl (uxG2 rfl (uxG2 rfl hI.2.2.2.2.2.2.2.2.2.2.2.2.2.2.2.2.1)))))))))
    have k_xG3 : xG3 W := by
      rw [hW]
      exact (uxG3 rfl (uxG3 rfl (uxG3 rfl (uxG3 rfl (uxG3 rfl (uxG3 rfl (uxG3 rfl (uxG3 rfl (uxG3 rfl hI.2.2.2.2.2.2.2.2.2.2.2.2.2.2.2.2.2.1)))))))))
    have k_xG4 : xG4 W := by
      rw [hW]
      exact (uxG4 rfl (uxG4 rfl (uxG4 rfl (uxG4 rfl (uxG4 rfl (uxG4 rfl (uxG4 rfl (uxG4 rfl (uxG4 rfl hI.2.2.2.2.2.2.2.2.2.2.2.2.2.2.2.2.2.2.1)))))))))
    have k_xG5 : xG5 W := by
      rw [hW]
      exact (uxG5 rfl (uxG5 rfl (uxG5 rfl (uxG5 rfl (uxG5 rfl (uxG5 rfl (uxG5 rfl (uxG5 rfl (uxG5 rfl hI.2.2.2.2.2.2.2.2.2.2.2.2.2.2.2.2.2.2.2.1)))))))))
    have k_xG6 : xG6 W := by
      rw [hW]
      exact (uxG6 rfl (uxG6 rfl (uxG6 rfl (uxG6 rfl (uxG6 rfl (uxG6 rfl (uxG6 rfl (uxG6 rfl (uxG6 rfl hI.2.2.2.2.2.2.2.2.2.2.2.2.2.2.2.2.2.2.2.2.1)))))))))
    have k_xS1 : xS1 W := by
      rw [hW]
      exact (uxS1 rfl (uxS1 rfl (uxS1 rfl (uxS1 rfl (uxS1 rfl (uxS1 rfl (uxS1 rfl (uxS1 rfl (uxS1 rfl hI.2.2.2.2.2.2.2.2.2.2.2.2.2.2.2.2.2.2.2.2.2.1)))))))))
    have k_xS2 : xS2 W := by
      rw [hW]
      exact (uxS2 rfl (uxS2 rfl (uxS2 rfl (uxS2 rfl (uxS2 rfl (uxS2 rfl (uxS2 rfl (uxS2 rfl (uxS2 rfl hI.2.2.2.2.2.2.2.2.2.2.2.2.2.2.2.2.2.2.2.2.2.2.1)))))))))
    have k_xS3 : xS3 W := by
      rw [hW]
      exact (uxS3 rfl (uxS3 rfl (uxS3 rfl (uxS3 rfl (uxS3 rfl (uxS3 rfl (uxS3 rfl (uxS3 rfl (uxS3 rfl hI.2.2.2.2.2.2.2.2.2.2.2.2.2.2.2.2.2.2.2.2.2.2.2.1)))))))))
    have k_xS4 : xS4 W := by
      rw [hW]
      exact (uxS4 rfl (uxS4 rfl (uxS4 rfl (uxS4 rfl (uxS4 rfl (uxS4 rfl (uxS4 rfl (uxS4 rfl (uxS4 rfl hI.2.2.2.2.2.2.2.2.2.2.2.2.2.2.2.2.2.2.2.2.2.2.2.2.1)))))))))
    have k_xS5 : xS5 W := by
      rw [hW]
      exact (uxS5 rfl (uxS5 rfl (uxS5 rfl (uxS5 rfl (uxS5 rfl (uxS5 rfl (uxS5 rfl (uxS5 rfl (uxS5 rfl hI.2.2.2.2.2.2.2.2.2.2.2.2.2.2.2.2.2.2.2.2.2.2.2.2.2.1)))))))))
    have k_xS6 : xS6 W := by
      rw [hW]
      exact (uxS6 rfl (uxS6 rfl (uxS6 rfl (uxS6 rfl (uxS6 rfl (uxS6 rfl (uxS6 rfl (uxS6 rfl (uxS6 rfl hI.2.2.2.2.2.2.2.2.2.2.2.2.2.2.2.2.2.2.2.2.2.2.2.2.2.2.1)))))))))
    have k_xS7 : xS7 W := by
      rw [hW]
      exact (uxS7 rfl (uxS7 rfl (uxS7 rfl (uxS7 rfl (uxS7 rfl (uxS7 rfl (uxS7 rfl (uxS7 rfl (uxS7 rfl hI.2.2.2.2.2.2.2.2.2.2.2.2.2.2.2.2.2.2.2.2.2.2.2.2.2.2.2.1)))))))))
    have k_xS8 : xS8 W := by
      rw [hW]
      exact (uxS8 rfl (uxS8 rfl (uxS8 rfl (uxS8 rfl (uxS8 rfl (uxS8 rfl (uxS8 rfl (uxS8 rfl (uxS8 rfl hI.2.2.2.2.2.2.2.2.2.2.2.2.2.2.2.2.2.2.2.2.2.2.2.2.2.2.2.2.1)))))))))
    have k_xS9 : xS9 W := by
      rw [hW]
      exact (uxS9 rfl (uxS9 rfl (uxS9 rfl (uxS9 rfl (uxS9 rfl (uxS9 rfl (uxS9 rfl (uxS9 rfl (uxS9 rfl hI.2.2.2.2.2.2.2.2.2.2.2.2.2.2.2.2.2.2.2.2.2.2.2.2.2.2.2.2.2.1)))))))))
    have k_xSA : xSA W := by
      rw [hW]
      exact (uxSA rfl (uxSA rfl (uxSA rfl (uxSA rfl (uxSA rfl (uxSA rfl (uxSA rfl (uxSA rfl (uxSA rfl hI.2.2.2.2.2.2.2.2.2.2.2.2.2.2.2.2.2.2.2.2.2.2.2.2.2.2.2.2.2.2.1)))))))))
    have k_xSG : xSG W := by
      rw [hW]
      exact (uxSG rfl (uxSG rfl (uxSG rfl (uxSG rfl (uxSG rfl (uxSG rfl (uxSG rfl (uxSG rfl (uxSG rfl hI.2.2.2.2.2.2.2.2.2.2.2.2.2.2.2.2.2.2.2.2.2.2.2.2.2.2.2.2.2.2.2.1)))))))))
    have k_xSF : xSF W := by
      rw [hW]
      exact (uxSF rfl (uxSF rfl (uxSF rfl (uxSF rfl (uxSF rfl (uxSF rfl (uxSF rfl (uxSF rfl (uxSF rfl hI.2.2.2.2.2.2.2.2.2.2.2.2.2.2.2.2.2.2.2.2.2.2.2.2.2.2.2.2.2.2.2.2.1)))))))))
    have k_xSB : xSB W := by
      rw [hW]
      exact (uxSB rfl (uxSB rfl (uxSB rfl (uxSB rfl (uxSB rfl (uxSB rfl (uxSB rfl (uxSB rfl (uxSB rfl hI.2.2.2.2.2.2.2.2.2.2.2.2.2.2.2.2.2.2.2.2.2.2.2.2.2.2.2.2.2.2.2.2.2.1)))))))))
    have k_xSC : xSC W := by
      rw [hW]
      exact (uxSC rfl (uxSC rfl (uxSC rfl (uxSC rfl (uxSC rfl (uxSC rfl (uxSC rfl (uxSC rfl (uxSC rfl hI.2.2.2.2.2.2.2.2.2.2.2.2.2.2.2.2.2.2.2.2.2.2.2.2.2.2.2.2.2.2.2.2.2.2.1)))))))))
    have k_xSD : xSD W := by
      have r91_240 : W 91 240 = 1 * ρ 0 + 0 := by rw [hW, sU_ne (fun z => by omega), sU_ne (fun z => by omega), sU_ne (fun z => by omega), sU_ne (fun z => by omega), sU_ne (fun z => by omega), sU_ne (fun z => by omega), sU_ne (fun z => by omega), sU_ne (fun z => by omega), sU_at]
      have r91_241 : W 91 241 = 1 * ρ 0 + 0 := by rw [hW, sU_ne (fun z => by omega), sU_ne (fun z => by omega), sU_ne (fun z => by omega), sU_ne (fun z => by omega), sU_ne (fun z => by omega), sU_ne (fun z => by omega), sU_ne (fun z => by omega), sU_at]
      have r91_242 : W 91 242 = 0 := by rw [hW, sU_ne (fun z => by omega), sU_ne (fun z => by omega), sU_ne (fun z => by omega), sU_ne (fun z => by omega), sU_ne (fun z => by omega), sU_ne (fun z => by omega), sU_at]
      have r91_243 : W 91 243 = 1 * ρ 0 + 0 := by rw [hW, sU_ne (fun z => by omega), sU_ne (fun z => by omega), sU_ne (fun z => by omega), sU_ne (fun z => by omega), sU_ne (fun z => by omega), sU_at]
      have r91_244 : W 91 244 = 1 * (xop 5 (ρ 1) 1) + 0 := by rw [hW, sU_ne (fun z => by omega), sU_ne (fun z => by omega), sU_at]
      have r91_245 : W 91 245 = 0 := by rw [hW, sU_ne (fun z => by omega), sU_ne (fun z => by omega), sU_ne (fun z => by omega), sU_ne (fun z => by omega), sU_at]
      have r91_246 : W 91 246 = 1 * ρ 1 + 0 := by rw [hW, sU_ne (fun z => by omega), sU_ne (fun z => by omega), sU_ne (fun z => by omega), sU_at]
      have r91_247 : W 91 247 = 1 * ρ 0 + 0 := by rw [hW, sU_ne (fun z => by omega), sU_at]
      intro h
      rw [r91_241, r91_242, r91_243, r91_244, r91_245, r91_246, r91_247, h0]
      refine ⟨by decide, ?_, by decide⟩
      rw [show ((1 : Int) * 1 + 0) = 1 from rfl, show (1 * ρ 1 + 0 : Int) = ρ 1 by omega]
      omega
    have k_xSE : xSE W := by
      have r : W 91 249 = 0 := by
        have e := m0
        rw [hW, sU_ne (fun z => by omega), sU_ne (fun z => by omega), sU_ne (fun z => by omega), sU_ne (fun z => by omega), sU_ne (fun z => by omega), sU_ne (fun z => by omega), sU_ne (fun z => by omega), sU_ne (fun z => by omega), sU_ne (fun z => by omega)]
        omega
      intro h
      rw [r] at h
      omega
    have k_xSW : xSW W := by
      rw [hW]
      exact (uxSW rfl (uxSW rfl (uxSW rfl (uxSW rfl (uxSW rfl (uxSW rfl (uxSW rfl (uxSW rfl (uxSW rfl hI.2.2.2.2.2.2.2.2.2.2.2.2.2.2.2.2.2.2.2.2.2.2.2.2.2.2.2.2.2.2.2.2.2.2.2.2.2.1)))))))))
    have k_xST : xST W := by
      rw [hW]
      exact (uxST rfl (uxST rfl (uxST rfl (uxST rfl (uxST rfl (uxST rfl (uxST rfl (uxST rfl (uxST rfl hI.2.2.2.2.2.2.2.2.2.2.2.2.2.2.2.2.2.2.2.2.2.2.2.2.2.2.2.2.2.2.2.2.2.2.2.2.2.2.1)))))))))
    have k_xSP : xSP W := by
      rw [hW]
      exact (uxSP rfl (uxSP rfl (uxSP rfl (uxSP rfl (uxSP rfl (uxSP rfl (uxSP rfl (uxSP rfl (uxSP rfl hI.2.2.2.2.2.2.2.2.2.2.2.2.2.2.2.2.2.2.2.2.2.2.2.2.2.2.2.2.2.2.2.2.2.2.2.2.2.2.2.1)))))))))
    have k_xSL : xSL W := by
      rw [hW]
      exact (uxSL rfl (uxSL rfl (uxSL rfl (uxSL rfl (uxSL rfl (uxSL rfl (uxSL rfl (uxSL rfl (uxSL rfl hI.2.2.2.2.2.2.2.2.2.2.2.2.2.2.2.2.2.2.2.2.2.2.2.2.2.2.2.2.2.2.2.2.2.2.2.2.2.2.2.2.1)))))))))
    have k_xSM : xSM W := by
      rw [hW]
      exact (uxSM rfl (uxSM rfl (uxSM rfl (uxSM rfl (uxSM rfl (uxSM rfl (uxSM rfl (uxSM rfl (uxSM rfl hI.2.2.2.2.2.2.2.2.2.2.2.2.2.2.2.2.2.2.2.2.2.2.2.2.2.2.2.2.2.2.2.2.2.2.2.2.2.2.2.2.2.1)))))))))
    have k_xSI : xSI W := by
      rw [hW]
      exact (uxSI rfl (uxSI rfl (uxSI rfl (uxSI rfl (uxSI rfl (uxSI rfl (uxSI rfl (uxSI rfl (uxSI rfl hI.2.2.2.2.2.2.2.2.2.2.2.2.2.2.2.2.2.2.2.2.2.2.2.2.2.2.2.2.2.2.2.2.2.2.2.2.2.2.2.2.2.2.1)))))))))
    have k_xD3 : xD3 W := by
      rw [hW]
      exact (uxD3 rfl (uxD3 rfl (uxD3 rfl (uxD3 rfl (uxD3 rfl (uxD3 rfl (uxD3 rfl (uxD3 rfl (uxD3 rfl hI.2.2.2.2.2.2.2.2.2.2.2.2.2.2.2.2.2.2.2.2.2.2.2.2.2.2.2.2.2.2.2.2.2.2.2.2.2.2.2.2.2.2.2.1)))))))))
    have k_xDV : xDV W := by
      rw [hW]
      exact (uxDV rfl (uxDV rfl (uxDV rfl (uxDV rfl (uxDV rfl (uxDV rfl (uxDV rfl (uxDV rfl (uxDV rfl hI.2.2.2.2.2.2.2.2.2.2.2.2.2.2.2.2.2.2.2.2.2.2.2.2.2.2.2.2.2.2.2.2.2.2.2.2.2.2.2.2.2.2.2.2.1)))))))))
    have k_xDP : xDP W := by
      rw [hW]
      exact (uxDP rfl (uxDP rfl (uxDP rfl (uxDP rfl (uxDP rfl (uxDP rfl (uxDP rfl (uxDP rfl (uxDP rfl hI.2.2.2.2.2.2.2.2.2.2.2.2.2.2.2.2.2.2.2.2.2.2.2.2.2.2.2.2.2.2.2.2.2.2.2.2.2.2.2.2.2.2.2.2.2.1)))))))))
    have k_xDE : xDE W := by
      rw [hW]
      exact (uxDE rfl (uxDE rfl (uxDE rfl (uxDE rfl (uxDE rfl (uxDE rfl (uxDE rfl (uxDE rfl (uxDE rfl hI.2.2.2.2.2.2.2.2.2.2.2.2.2.2.2.2.2.2.2.2.2.2.2.2.2.2.2.2.2.2.2.2.2.2.2.2.2.2.2.2.2.2.2.2.2.2.1)))))))))
    have k_xQ5 : xQ5 W := by
      rw [hW]
      exact (uxQ5 rfl (uxQ5 rfl (uxQ5 rfl (uxQ5 rfl (uxQ5 rfl (uxQ5 rfl (uxQ5 rfl (uxQ5 rfl (uxQ5 rfl hI.2.2.2.2.2.2.2.2.2.2.2.2.2.2.2.2.2.2.2.2.2.2.2.2.2.2.2.2.2.2.2.2.2.2.2.2.2.2.2.2.2.2.2.2.2.2.2.1)))))))))
    have k_xQL : xQL W := by
      rw [hW]
      exact (uxQL rfl (uxQL rfl (uxQL rfl (uxQL rfl (uxQL rfl (uxQL rfl (uxQL rfl (uxQL rfl (uxQL rfl hI.2.2.2.2.2.2.2.2.2.2.2.2.2.2.2.2.2.2.2.2.2.2.2.2.2.2.2.2.2.2.2.2.2.2.2.2.2.2.2.2.2.2.2.2.2.2.2.2.1)))))))))
    have k_xQW : xQW W := by
      rw [hW]
      exact (uxQW rfl (uxQW rfl (uxQW rfl (uxQW rfl (uxQW rfl (uxQW rfl (uxQW rfl (uxQW rfl (uxQW rfl hI.2.2.2.2.2.2.2.2.2.2.2.2.2.2.2.2.2.2.2.2.2.2.2.2.2.2.2.2.2.2.2.2.2.2.2.2.2.2.2.2.2.2.2.2.2.2.2.2.2.1)))))))))
    have k_xQM : xQM W := by
      rw [hW]
      exact (uxQM rfl (uxQM rfl (uxQM rfl (uxQM rfl (uxQM rfl (uxQM rfl (uxQM rfl (uxQM rfl (uxQM rfl hI.2.2.2.2.2.2.2.2.2.2.2.2.2.2.2.2.2.2.2.2.2.2.2.2.2.2.2.2.2.2.2.2.2.2.2.2.2.2.2.2.2.2.2.2.2.2.2.2.2.2.1)))))))))
    have k_xQH : xQH W := by
      rw [hW]
      exact (uxQH rfl (uxQH rfl (uxQH rfl (uxQH rfl (uxQH rfl (uxQH rfl (uxQH rfl (uxQH rfl (uxQH rfl hI.2.2.2.2.2.2.2.2.2.2.2.2.2.2.2.2.2.2.2.2.2.2.2.2.2.2.2.2.2.2.2.2.2.2.2.2.2.2.2.2.2.2.2.2.2.2.2.2.2.2.2)))))))))
    have k_XC : XC W := ⟨k_xS1, k_xS2, k_xS3, k_xS4, k_xS5, k_xS6, k_xS7, k_xS8, k_xS9, k_xSA, k_xSG, k_xSF, k_xSB, k_xSC, k_xSD, k_xSE, k_xSW, k_xST, k_xSP, k_xSL, k_xSM, k_xSI, k_xD3, k_xDV, k_xDP, k_xDE, k_xQ5, k_xQL, k_xQW, k_xQM, k_xQH⟩
    have kXB : XB W := ⟨k_xN1, k_xN2, k_xN3, k_xN4, k_xN5, k_xN6, k_xH1, k_xK1, k_xC1, k_xRW, k_xWT, k_xCU, k_xG2, k_xG3, k_xG4, k_xG5, k_xG6, k_XC⟩
    exact ⟨base, k2, k3, kXA, kXB⟩
-- ro1
def xr_501 : qRu := (11, [[(1, 1), (-1, 2), (-32, 3), (-64, 4), (-128, 5), (-256, 6), (-512, 7), (-1024, 8), (-65536, 9), (-131072, 10)], [(-1, 1), (1, 2), (32, 3), (64, 4), (128, 5), (256, 6), (512, 7), (1024, 8), (65536, 9), (131072, 10)], [(1, 2)], [(31, 0), (-1, 2)], [(1, 8)], [(63, 0), (-1, 8)], [(1, 3)], [(1, 0), (-1, 3)], [(1, 4)], [(1, 0), (-1, 4)], [(1, 5)], [(1, 0), (-1, 5)], [(1, 6)], [(1, 0), (-1, 6)], [(1, 7)], [(1, 0), (-1, 7)], [(1, 9)], [(1, 0), (-1, 9)], [(1, 10)], [(1, 0), (-1, 10)]], [(91, 249, [])], [], [(91, 240, [(1, 0)]), (91, 241, [(1, 0)]), (91, 242, [(1, 0)]), (91, 243, [(2, 0)]), (91, 245, []), (91, 246, [(1, 1)]), (91, 244, [(1, 11)]), (91, 247, [(2, 0)]), (4, 291, [(1, 12)])], [[(-1, 1), (1, 2), (1, 11), (-1, 12)], [(1, 1), (-1, 2), (-1, 11), (1, 12)], [(1, 12)], [(31, 0), (-1, 12)]])
theorem xo_501 : qRok xr_501 := by
  intro ρ M h0 hf hm hI
  have f0 := hf [(1, 1), (-1, 2), (-32, 3), (-64, 4), (-128, 5), (-256, 6), (-512, 7), (-1024, 8), (-65536, 9), (-131072, 10)] (by decide)
  have f1 := hf [(-1, 1), (1, 2), (32, 3), (64, 4), (128, 5), (256, 6), (512, 7), (1024, 8), (65536, 9), (131072, 10)] (by decide)
  have f2 := hf [(1, 2)] (by decide)
  have f3 := hf [(31, 0), (-1, 2)] (by decide)
  have f4 := hf [(1, 8)] (by decide)
  have f5 := hf [(63, 0), (-1, 8)] (by decide)
  have f6 := hf [(1, 3)] (by decide)
  have f7 := hf [(1, 0), (-1, 3)] (by decide)
  have f8 := hf [(1, 4)] (by decide)
  have f9 := hf [(1, 0), (-1, 4)] (by decide)
  have f10 := hf [(1, 5)] (by decide)
  have f11 := hf [(1, 0), (-1, 5)] (by decide)
  have f12 := hf [(1, 6)] (by decide)
  have f13 := hf [(1, 0), (-1, 6)] (by decide)
  have f14 := hf [(1, 7)] (by decide)
  have f15 := hf [(1, 0), (-1, 7)] (by decide)
  have f16 := hf [(1, 9)] (by decide)
  have f17 := hf [(1, 0), (-1, 9)] (by decide)
  have f18 := hf [(1, 10)] (by decide)
  have f19 := hf [(1, 0), (-1, 10)] (by decide)
  simp only [qD, h0] at f0 f1 f2 f3 f4 f5 f6 f7 f8 f9 f10 f11 f12 f13 f14 f15 f16 f17 f18 f19
  have m0 : M 91 249 = 0 := hm (91, 249, []) (by decide)
  have qxSD := hI.2.2.2.2.2.2.2.2.2.2.2.2.2.2.2.2.2.2.2.2.2.2.2.2.2.2.2.2.2.2.2.2.2.2.2.1
  have xb := xbo1 (t := ρ 1) (by omega) (by omega)

  have xc : xop 5 (ρ 1) 2 - ρ 1 = 0 ∨ (xop 5 (ρ 1) 2 - ρ 1 = 2 ∧ (ρ 2 / 2) % 2 = 0) := by omega
  refine ⟨fun a => cond (Nat.blt a 11) (ρ a) (([xop 5 (ρ 1) 2, ((xop 5 (ρ 1) 2 - ρ 1) / 1 + ρ 2)] : List Int).getD (a - 11) 0), fun a ha => ?_, fun f h => ?_, ?_⟩
  · show cond (Nat.blt a 11) (ρ a) _ = ρ a
    rw [show Nat.blt a 11 = true from Nat.ble_eq_true_of_le ha]; rfl
  · have h : f ∈ ([[(-1, 1), (1, 2), (1, 11), (-1, 12)], [(1, 1), (-1, 2), (-1, 11), (1, 12)], [(1, 12)], [(31, 0), (-1, 12)]] : List qF) := h
    simp only [List.mem_cons, List.not_mem_nil, or_false] at h
    rcases h with rfl | rfl | rfl | rfl
    · show 0 ≤ -1 * ρ 1 + (1 * ρ 2 + (1 * (xop 5 (ρ 1) 2) + (-1 * (((xop 5 (ρ 1) 2 - ρ 1) / 1 + ρ 2)) + 0)))
      (try rw [h0]); omega
    · show 0 ≤ 1 * ρ 1 + (-1 * ρ 2 + (-1 * (xop 5 (ρ 1) 2) + (1 * (((xop 5 (ρ 1) 2 - ρ 1) / 1 + ρ 2)) + 0)))
      (try rw [h0]); omega
    · show 0 ≤ 1 * (((xop 5 (ρ 1) 2 - ρ 1) / 1 + ρ 2)) + 0
      (try rw [h0]); omega
    · show 0 ≤ 31 * ρ 0 + (-1 * (((xop 5 (ρ 1) 2 - ρ 1) / 1 + ρ 2)) + 0)
      (try rw [h0]); omega
  · show sI (sU (sU (sU (sU (sU (sU (sU (sU (sU M 91 240 (1 * ρ 0 + 0)) 91 241 (1 * ρ 0 + 0)) 91 242 (1 * ρ 0 + 0)) 91 243 (2 * ρ 0 + 0)) 91 245 (0)) 91 246 (1 * ρ 1 + 0)) 91 244 (1 * (xop 5 (ρ 1) 2) + 0)) 91 247 (2 * ρ 0 + 0)) 4 291 (1 * (((xop 5 (ρ 1) 2 - ρ 1) / 1 + ρ 2)) + 0))
    obtain ⟨W, hW⟩ : ∃ W, W = (sU (sU (sU (sU (sU (sU (sU (sU (sU M 91 240 (1 * ρ 0 + 0)) 91 241 (1 * ρ 0 + 0)) 91 242 (1 * ρ 0 + 0)) 91 243 (2 * ρ 0 + 0)) 91 245 (0)) 91 246 (1 * ρ 1 + 0)) 91 244 (1 * (xop 5 (ρ 1) 2) + 0)) 91 247 (2 * ρ 0 + 0)) 4 291 (1 * (((xop 5 (ρ 1) 2 - ρ 1) / 1 + ρ 2)) + 0)) := ⟨_, rfl⟩
    rw [← hW]
    have base : sI0 W := by
      rw [hW]
      exact (si_u0 (si_u0 (si_u0 (si_u0 (si_u0 (si_u0 (si_u0 (si_u0 (si_u0 hI.1 (fun r hr => by cases hr)) (fun r hr => by cases hr)) (fun r hr => by cases hr)) (fun r hr => by cases hr)) (fun r hr => by cases hr)) (fun r hr => by cases hr)) (fun r hr => by cases hr)) (fun r hr => by cases hr)) (fun r hr => by cases hr))
    have k2 : XI2 W := by
      rw [hW]
      exact (xi2_u rfl (xi2_u rfl (xi2_u rfl (xi2_u rfl (xi2_u rfl (xi2_u rfl (xi2_u rfl (xi2_u rfl (xi2_u rfl hI.2.1)))))))))
    have k3 : XI3 W := by
      rw [hW]
      exact (xi3_u rfl (xi3_u rfl (xi3_u rfl (xi3_u rfl (xi3_u rfl (xi3_u rfl (xi3_u rfl (xi3_u rfl (xi3_u rfl hI.2.2.1)))))))))
    have kXA : XA W := by
      rw [hW]
      exact (uXA rfl (uXA rfl (uXA rfl (uXA rfl (uXA rfl (uXA rfl (uXA rfl (uXA rfl (uXA rfl hI.2.2.2.1)))))))))
    have k_xN1 : xN1 W := by
      rw [hW]
      exact (uxN1 rfl (uxN1 rfl (uxN1 rfl (uxN1 rfl (uxN1 rfl (uxN1 rfl (uxN1 rfl (uxN1 rfl (uxN1 rfl hI.2.2.2.2.1)))))))))
    have k_xN2 : xN2 W := by
      rw [hW]
      exact (uxN2 rfl (uxN2 rfl (uxN2 rfl (uxN2 rfl (uxN2 rfl (uxN2 rfl (uxN2 rfl (uxN2 rfl (uxN2 rfl hI.2.2.2.2.2.1)))))))))
    have k_xN3 : xN3 W := by
      rw [hW]
      exact (uxN3 rfl (uxN3 rfl (uxN3 rfl (uxN3 rfl (uxN3 rfl (uxN3 rfl (uxN3 rfl (uxN3 rfl (uxN3 rfl hI.2.2.2.2.2.2.1)))))))))
    have k_xN4 : xN4 W := by
      rw [hW]
      exact (uxN4 rfl (uxN4 rfl (uxN4 rfl (uxN4 rfl (uxN4 rfl (uxN4 rfl (uxN4 rfl (uxN4 rfl (uxN4 rfl hI.2.2.2.2.2.2.2.1)))))))))
    have k_xN5 : xN5 W := by
      rw [hW]
      exact (uxN5 rfl (uxN5 rfl (uxN5 rfl (uxN5 rfl (uxN5 rfl (uxN5 rfl (uxN5 rfl (uxN5 rfl (uxN5 rfl hI.2.2.2.2.2.2.2.2.1)))))))))
    have k_xN6 : xN6 W := by
      rw [hW]
      exact (uxN6 rfl (uxN6 rfl (uxN6 rfl (uxN6 rfl (uxN6 rfl (uxN6 rfl (uxN6 rfl (uxN6 rfl (uxN6 rfl hI.2.2.2.2.2.2.2.2.2.1)))))))))
    have k_xH1 : xH1 W := by
      rw [hW]
      exact (uxH1 rfl (uxH1 rfl (uxH1 rfl (uxH1 rfl (uxH1 rfl (uxH1 rfl (uxH1 rfl (uxH1 rfl (uxH1 rfl hI.2.2.2.2.2.2.2.2.2.2.1)))))))))
    have k_xK1 : xK1 W := by
      rw [hW]
      exact (uxK1 rfl (uxK1 rfl (uxK1 rfl (uxK1 rfl (uxK1 rfl (uxK1 rfl (uxK1 rfl (uxK1 rfl (uxK1 rfl hI.2.2.2.2.2.2.2.2.2.2.2.1)))))))))
    have k_xC1 : xC1 W := by
      rw [hW]
      exact (uxC1 rfl (uxC1 rfl (uxC1 rfl (uxC1 rfl (uxC1 rfl (uxC1 rfl (uxC1 rfl (uxC1 rfl (uxC1 rfl hI.2.2.2.2.2.2.2.2.2.2.2.2.1)))))))))
    have k_xRW : xRW W := by
      rw [hW]
      exact (uxRW rfl (uxRW rfl (uxRW rfl (uxRW rfl (uxRW rfl (uxRW rfl (uxRW rfl (uxRW rfl (uxRW rfl hI.2.2.2.2.2.2.2.2.2.2.2.2.2.1)))))))))
    have k_xWT : xWT W := by
      rw [hW]
      exact (uxWT rfl (uxWT rfl (uxWT rfl (uxWT rfl (uxWT rfl (uxWT rfl (uxWT rfl (uxWT rfl (uxWT rfl hI.2.2.2.2.2.2.2.2.2.2.2.2.2.2.1)))))))))
    have k_xCU : xCU W := by
      rw [hW]
      exact (uxCU rfl (uxCU rfl (uxCU rfl (uxCU rfl (uxCU rfl (uxCU rfl (uxCU rfl (uxCU rfl (uxCU rfl hI.2.2.2.2.2.2.2.2.2.2.2.2.2.2.2.1)))))))))
    have k_xG2 : xG2 W := by
      rw [hW]
      exact (uxG2 rfl (uxG2 rfl (uxG2 rfl (uxG2 rfl (uxG2 rfl (uxG2 rfl (uxG2 rfl (uxG2 rfl (uxG2 rfl hI.2.2.2.2.2.2.2.2.2.2.2.2.2.2.2.2.1)))))))))
    have k_xG3 : xG3 W := by
      rw [hW]
      exact (uxG3 rfl (uxG3 rfl (uxG3 rfl (uxG3 rfl (uxG3 rfl (uxG3 rfl (uxG3 rfl (uxG3 rfl (uxG3 rfl hI.2.2.2.2.2.2.2.2.2.2.2.2.2.2.2.2.2.1)))))))))
    have k_xG4 : xG4 W := by
      rw [hW]
      exact (uxG4 rfl (uxG4 rfl (uxG4 rfl (uxG4 rfl (uxG4 rfl (uxG4 rfl (uxG4 rfl (uxG4 rfl (uxG4 rfl hI.2.2.2.2.2.2.2.2.2.2.2.2.2.2.2.2.2.2.1)))))))))
    have k_xG5 : xG5 W := by
      rw [hW]
      exact (uxG5 rfl (uxG5 rfl (uxG5 rfl (uxG5 rfl (uxG5 rfl (uxG5 rfl (uxG5 rfl (uxG5 rfl (uxG5 rfl hI.2.2.2.2.2.2.2.2.2.2.2.2.2.2.2.2.2.2.2.1)))))))))
    have k_xG6 : xG6 W := by
      rw [hW]
      exact (uxG6 rfl (uxG6 rfl (uxG6 rfl (uxG6 rfl (uxG6 rfl (uxG6 rfl (uxG6 rfl (uxG6 rfl (uxG6 rfl hI.2.2.2.2.2.2.2.2.2.2.2.2.2.2.2.2.2.2.2.2.1)))))))))
    have k_xS1 : xS1 W := by
      rw [hW]
      exact (uxS1 rfl (uxS1 rfl (uxS1 rfl (uxS1 rfl (uxS1 rfl (uxS1 rfl (uxS1 rfl (uxS1 rfl (uxS1 rfl hI.2.2.2.2.2.2.2.2.2.2.2.2.2.2.2.2.2.2.2.2.2.1)))))))))
    have k_xS2 : xS2 W := by
      rw [hW]
      exact (uxS2 rfl (uxS2 rfl (uxS2 rfl (uxS2 rfl (uxS2 rfl (uxS2 rfl (uxS2 rfl (uxS2 rfl (uxS2 rfl hI.2.2.2.2.2.2.2.2.2.2.2.2.2.2.2.2.2.2.2.2.2.2.1)))))))))
    have k_xS3 : xS3 W := by
      rw [hW]
      exact (uxS3 rfl (uxS3 rfl (uxS3 rfl (uxS3 rfl (uxS3 rfl (uxS3 rfl (uxS3 rfl (uxS3 rfl (uxS3 rfl hI.2.2.2.2.2.2.2.2.2.2.2.2.2.2.2.2.2.2.2.2.2.2.2.1)))))))))
    have k_xS4 : xS4 W := by
      rw [hW]
      exact (uxS4 rfl (uxS4 rfl (uxS4 rfl (uxS4 rfl (uxS4 rfl (uxS4 rfl (uxS4 rfl (uxS4 rfl (uxS4 rfl hI.2.2.2.2.2.2.2.2.2.2.2.2.2.2.2.2.2.2.2.2.2.2.2.2.1)))))))))
    have k_xS5 : xS5 W := by
      rw [hW]
      exact (uxS5 rfl (uxS5 rfl (uxS5 rfl (uxS5 rfl (uxS5 rfl (uxS5 rfl (uxS5 rfl (uxS5 rfl (uxS5 rfl hI.2.2.2.2.2.2.2.2.2.2.2.2.2.2.2.2.2.2.2.2.2.2.2.2.2.1)))))))))
    have k_xS6 : xS6 W := by
      rw [hW]
      exact (uxS6 rfl (uxS6 rfl (uxS6 rfl (uxS6 rfl (uxS6 rfl (uxS6 rfl (uxS6 rfl (uxS6 rfl (uxS6 rfl hI.2.2.2.2.2.2.2.2.2.2.2.2.2.2.2.2.2.2.2.2.2.2.2.2.2.2.1)))))))))
    have k_xS7 : xS7 W := by
      rw [hW]
      exact (uxS7 rfl (uxS7 rfl (uxS7 rfl (uxS7 rfl (uxS7 rfl (uxS7 rfl (uxS7 rfl (uxS7 rfl (uxS7 rfl hI.2.2.2.2.2.2.2.2.2.2.2.2.2.2.2.2.2.2.2.2.2.2.2.2.2.2.2.1)))))))))
    have k_xS8 : xS8 W := by
      rw [hW]
      exact (uxS8 rfl (uxS8 rfl (uxS8 rfl (uxS8 rfl (uxS8 rfl (uxS8 rfl (uxS8 rfl (uxS8 rfl (uxS8 rfl hI.2.2.2.2.2.2.2.2.2.2.2.2.2.2.2.2.2.2.2.2.2.2.2.2.2.2.2.2.1)))))))))
    have k_xS9 : xS9 W := by
      rw [hW]
      exact (uxS9 rfl (uxS9 rfl (uxS9 rfl (uxS9 rfl (uxS9 rfl (uxS9 rfl (uxS9 rfl (uxS9 rfl (uxS9 rfl hI.2.2.2.2.2.2.2.2.2.2.2.2.2.2.2.2.2.2.2.2.2.2.2.2.2.2.2.2.2.1)))))))))
    have k_xSA : xSA W := by
      rw [hW]
      exact (uxSA rfl (uxSA rfl (uxSA rfl (uxSA rfl (uxSA rfl (uxSA rfl (uxSA rfl (uxSA rfl (uxSA rfl hI.2.2.2.2.2.2.2.2.2.2.2.2.2.2.2.2.2.2.2.2.2.2.2.2.2.2.2.2.2.2.1)))))))))
    have k_xSG : xSG W := by
      rw [hW]
      exact (uxSG rfl (uxSG rfl (uxSG rfl (uxSG rfl (uxSG rfl (uxSG rfl (uxSG rfl (uxSG rfl (uxSG rfl hI.2.2.2.2.2.2.2.2.2.2.2.2.2.2.2.2.2.2.2.2.2.2.2.2.2.2.2.2.2.2.2.1)))))))))
    have k_xSF : xSF W := by
      rw [hW]
      exact (uxSF rfl (uxSF rfl (uxSF rfl (uxSF rfl (uxSF rfl (uxSF rfl (uxSF rfl (uxSF rfl (uxSF rfl hI.2.2.2.2.2.2.2.2.2.2.2.2.2.2.2.2.2.2.2.2.2.2.2.2.2.2.2.2.2.2.2.2.1)))))))))
    have k_xSB : xSB W := by
      rw [hW]
      exact (uxSB rfl (uxSB rfl (uxSB rfl (uxSB rfl (uxSB rfl (uxSB rfl (uxSB rfl (uxSB rfl (uxSB rfl hI.2.2.2.2.2.2.2.2.2.2.2.2.2.2.2.2.2.2.2.2.2.2.2.2.2.2.2.2.2.2.2.2.2.1)))))))))
    have k_xSC : xSC W := by
      rw [hW]
      exact (uxSC rfl (uxSC rfl (uxSC rfl (uxSC rfl (uxSC rfl (uxSC rfl (uxSC rfl (uxSC rfl (uxSC rfl hI.2.2.2.2.2.2.2.2.2.2.2.2.2.2.2.2.2.2.2.2.2.2.2.2.2.2.2.2.2.2.2.2.2.2.1)))))))))
    have k_xSD : xSD W := by
      have r91_240 : W 91 240 = 1 * ρ 0 + 0 := by rw [hW, sU_ne (fun z => by omega), sU_ne (fun z => by omega), sU_ne (fun z => by omega), sU_ne (fun z => by omega), sU_ne (fun z => by omega), sU_ne (fun z => by omega), sU_ne (fun z => by omega), sU_ne (fun z => by omega), sU_at]
      have r91_241 : W 91 241 = 1 * ρ 0 + 0 := by rw [hW, sU_ne (fun z => by omega), sU_ne (fun z => by omega), sU_ne (fun z => by omega), sU_ne (fun z => by omega), sU_ne (fun z => by omega), sU_ne (fun z => by omega), sU_ne (fun z => by omega), sU_at]
      have r91_242 : W 91 242 = 1 * ρ 0 + 0 := by rw [hW, sU_ne (fun z => by omega), sU_ne (fun z => by omega), sU_ne (fun z => by omega), sU_ne (fun z => by omega), sU_ne (fun z => by omega), sU_ne (fun z => by omega), sU_at]
      have r91_243 : W 91 243 = 2 * ρ 0 + 0 := by rw [hW, sU_ne (fun z => by omega), sU_ne (fun z => by omega), sU_ne (fun z => by omega), sU_ne (fun z => by omega), sU_ne (fun z => by omega), sU_at]
      have r91_244 : W 91 244 = 1 * (xop 5 (ρ 1) 2) + 0 := by rw [hW, sU_ne (fun z => by omega), sU_ne (fun z => by omega), sU_at]
      have r91_245 : W 91 245 = 0 := by rw [hW, sU_ne (fun z => by omega), sU_ne (fun z => by omega), sU_ne (fun z => by omega), sU_ne (fun z => by omega), sU_at]
      have r91_246 : W 91 246 = 1 * ρ 1 + 0 := by rw [hW, sU_ne (fun z => by omega), sU_ne (fun z => by omega), sU_ne (fun z => by omega), sU_at]
      have r91_247 : W 91 247 = 2 * ρ 0 + 0 := by rw [hW, sU_ne (fun z => by omega), sU_at]
      intro h
      rw [r91_241, r91_242, r91_243, r91_244, r91_245, r91_246, r91_247, h0]
      refine ⟨by decide, ?_, by decide⟩
      rw [show ((2 : Int) * 1 + 0) = 2 from rfl, show (1 * ρ 1 + 0 : Int) = ρ 1 by omega]
      omega
    have k_xSE : xSE W := by
      have r : W 91 249 = 0 := by
        have e := m0
        rw [hW, sU_ne (fun z => by omega), sU_ne (fun z => by omega), sU_ne (fun z => by omega), sU_ne (fun z => by omega), sU_ne (fun z => by omega), sU_ne (fun z => by omega), sU_ne (fun z => by omega), sU_ne (fun z => by omega), sU_ne (fun z => by omega)]
        omega
      intro h
      rw [r] at h
      omega
    have k_xSW : xSW W := by
      rw [hW]
      exact (uxSW rfl (uxSW rfl (uxSW rfl (uxSW rfl (uxSW rfl (uxSW rfl (uxSW rfl (uxSW rfl (uxSW rfl hI.2.2.2.2.2.2.2.2.2.2.2.2.2.2.2.2.2.2.2.2.2.2.2.2.2.2.2.2.2.2.2.2.2.2.2.2.2.1)))))))))
    have k_xST : xST W := by
      rw [hW]
      exact (uxST rfl (uxST rfl (uxST rfl (uxST rfl (uxST rfl (uxST rfl (uxST rfl (uxST rfl (uxST rfl hI.2.2.2.2.2.2.2.2.2.2.2.2.2.2.2.2.2.2.2.2.2.2.2.2.2.2.2.2.2.2.2.2.2.2.2.2.2.2.1)))))))))
    have k_xSP : xSP W := by
      rw [hW]
      exact (uxSP rfl (uxSP rfl (uxSP rfl (uxSP rfl (uxSP rfl (uxSP rfl (uxSP rfl (uxSP rfl (uxSP rfl hI.2.2.2.2.2.2.2.2.2.2.2.2.2.2.2.2.2.2.2.2.2.2.2.2.2.2.2.2.2.2.2.2.2.2.2.2.2.2.2.1)))))))))
    have k_xSL : xSL W := by
      rw [hW]
      exact (uxSL rfl (uxSL rfl (uxSL rfl (uxSL rfl (uxSL rfl (uxSL rfl (uxSL rfl (uxSL rfl (uxSL rfl hI.2.2.2.2.2.2.2.2.2.2.2.2.2.2.2.2.2.2.2.2.2.2.2.2.2.2.2.2.2.2.2.2.2.2.2.2.2.2.2.2.1)))))))))
    have k_xSM : xSM W := by
      rw [hW]
      exact (uxSM rfl (uxSM rfl (uxSM rfl (uxSM rfl (uxSM rfl (uxSM rfl (uxSM rfl (uxSM rfl (uxSM rfl hI.2.2.2.2.2.2.2.2.2.2.2.2.2.2.2.2.2.2.2.2.2.2.2.2.2.2.2.2.2.2.2.2.2.2.2.2.2.2.2.2.2.1)))))))))
    have k_xSI : xSI W := by
      rw [hW]
      exact (uxSI rfl (uxSI rfl (uxSI rfl (uxSI rfl (uxSI rfl (uxSI rfl (uxSI rfl (uxSI rfl (uxSI rfl hI.2.2.2.2.2.2.2.2.2.2.2.2.2.2.2.2.2.2.2.2.2.2.2.2.2.2.2.2.2.2.2.2.2.2.2.2.2.2.2.2.2.2.1)))))))))
    have k_xD3 : xD3 W := by
      rw [hW]
      exact (uxD3 rfl (uxD3 rfl (uxD3 rfl (uxD3 rfl (uxD3 rfl (uxD3 rfl (uxD3 rfl (uxD3 rfl (uxD3 rfl hI.2.2.2.2.2.2.2.2.2.2.2.2.2.2.2.2.2.2.2.2.2.2.2.2.2.2.2.2.2.2.2.2.2.2.2.2.2.2.2.2.2.2.2.1)))))))))
    have k_xDV : xDV W := by
      rw [hW]
      exact (uxDV rfl (uxDV rfl (uxDV rfl (uxDV rfl (uxDV rfl (uxDV rfl (uxDV rfl (uxDV rfl (uxDV rfl hI.2.2.2.2.2.2.2.2.2.2.2.2.2.2.2.2.2.2.2.2.2.2.2.2.2.2.2.2.2.2.2.2.2.2.2.2.2.2.2.2.2.2.2.2.1)))))))))
    have k_xDP : xDP W := by
      rw [hW]
      exact (uxDP rfl (uxDP rfl (uxDP rfl (uxDP rfl (uxDP rfl (uxDP rfl (uxDP rfl (uxDP rfl (uxDP rfl hI.2.2.2.2.2.2.2.2.2.2.2.2.2.2.2.2.2.2.2.2.2.2.2.2.2.2.2.2.2.2.2.2.2.2.2.2.2.2.2.2.2.2.2.2.2.1)))))))))
    have k_xDE : xDE W := by
      rw [hW]
      exact (uxDE rfl (uxDE rfl (uxDE rfl (uxDE rfl (uxDE rfl (uxDE rfl (uxDE rfl (uxDE rfl (uxDE rfl hI.2.2.2.2.2.2.2.2.2.2.2.2.2.2.2.2.2.2.2.2.2.2.2.2.2.2.2.2.2.2.2.2.2.2.2.2.2.2.2.2.2.2.2.2.2.2.1)))))))))
    have k_xQ5 : xQ5 W := by
      rw [hW]
      exact (uxQ5 rfl (uxQ5 rfl (uxQ5 rfl (uxQ5 rfl (uxQ5 rfl (uxQ5 rfl (uxQ5 rfl (uxQ5 rfl (uxQ5 rfl hI.2.2.2.2.2.2.2.2.2.2.2.2.2.2.2.2.2.2.2.2.2.2.2.2.2.2.2.2.2.2.2.2.2.2.2.2.2.2.2.2.2.2.2.2.2.2.2.1)))))))))
    have k_xQL : xQL W := by
      rw [hW]
      exact (uxQL rfl (uxQL rfl (uxQL rfl (uxQL rfl (uxQL rfl (uxQL rfl (uxQL rfl (uxQL rfl (uxQL rfl hI.2.2.2.2.2.2.2.2.2.2.2.2.2.2.2.2.2.2.2.2.2.2.2.2.2.2.2.2.2.2.2.2.2.2.2.2.2.2.2.2.2.2.2.2.2.2.2.2.1)))))))))
    have k_xQW : xQW W := by
      rw [hW]
      exact (uxQW rfl (uxQW rfl (uxQW rfl (uxQW rfl (uxQW rfl (uxQW rfl (uxQW rfl (uxQW rfl (uxQW rfl hI.2.2.2.2.2.2.2.2.2.2.2.2.2.2.2.2.2.2.2.2.2.2.2.2.2.2.2.2.2.2.2.2.2.2.2.2.2.2.2.2.2.2.2.2.2.2.2.2.2.1)))))))))
    have k_xQM : xQM W := by
      rw [hW]
      exact (uxQM rfl (uxQM rfl (uxQM rfl (uxQM rfl (uxQM rfl (uxQM rfl (uxQM rfl (uxQM rfl (uxQM rfl hI.2.2.2.2.2.2.2.2.2.2.2.2.2.2.2.2.2.2.2.2.2.2.2.2.2.2.2.2.2.2.2.2.2.2.2.2.2.2.2.2.2.2.2.2.2.2.2.2.2.2.1)))))))))
    have k_xQH : xQH W := by
      rw [hW]
      exact (uxQH rfl (uxQH rfl (uxQH rfl (uxQH rfl (uxQH rfl (uxQH rfl (uxQH rfl (uxQH rfl (uxQH rfl hI.2.2.2.2.2.2.2.2.2.2.2.2.2.2.2.2.2.2.2.2.2.2.2.2.2.2.2.2.2.2.2.2.2.2.2.2.2.2.2.2.2.2.2.2.2.2.2.2.2.2.2)))))))))
    have k_XC : XC W := ⟨k_xS1, k_xS2, k_xS3, k_xS4, k_xS5, k_xS6, k_xS7, k_xS8, k_xS9, k_xSA, k_xSG, k_xSF, k_xSB, k_xSC, k_xSD, k_xSE, k_xSW, k_xST, k_xSP, k_xSL, k_xSM, k_xSI, k_xD3, k_xDV, k_xDP, k_xDE, k_xQ5, k_xQL, k_xQW, k_xQM, k_xQH⟩
    have kXB : XB W := ⟨k_xN1, k_xN2, k_xN3, k_xN4, k_xN5, k_xN6, k_xH1, k_xK1, k_xC1, k_xRW, k_xWT, k_xCU, k_xG2, k_xG3, k_xG4, k_xG5, k_xG6, k_XC⟩
    exact ⟨base, k2, k3, kXA, kXB⟩
-- ro2
def xr_502 : qRu := (11, [[(1, 1), (-1, 2), (-32, 3), (-64, 4), (-128, 5), (-256, 6), (-512, 7), (-1024, 8), (-65536, 9), (-131072, 10)], [(-1, 1), (1, 2), (32, 3), (64, 4), (128, 5), (256, 6), (512, 7), (1024, 8), (65536, 9), (131072, 10)], [(1, 2)], [(31, 0), (-1, 2)], [(1, 8)], [(63, 0), (-1, 8)], [(1, 3)], [(1, 0), (-1, 3)], [(1, 4)], [(1, 0), (-1, 4)], [(1, 5)], [(1, 0), (-1, 5)], [(1, 6)], [(1, 0), (-1, 6)], [(1, 7)], [(1, 0), (-1, 7)], [(1, 9)], [(1, 0), (-1, 9)], [(1, 10)], [(1, 0), (-1, 10)]], [(91, 249, [])], [], [(91, 240, [(1, 0)]), (91, 241, [(1, 0)]), (91, 242, [(2, 0)]), (91, 243, [(4, 0)]), (91, 245, []), (91, 246, [(1, 1)]), (91, 244, [(1, 11)]), (91, 247, [(4, 0)]), (4, 291, [(1, 12)])], [[(-1, 1), (1, 2), (1, 11), (-1, 12)], [(1, 1), (-1, 2), (-1, 11), (1, 12)], [(1, 12)], [(31, 0), (-1, 12)]])
theorem xo_502 : qRok xr_502 := by
  intro ρ M h0 hf hm hI
  have f0 := hf [(1, 1), (-1, 2), (-32, 3), (-64, 4), (-128, 5), (-256, 6), (-512, 7), (-1024, 8), (-65536, 9), (-131072, 10)] (by decide)
  have f1 := hf [(-1, 1), (1, 2), (32, 3), (64, 4), (128, 5), (256, 6), (512, 7), (1024, 8), (65536, 9), (131072, 10)] (by decide)
  have f2 := hf [(1, 2)] (by decide)
  have f3 := hf [(31, 0), (-1, 2)] (by decide)
  have f4 := hf [(1, 8)] (by decide)
  have f5 := hf [(63, 0), (-1, 8)] (by decide)
  have f6 := hf [(1, 3)] (by decide)
  have f7 := hf [(1, 0), (-1, 3)] (by decide)
  have f8 := hf [(1, 4)] (by decide)
  have f9 := hf [(1, 0), (-1, 4)] (by decide)
  have f10 := hf [(1, 5)] (by decide)
  have f11 := hf [(1, 0), (-1, 5)] (by decide)
  have f12 := hf [(1, 6)] (by decide)
  have f13 := hf [(1, 0), (-1, 6)] (by decide)
  have f14 := hf [(1, 7)] (by decide)
  have f15 := hf [(1, 0), (-1, 7)] (by decide)
  have f16 := hf [(1, 9)] (by decide)
  have f17 := hf [(1, 0), (-1, 9)] (by decide)
  have f18 := hf [(1, 10)] (by decide)
  have f19 := hf [(1, 0), (-1, 10)] (by decide)
  simp only [qD, h0] at f0 f1 f2 f3 f4 f5 f6 f7 f8 f9 f10 f11 f12 f13 f14 f15 f16 f17 f18 f19
  have m0 : M 91 249 = 0 := hm (91, 249, []) (by decide)
  have qxSD := hI.2.2.2.2.2.2.2.2.2.2.2.2.2.2.2.2.2.2.2.2.2.2.2.2.2.2.2.2.2.2.2.2.2.2.2.1
  have xb := xbo2 (t := ρ 1) (by omega) (by omega)

  have xc : xop 5 (ρ 1) 4 - ρ 1 = 0 ∨ (xop 5 (ρ 1) 4 - ρ 1 = 4 ∧ (ρ 2 / 4) % 2 = 0) := by omega
  refine ⟨fun a => cond (Nat.blt a 11) (ρ a) (([xop 5 (ρ 1) 4, ((xop 5 (ρ 1) 4 - ρ 1) / 1 + ρ 2)] : List Int).getD (a - 11) 0), fun a ha => ?_, fun f h => ?_, ?_⟩
  · show cond (Nat.blt a 11) (ρ a) _ = ρ a
    rw [show Nat.blt a 11 = true from Nat.ble_eq_true_of_le ha]; rfl
  · have h : f ∈ ([[(-1, 1), (1, 2), (1, 11), (-1, 12)], [(1, 1), (-1, 2), (-1, 11), (1, 12)], [(1, 12)], [(31, 0), (-1, 12)]] : List qF) := h
    simp only [List.mem_cons, List.not_mem_nil, or_false] at h
    rcases h with rfl | rfl | rfl | rfl
    · show 0 ≤ -1 * ρ 1 + (1 * ρ 2 + (1 * (xop 5 (ρ 1) 4) + (-1 * (((xop 5 (ρ 1) 4 - ρ 1) / 1 + ρ 2)) + 0)))
      (try rw [h0]); omega
    · show 0 ≤ 1 * ρ 1 + (-1 * ρ 2 + (-1 * (xop 5 (ρ 1) 4) + (1 * (((xop 5 (ρ 1) 4 - ρ 1) / 1 + ρ 2)) + 0)))
      (try rw [h0]); omega
    · show 0 ≤ 1 * (((xop 5 (ρ 1) 4 - ρ 1) / 1 + ρ 2)) + 0
      (try rw [h0]); omega
    · show 0 ≤ 31 * ρ 0 + (-1 * (((xop 5 (ρ 1) 4 - ρ 1) / 1 + ρ 2)) + 0)
      (try rw [h0]); omega
  · show sI (sU (sU (sU (sU (sU (sU (sU (sU (sU M 91 240 (1 * ρ 0 + 0)) 91 241 (1 * ρ 0 + 0)) 91 242 (2 * ρ 0 + 0)) 91 243 (4 * ρ 0 + 0)) 91 245 (0)) 91 246 (1 * ρ 1 + 0)) 91 244 (1 * (xop 5 (ρ 1) 4) + 0)) 91 247 (4 * ρ 0 + 0)) 4 291 (1 * (((xop 5 (ρ 1) 4 - ρ 1) / 1 + ρ 2)) + 0))
    obtain ⟨W, hW⟩ : ∃ W, W = (sU (sU (sU (sU (sU (sU (sU (sU (sU M 91 240 (1 * ρ 0 + 0)) 91 241 (1 * ρ 0 + 0)) 91 242 (2 * ρ 0 + 0)) 91 243 (4 * ρ 0 + 0)) 91 245 (0)) 91 246 (1 * ρ 1 + 0)) 91 244 (1 * (xop 5 (ρ 1) 4) + 0)) 91 247 (4 * ρ 0 + 0)) 4 291 (1 * (((xop 5 (ρ 1) 4 - ρ 1) / 1 + ρ 2)) + 0)) := ⟨_, rfl⟩
    rw [← hW]
    have base : sI0 W := by
      rw [hW]
      exact (si_u0 (si_u0 (si_u0 (si_u0 (si_u0 (si_u0 (si_u0 (si_u0 (si_u0 hI.1 (fun r hr => by cases hr)) (fun r hr => by cases hr)) (fun r hr => by cases hr)) (fun r hr => by cases hr)) (fun r hr => by cases hr)) (fun r hr => by cases hr)) (fun r hr => by cases hr)) (fun r hr => by cases hr)) (fun r hr => by cases hr))
    have k2 : XI2 W := by
      rw [hW]
      exact (xi2_u rfl (xi2_u rfl (xi2_u rfl (xi2_u rfl (xi2_u rfl (xi2_u rfl (xi2_u rfl (xi2_u rfl (xi2_u rfl hI.2.1)))))))))
    have k3 : XI3 W := by
      rw [hW]
      exact (xi3_u rfl (xi3_u rfl (xi3_u rfl (xi3_u rfl (xi3_u rfl (xi3_u rfl (xi3_u rfl (xi3_u rfl (xi3_u rfl hI.2.2.1)))))))))
    have kXA : XA W := by
      rw [hW]
      exact (uXA rfl (uXA rfl (uXA rfl (uXA rfl (uXA rfl (uXA rfl (uXA rfl (uXA rfl (uXA rfl hI.2.2.2.1)))))))))
    have k_xN1 : xN1 W := by
      rw [hW]
      exact (uxN1 rfl (uxN1 rfl (uxN1 rfl (uxN1 rfl (uxN1 rfl (uxN1 rfl (uxN1 rfl (uxN1 rfl (uxN1 rfl hI.2.2.2.2.1)))))))))
    have k_xN2 : xN2 W := by
      rw [hW]
      exact (uxN2 rfl (uxN2 rfl (uxN2 rfl (uxN2 rfl (uxN2 rfl (uxN2 rfl (uxN2 rfl (uxN2 rfl (uxN2 rfl hI.2.2.2.2.2.1)))))))))
    have k_xN3 : xN3 W := by
      rw [hW]
      exact (uxN3 rfl (uxN3 rfl (uxN3 rfl (uxN3 rfl (uxN3 rfl (uxN3 rfl (uxN3 rfl (uxN3 rfl (uxN3 rfl hI.2.2.2.2.2.2.1)))))))))
    have k_xN4 : xN4 W := by
      rw [hW]
      exact (uxN4 rfl (uxN4 rfl (uxN4 rfl (uxN4 rfl (uxN4 rfl (uxN4 rfl (uxN4 rfl (uxN4 rfl (uxN4 rfl hI.2.2.2.2.2.2.2.1)))))))))
    have k_xN5 : xN5 W := by
      rw [hW]
      exact (uxN5 rfl (uxN5 rfl (uxN5 rfl (uxN5 rfl (uxN5 rfl (uxN5 rfl (uxN5 rfl (uxN5 rfl (uxN5 rfl hI.2.2.2.2.2.2.2.2.1)))))))))
    have k_xN6 : xN6 W := by
      rw [hW]
      exact (uxN6 rfl (uxN6 rfl (uxN6 rfl (uxN6 rfl (uxN6 rfl (uxN6 rfl (uxN6 rfl (uxN6 rfl (uxN6 rfl hI.2.2.2.2.2.2.2.2.2.1)))))))))
    have k_xH1 : xH1 W := by
      rw [hW]
      exact (uxH1 rfl (uxH1 rfl (uxH1 rfl (uxH1 rfl (uxH1 rfl (uxH1 rfl (uxH1 rfl (uxH1 rfl (uxH1 rfl hI.2.2.2.2.2.2.2.2.2.2.1)))))))))
    have k_xK1 : xK1 W := by
      rw [hW]
      exact (uxK1 rfl (uxK1 rfl (uxK1 rfl (uxK1 rfl (uxK1 rfl (uxK1 rfl (uxK1 rfl (uxK1 rfl (uxK1 rfl hI.2.2.2.2.2.2.2.2.2.2.2.1)))))))))
    have k_xC1 : xC1 W := by
      rw [hW]
      exact (uxC1 rfl (uxC1 rfl (uxC1 rfl (uxC1 rfl (uxC1 rfl (uxC1 rfl (uxC1 rfl (uxC1 rfl (uxC1 rfl hI.2.2.2.2.2.2.2.2.2.2.2.2.1)))))))))
    have k_xRW : xRW W := by
      rw [hW]
      exact (uxRW rfl (uxRW rfl (uxRW rfl (uxRW rfl (uxRW rfl (uxRW rfl (uxRW rfl (uxRW rfl (uxRW rfl hI.2.2.2.2.2.2.2.2.2.2.2.2.2.1)))))))))
    have k_xWT : xWT W := by
      rw [hW]
      exact (uxWT rfl (uxWT rfl (uxWT rfl (uxWT rfl (uxWT rfl (uxWT rfl (uxWT rfl (uxWT rfl (uxWT rfl hI.2.2.2.2.2.2.2.2.2.2.2.2.2.2.1)))))))))
    have k_xCU : xCU W := by
      rw [hW]
      exact (uxCU rfl (uxCU rfl (uxCU rfl (uxCU rfl (uxCU rfl (uxCU rfl (uxCU rfl (uxCU rfl (uxCU rfl hI.2.2.2.2.2.2.2.2.2.2.2.2.2.2.2.1)))))))))
    have k_xG2 : xG2 W := by
      rw [hW]
      exact (uxG2 rfl (uxG2 rfl (uxG2 rfl (uxG2 rfl (uxG2 rfl (uxG2 rfl (uxG2 rfl (uxG2 rfl (uxG2 rfl hI.2.2.2.2.2.2.2.2.2.2.2.2.2.2.2.2.1)))))))))
    have k_xG3 : xG3 W := by
      rw [hW]
      exact (uxG3 rfl (uxG3 rfl (uxG3 rfl (uxG3 rfl (uxG3 rfl (uxG3 rfl (uxG3 rfl (uxG3 rfl (uxG3 rfl hI.2.2.2.2.2.2.2.2.2.2.2.2.2.2.2.2.2.1)))))))))
    have k_xG4 : xG4 W := by
      rw [hW]
      exact (uxG4 rfl (uxG4 rfl (uxG4 rfl (uxG4 rfl (uxG4 rfl (uxG4 rfl (uxG4 rfl (uxG4 rfl (uxG4 rfl hI.2.2.2.2.2.2.2.2.2.2.2.2.2.2.2.2.2.2.1)))))))))
    have k_xG5 : xG5 W := by
      rw [hW]
      exact (uxG5 rfl (uxG5 rfl (uxG5 rfl (uxG5 rfl (uxG5 rfl (uxG5 rfl (uxG5 rfl (uxG5 rfl (uxG5 rfl hI.2.2.2.2.2.2.2.2.2.2.2.2.2.2.2.2.2.2.2.1)))))))))
    have k_xG6 : xG6 W := by
      rw [hW]
      exact (uxG6 rfl (uxG6 rfl (uxG6 rfl (uxG6 rfl (uxG6 rfl (uxG6 rfl (uxG6 rfl (uxG6 rfl (uxG6 rfl hI.2.2.2.2.2.2.2.2.2.2.2.2.2.2.2.2.2.2.2.2.1)))))))))
    have k_xS1 : xS1 W := by
      rw [hW]
      exact (uxS1 rfl (uxS1 rfl (uxS1 rfl (uxS1 rfl (uxS1 rfl (uxS1 rfl (uxS1 rfl (uxS1 rfl (uxS1 rfl hI.2.2.2.2.2.2.2.2.2.2.2.2.2.2.2.2.2.2.2.2.2.1)))))))))
    have k_xS2 : xS2 W := by
      rw [hW]
      exact (uxS2 rfl (uxS2 rfl (uxS2 rfl (uxS2 rfl (uxS2 rfl (uxS2 rfl (uxS2 rfl (uxS2 rfl (uxS2 rfl hI.2.2.2.2.2.2.2.2.2.2.2.2.2.2.2.2.2.2.2.2.2.2.1)))))))))
    have k_xS3 : xS3 W := by
      rw [hW]
      exact (uxS3 rfl (uxS3 rfl (uxS3 rfl (uxS3 rfl (uxS3 rfl (uxS3 rfl (uxS3 rfl (uxS3 rfl (uxS3 rfl hI.2.2.2.2.2.2.2.2.2.2.2.2.2.2.2.2.2.2.2.2.2.2.2.1)))))))))
    have k_xS4 : xS4 W := by
      rw [hW]
      exact (uxS4 rfl (uxS4 rfl (uxS4 rfl (uxS4 rfl (uxS4 rfl (uxS4 rfl (uxS4 rfl (uxS4 rfl (uxS4 rfl hI.2.2.2.2.2.2.2.2.2.2.2.2.2.2.2.2.2.2.2.2.2.2.2.2.1)))))))))
    have k_xS5 : xS5 W := by
      rw [hW]
      exact (uxS5 rfl (uxS5 rfl (uxS5 rfl (uxS5 rfl (uxS5 rfl (uxS5 rfl (uxS5 rfl (uxS5 rfl (uxS5 rfl hI.2.2.2.2.2.2.2.2.2.2.2.2.2.2.2.2.2.2.2.2.2.2.2.2.2.1)))))))))
    have k_xS6 : xS6 W := by
      rw [hW]
      exact (uxS6 rfl (uxS6 rfl (uxS6 rfl (uxS6 rfl (uxS6 rfl (uxS6 rfl (uxS6 rfl (uxS6 rfl (uxS6 rfl hI.2.2.2.2.2.2.2.2.2.2.2.2.2.2.2.2.2.2.2.2.2.2.2.2.2.2.1)))))))))
    have k_xS7 : xS7 W := by
      rw [hW]
      exact (uxS7 rfl (uxS7 rfl (uxS7 rfl (uxS7 rfl (uxS7 rfl (uxS7 rfl (uxS7 rfl (uxS7 rfl (uxS7 rfl hI.2.2.2.2.2.2.2.2.2.2.2.2.2.2.2.2.2.2.2.2.2.2.2.2.2.2.2.1)))))))))
    have k_xS8 : xS8 W := by
      rw [hW]
      exact (uxS8 rfl (uxS8 rfl (uxS8 rfl (uxS8 rfl (uxS8 rfl (uxS8 rfl (uxS8 rfl (uxS8 rfl (uxS8 rfl hI.2.2.2.2.2.2.2.2.2.2.2.2.2.2.2.2.2.2.2.2.2.2.2.2.2.2.2.2.1)))))))))
    have k_xS9 : xS9 W := by
      rw [hW]
      exact (uxS9 rfl (uxS9 rfl (uxS9 rfl (uxS9 rfl (uxS9 rfl (uxS9 rfl (uxS9 rfl (uxS9 rfl (uxS9 rfl hI.2.2.2.2.2.2.2.2.2.2.2.2.2.2.2.2.2.2.2.2.2.2.2.2.2.2.2.2.2.1)))))))))
    have k_xSA : xSA W := by
      rw [hW]
      exact (uxSA rfl (uxSA rfl (uxSA rfl (uxSA rfl (uxSA rfl (uxSA rfl (uxSA rfl (uxSA rfl (uxSA rfl hI.2.2.2.2.2.2.2.2.2.2.2.2.2.2.2.2.2.2.2.2.2.2.2.2.2.2.2.2.2.2.1)))))))))
    have k_xSG : xSG W := by
      rw [hW]
      exact (uxSG rfl (uxSG rfl (uxSG rfl (uxSG rfl (uxSG rfl (uxSG rfl (uxSG rfl (uxSG rfl (uxSG rfl hI.2.2.2.2.2.2.2.2.2.2.2.2.2.2.2.2.2.2.2.2.2.2.2.2.2.2.2.2.2.2.2.1)))))))))
    have k_xSF : xSF W := by
      rw [hW]
      exact (uxSF rfl (uxSF rfl (uxSF rfl (uxSF rfl (uxSF rfl (uxSF rfl (uxSF rfl (uxSF rfl (uxSF rfl hI.2.2.2.2.2.2.2.2.2.2.2.2.2.2.2.2.2.2.2.2.2.2.2.2.2.2.2.2.2.2.2.2.1)))))))))
    have k_xSB : xSB W := by
      rw [hW]
      exact (uxSB rfl (uxSB rfl (uxSB rfl (uxSB rfl (uxSB rfl (uxSB rfl (uxSB rfl (uxSB rfl (uxSB rfl hI.2.2.2.2.2.2.2.2.2.2.2.2.2.2.2.2.2.2.2.2.2.2.2.2.2.2.2.2.2.2.2.2.2.1)))))))))
    have k_xSC : xSC W := by
      rw [hW]
      exact (uxSC rfl (uxSC rfl (uxSC rfl (uxSC rfl (uxSC rfl (uxSC rfl (uxSC rfl (uxSC rfl (uxSC rfl hI.2.2.2.2.2.2.2.2.2.2.2.2.2.2.2.2.2.2.2.2.2.2.2.2.2.2.2.2.2.2.2.2.2.2.1)))))))))
    have k_xSD : xSD W := by
      have r91_240 : W 91 240 = 1 * ρ 0 + 0 := by rw [hW, sU_ne (fun z => by omega), sU_ne (fun z => by omega), sU_ne (fun z => by omega), sU_ne (fun z => by omega), sU_ne (fun z => by omega), sU_ne (fun z => by omega), sU_ne (fun z => by omega), sU_ne (fun z => by omega), sU_at]
      have r91_241 : W 91 241 = 1 * ρ 0 + 0 := by rw [hW, sU_ne (fun z => by omega), sU_ne (fun z => by omega), sU_ne (fun z => by omega), sU_ne (fun z => by omega), sU_ne (fun z => by omega), sU_ne (fun z => by omega), sU_ne (fun z => by omega), sU_at]
      have r91_242 : W 91 242 = 2 * ρ 0 + 0 := by rw [hW, sU_ne (fun z => by omega), sU_ne (fun z => by omega), sU_ne (fun z => by omega), sU_ne (fun z => by omega), sU_ne (fun z => by omega), sU_ne (fun z => by omega), sU_at]
      have r91_243 : W 91 243 = 4 * ρ 0 + 0 := by rw [hW, sU_ne (fun z => by omega), sU_ne (fun z => by omega), sU_ne (fun z => by omega), sU_ne (fun z => by omega), sU_ne (fun z => by omega), sU_at]
      have r91_244 : W 91 244 = 1 * (xop 5 (ρ 1) 4) + 0 := by rw [hW, sU_ne (fun z => by omega), sU_ne (fun z => by omega), sU_at]
      have r91_245 : W 91 245 = 0 := by rw [hW, sU_ne (fun z => by omega), sU_ne (fun z => by omega), sU_ne (fun z => by omega), sU_ne (fun z => by omega), sU_at]
      have r91_246 : W 91 246 = 1 * ρ 1 + 0 := by rw [hW, sU_ne (fun z => by omega), sU_ne (fun z => by omega), sU_ne (fun z => by omega), sU_at]
      have r91_247 : W 91 247 = 4 * ρ 0 + 0 := by rw [hW, sU_ne (fun z => by omega), sU_at]
      intro h
      rw [r91_241, r91_242, r91_243, r91_244, r91_245, r91_246, r91_247, h0]
      refine ⟨by decide, ?_, by decide⟩
      rw [show ((4 : Int) * 1 + 0) = 4 from rfl, show (1 * ρ 1 + 0 : Int) = ρ 1 by omega]
      omega
    have k_xSE : xSE W := by
      have r : W 91 249 = 0 := by
        have e := m0
        rw [hW, sU_ne (fun z => by omega), sU_ne (fun z => by omega), sU_ne (fun z => by omega), sU_ne (fun z => by omega), sU_ne (fun z => by omega), sU_ne (fun z => by omega), sU_ne (fun z => by omega), sU_ne (fun z => by omega), sU_ne (fun z => by omega)]
        omega
      intro h
      rw [r] at h
      omega
    have k_xSW : xSW W := by
      rw [hW]
      exact (uxSW rfl (uxSW rfl (uxSW rfl (uxSW rfl (uxSW rfl (uxSW rfl (uxSW rfl (uxSW rfl (uxSW rfl hI.2.2.2.2.2.2.2.2.2.2.2.2.2.2.2.2.2.2.2.2.2.2.2.2.2.2.2.2.2.2.2.2.2.2.2.2.2.1)))))))))
    have k_xST : xST W := by
      rw [hW]
      exact (uxST rfl (uxST rfl (uxST rfl (uxST rfl (uxST rfl (uxST rfl (uxST rfl (uxST rfl (uxST rfl hI.2.2.2.2.2.2.2.2.2.2.2.2.2.2.2.2.2.2.2.2.2.2.2.2.2.2.2.2.2.2.2.2.2.2.2.2.2.2.1)))))))))
    have k_xSP : xSP W := by
      rw [hW]
      exact (uxSP rfl (uxSP rfl (uxSP rfl (uxSP rfl (uxSP rfl (uxSP rfl (uxSP rfl (uxSP rfl (uxSP rfl hI.2.2.2.2.2.2.2.2.2.2.2.2.2.2.2.2.2.2.2.2.2.2.2.2.2.2.2.2.2.2.2.2.2.2.2.2.2.2.2.1)))))))))
    have k_xSL : xSL W := by
      rw [hW]
      exact (uxSL rfl (uxSL rfl (uxSL rfl (uxSL rfl (uxSL rfl (uxSL rfl (uxSL rfl (uxSL rfl (uxSL rfl hI.2.2.2.2.2.2.2.2.2.2.2.2.2.2.2.2.2.2.2.2.2.2.2.2.2.2.2.2.2.2.2.2.2.2.2.2.2.2.2.2.1)))))))))
    have k_xSM : xSM W := by
      rw [hW]
      exact (uxSM rfl (uxSM rfl (uxSM rfl (uxSM rfl (uxSM rfl (uxSM rfl (uxSM rfl (uxSM rfl (uxSM rfl hI.2.2.2.2.2.2.2.2.2.2.2.2.2.2.2.2.2.2.2.2.2.2.2.2.2.2.2.2.2.2.2.2.2.2.2.2.2.2.2.2.2.1)))))))))
    have k_xSI : xSI W := by
      rw [hW]
      exact (uxSI rfl (uxSI rfl (uxSI rfl (uxSI rfl (uxSI rfl (uxSI rfl (uxSI rfl (uxSI rfl (uxSI rfl hI.2.2.2.2.2.2.2.2.2.2.2.2.2.2.2.2.2.2.2.2.2.2.2.2.2.2.2.2.2.2.2.2.2.2.2.2.2.2.2.2.2.2.1)))))))))
    have k_xD3 : xD3 W := by
      rw [hW]
      exact (uxD3 rfl (uxD3 rfl (uxD3 rfl (uxD3 rfl (uxD3 rfl (uxD3 rfl (uxD3 rfl (uxD3 rfl (uxD3 rfl hI.2.2.2.2.2.2.2.2.2.2.2.2.2.2.2.2.2.2.2.2.2.2.2.2.2.2.2.2.2.2.2.2.2.2.2.2.2.2.2.2.2.2.2.1)))))))))
    have k_xDV : xDV W := by
      rw [hW]
      exact (uxDV rfl (uxDV rfl (uxDV rfl (uxDV rfl (uxDV rfl (uxDV rfl (uxDV rfl (uxDV rfl (uxDV rfl hI.2.2.2.2.2.2.2.2.2.2.2.2.2.2.2.2.2.2.2.2.2.2.2.2.2.2.2.2.2.2.2.2.2.2.2.2.2.2.2.2.2.2.2.2.1)))))))))
    have k_xDP : xDP W := by
      rw [hW]
      exact (uxDP rfl (uxDP rfl (uxDP rfl (uxDP rfl (uxDP rfl (uxDP rfl (uxDP rfl (uxDP rfl (uxDP rfl hI.2.2.2.2.2.2.2.2.2.2.2.2.2.2.2.2.2.2.2.2.2.2.2.2.2.2.2.2.2.2.2.2.2.2.2.2.2.2.2.2.2.2.2.2.2.1)))))))))
    have k_xDE : xDE W := by
      rw [hW]
      exact (uxDE rfl (uxDE rfl (uxDE rfl (uxDE rfl (uxDE rfl (uxDE rfl (uxDE rfl (uxDE rfl (uxDE rfl hI.2.2.2.2.2.2.2.2.2.2.2.2.2.2.2.2.2.2.2.2.2.2.2.2.2.2.2.2.2.2.2.2.2.2.2.2.2.2.2.2.2.2.2.2.2.2.1)))))))))
    have k_xQ5 : xQ5 W := by
      rw [hW]
      exact (uxQ5 rfl (uxQ5 rfl (uxQ5 rfl (uxQ5 rfl (uxQ5 rfl (uxQ5 rfl (uxQ5 rfl (uxQ5 rfl (uxQ5 rfl hI.2.2.2.2.2.2.2.2.2.2.2.2.2.2.2.2.2.2.2.2.2.2.2.2.2.2.2.2.2.2.2.2.2.2.2.2.2.2.2.2.2.2.2.2.2.2.2.1)))))))))
    have k_xQL : xQL W := by
      rw [hW]
      exact (uxQL rfl (uxQL rfl (uxQL rfl (uxQL rfl (uxQL rfl (uxQL rfl (uxQL rfl (uxQL rfl (uxQL rfl hI.2.2.2.2.2.2.2.2.2.2.2.2.2.2.2.2.2.2.2.2.2.2.2.2.2.2.2.2.2.2.2.2.2.2.2.2.2.2.2.2.2.2.2.2.2.2.2.2.1)))))))))
    have k_xQW : xQW W := by
      rw [hW]
      exact (uxQW rfl (uxQW rfl (uxQW rfl (uxQW rfl (uxQW rfl (uxQW rfl (uxQW rfl (uxQW rfl (uxQW rfl hI.2.2.2.2.2.2.2.2.2.2.2.2.2.2.2.2.2.2.2.2.2.2.2.2.2.2.2.2.2.2.2.2.2.2.2.2.2.2.2.2.2.2.2.2.2.2.2.2.2.1)))))))))
    have k_xQM : xQM W := by
      rw [hW]
      exact (uxQM rfl (uxQM rfl (uxQM rfl (uxQM rfl (uxQM rfl (uxQM rfl (uxQM rfl (uxQM rfl (uxQM rfl hI.2.2.2.2.2.2.2.2.2.2.2.2.2.2.2.2.2.2.2.2.2.2.2.2.2.2.2.2.2.2.2.2.2.2.2.2.2.2.2.2.2.2.2.2.2.2.2.2.2.2.1)))))))))
    have k_xQH : xQH W := by
      rw [hW]
      exact (uxQH rfl (uxQH rfl (uxQH rfl (uxQH rfl (uxQH rfl (uxQH rfl (uxQH rfl (uxQH rfl (uxQH rfl hI.2.2.2.2.2.2.2.2.2.2.2.2.2.2.2.2.2.2.2.2.2.2.2.2.2.2.2.2.2.2.2.2.2.2.2.2.2.2.2.2.2.2.2.2.2.2.2.2.2.2.2)))))))))
    have k_XC : XC W := ⟨k_xS1, k_xS2, k_xS3, k_xS4, k_xS5, k_xS6, k_xS7, k_xS8, k_xS9, k_xSA, k_xSG, k_xSF, k_xSB, k_xSC, k_xSD, k_xSE, k_xSW, k_xST, k_xSP, k_xSL, k_xSM, k_xSI, k_xD3, k_xDV, k_xDP, k_xDE, k_xQ5, k_xQL, k_xQW, k_xQM, k_xQH⟩
    have kXB : XB W := ⟨k_xN1, k_xN2, k_xN3, k_xN4, k_xN5, k_xN6, k_xH1, k_xK1, k_xC1, k_xRW, k_xWT, k_xCU, k_xG2, k_xG3, k_xG4, k_xG5, k_xG6, k_XC⟩
    exact ⟨base, k2, k3, kXA, kXB⟩
-- ro3
def xr_503 : qRu := (11, [[(1, 1), (-1, 2), (-32, 3), (-64, 4), (-128, 5), (-256, 6), (-512, 7), (-1024, 8), (-65536, 9), (-131072, 10)], [(-1, 1), (1, 2), (32, 3), (64, 4), (128, 5), (256, 6), (512, 7), (1024, 8), (65536, 9), (131072, 10)], [(1, 2)], [(31, 0), (-1, 2)], [(1, 8)], [(63, 0), (-1, 8)], [(1, 3)], [(1, 0), (-1, 3)], [(1, 4)], [(1, 0), (-1, 4)], [(1, 5)], [(1, 0), (-1, 5)], [(1, 6)], [(1, 0), (-1, 6)], [(1, 7)], [(1, 0), (-1, 7)], [(1, 9)], [(1, 0), (-1, 9)], [(1, 10)], [(1, 0), (-1, 10)]], [(91, 249, [])], [], [(91, 240, [(1, 0)]), (91, 241, [(1, 0)]), (91, 242, [(3, 0)]), (91, 243, [(8, 0)]), (91, 245, []), (91, 246, [(1, 1)]), (91, 244, [(1, 11)]), (91, 247, [(8, 0)]), (4, 291, [(1, 12)])], [[(-1, 1), (1, 2), (1, 11), (-1, 12)], [(1, 1), (-1, 2), (-1, 11), (1, 12)], [(1, 12)], [(31, 0), (-1, 12)]])
theorem xo_503 : qRok xr_503 := by
  intro ρ M h0 hf hm hI
  have f0 := hf [(1, 1), (-1, 2), (-32, 3), (-64, 4), (-128, 5), (-256, 6), (-512, 7), (-1024, 8), (-65536, 9), (-131072, 10)] (by decide)
  have f1 := hf [(-1, 1), (1, 2), (32, 3), (64, 4), (128, 5), (256, 6), (512, 7), (1024, 8), (65536, 9), (131072, 10)] (by decide)
  have f2 := hf [(1, 2)] (by decide)
  have f3 := hf [(31, 0), (-1, 2)] (by decide)
  have f4 := hf [(1, 8)] (by decide)
  have f5 := hf [(63, 0), (-1, 8)] (by decide)
  have f6 := hf [(1, 3)] (by decide)
  have f7 := hf [(1, 0), (-1, 3)] (by decide)
  have f8 := hf [(1, 4)] (by decide)
  have f9 := hf [(1, 0), (-1, 4)] (by decide)
  have f10 := hf [(1, 5)] (by decide)
  have f11 := hf [(1, 0), (-1, 5)] (by decide)
  have f12 := hf [(1, 6)] (by decide)
  have f13 := hf [(1, 0), (-1, 6)] (by decide)
  have f14 := hf [(1, 7)] (by decide)
  have f15 := hf [(1, 0), (-1, 7)] (by decide)
  have f16 := hf [(1, 9)] (by decide)
  have f17 := hf [(1, 0), (-1, 9)] (by decide)
  have f18 := hf [(1, 10)] (by decide)
  have f19 := hf [(1, 0), (-1, 10)] (by decide)
  simp only [qD, h0] at f0 f1 f2 f3 f4 f5 f6 f7 f8 f9 f10 f11 f12 f13 f14 f15 f16 f17 f18 f19
  have m0 : M 91 249 = 0 := hm (91, 249, []) (by decide)
  have qxSD := hI.2.2.2.2.2.2.2.2.2.2.2.2.2.2.2.2.2.2.2.2.2.2.2.2.2.2.2.2.2.2.2.2.2.2.2.1
  have xb := xbo3 (t := ρ 1) (by omega) (by omega)

  have xc : xop 5 (ρ 1) 8 - ρ 1 = 0 ∨ (xop 5 (ρ 1) 8 - ρ 1 = 8 ∧ (ρ 2 / 8) % 2 = 0) := by omega
  refine ⟨fun a => cond (Nat.blt a 11) (ρ a) (([xop 5 (ρ 1) 8, ((xop 5 (ρ 1) 8 - ρ 1) / 1 + ρ 2)] : List Int).getD (a - 11) 0), fun a ha => ?_, fun f h => ?_, ?_⟩
  · show cond (Nat.blt a 11) (ρ a) _ = ρ a
    rw [show Nat.blt a 11 = true from Nat.ble_eq_true_of_le ha]; rfl
  · have h : f ∈ ([[(-1, 1), (1, 2), (1, 11), (-1, 12)], [(1, 1), (-1, 2), (-1, 11), (1, 12)], [(1, 12)], [(31, 0), (-1, 12)]] : List qF) := h
    simp only [List.mem_cons, List.not_mem_nil, or_false] at h
    rcases h with rfl | rfl | rfl | rfl
    · show 0 ≤ -1 * ρ 1 + (1 * ρ 2 + (1 * (xop 5 (ρ 1) 8) + (-1 * (((xop 5 (ρ 1) 8 - ρ 1) / 1 + ρ 2)) + 0)))
      (try rw [h0]); omega
    · show 0 ≤ 1 * ρ 1 + (-1 * ρ 2 + (-1 * (xop 5 (ρ 1) 8) + (1 * (((xop 5 (ρ 1) 8 - ρ 1) / 1 + ρ 2)) + 0)))
      (try rw [h0]); omega
    · show 0 ≤ 1 * (((xop 5 (ρ 1) 8 - ρ 1) / 1 + ρ 2)) + 0
      (try rw [h0]); omega
    · show 0 ≤ 31 * ρ 0 + (-1 * (((xop 5 (ρ 1) 8 - ρ 1) / 1 + ρ 2)) + 0)
      (try rw [h0]); omega
  · show sI (sU (sU (sU (sU (sU (sU (sU (sU (sU M 91 240 (1 * ρ 0 + 0)) 91 241 (1 * ρ 0 + 0)) 91 242 (3 * ρ 0 + 0)) 91 243 (8 * ρ 0 + 0)) 91 245 (0)) 91 246 (1 * ρ 1 + 0)) 91 244 (1 * (xop 5 (ρ 1) 8) + 0)) 91 247 (8 * ρ 0 + 0)) 4 291 (1 * (((xop 5 (ρ 1) 8 - ρ 1) / 1 + ρ 2)) + 0))
    obtain ⟨W, hW⟩ : ∃ W, W = (sU (sU (sU (sU (sU (sU (sU (sU (sU M 91 240 (1 * ρ 0 + 0)) 91 241 (1 * ρ 0 + 0)) 91 242 (3 * ρ 0 + 0)) 91 243 (8 * ρ 0 + 0)) 91 245 (0)) 91 246 (1 * ρ 1 + 0)) 91 244 (1 * (xop 5 (ρ 1) 8) + 0)) 91 247 (8 * ρ 0 + 0)) 4 291 (1 * (((xop 5 (ρ 1) 8 - ρ 1) / 1 + ρ 2)) + 0)) := ⟨_, rfl⟩
    rw [← hW]
    have base : sI0 W := by
      rw [hW]
      exact (si_u0 (si_u0 (si_u0 (si_u0 (si_u0 (si_u0 (si_u0 (si_u0 (si_u0 hI.1 (fun r hr => by cases hr)) (fun r hr => by cases hr)) (fun r hr => by cases hr)) (fun r hr => by cases hr)) (fun r hr => by cases hr)) (fun r hr => by cases hr)) (fun r hr => by cases hr)) (fun r hr => by cases hr)) (fun r hr => by cases hr))
    have k2 : XI2 W := by
      rw [hW]
      exact (xi2_u rfl (xi2_u rfl (xi2_u rfl (xi2_u rfl (xi2_u rfl (xi2_u rfl (xi2_u rfl (xi2_u rfl (xi2_u rfl hI.2.1)))))))))
    have k3 : XI3 W := by
      rw [hW]
      exact (xi3_u rfl (xi3_u rfl (xi3_u rfl (xi3_u rfl (xi3_u rfl (xi3_u rfl (xi3_u rfl (xi3_u rfl (xi3_u rfl hI.2.2.1)))))))))
    have kXA : XA W := by
      rw [hW]
      exact (uXA rfl (uXA rfl (uXA rfl (uXA rfl (uXA rfl (uXA rfl (uXA rfl (uXA rfl (uXA rfl hI.2.2.2.1)))))))))
    have k_xN1 : xN1 W := by
      rw [hW]
      exact (uxN1 rfl (uxN1 rfl (uxN1 rfl (uxN1 rfl (uxN1 rfl (uxN1 rfl (uxN1 rfl (uxN1 rfl (uxN1 rfl hI.2.2.2.2.1)))))))))
    have k_xN2 : xN2 W := by
      rw [hW]
      exact (uxN2 rfl (uxN2 rfl (uxN2 rfl (uxN2 rfl (uxN2 rfl (uxN2 rfl (uxN2 rfl (uxN2 rfl (uxN2 rfl hI.2.2.2.2.2.1)))))))))
    have k_xN3 : xN3 W := by
      rw [hW]
      exact (uxN3 rfl (uxN3 rfl (uxN3 rfl (uxN3 rfl (uxN3 rfl (uxN3 rfl (uxN3 rfl (uxN3 rfl (uxN3 rfl hI.2.2.2.2.2.2.1)))))))))
    have k_xN4 : xN4 W := by
      rw [hW]
      exact (uxN4 rfl (uxN4 rfl (uxN4 rfl (uxN4 rfl (uxN4 rfl (uxN4 rfl (uxN4 rfl (uxN4 rfl (uxN4 rfl hI.2.2.2.2.2.2.2.1)))))))))
    have k_xN5 : xN5 W := by
      rw [hW]
      exact (uxN5 rfl (uxN5 rfl (uxN5 rfl (uxN5 rfl (uxN5 rfl (uxN5 rfl (uxN5 rfl (uxN5 rfl (uxN5 rfl hI.2.2.2.2.2.2.2.2.1)))))))))
    have k_xN6 : xN6 W := by
      rw [hW]
      exact (uxN6 rfl (uxN6 rfl (uxN6 rfl (uxN6 rfl (uxN6 rfl (uxN6 rfl (uxN6 rfl (uxN6 rfl (uxN6 rfl hI.2.2.2.2.2.2.2.2.2.1)))))))))
    have k_xH1 : xH1 W := by
      rw [hW]
      exact (uxH1 rfl (uxH1 rfl (uxH1 rfl (uxH1 rfl (uxH1 rfl (uxH1 rfl (uxH1 rfl (uxH1 rfl (uxH1 rfl hI.2.2.2.2.2.2.2.2.2.2.1)))))))))
    have k_xK1 : xK1 W := by
      rw [hW]
      exact (uxK1 rfl (uxK1 rfl (uxK1 rfl (uxK1 rfl (uxK1 rfl (uxK1 rfl (uxK1 rfl (uxK1 rfl (uxK1 rfl hI.2.2.2.2.2.2.2.2.2.2.2.1)))))))))
    have k_xC1 : xC1 W := by
      rw [hW]
      exact (uxC1 rfl (uxC1 rfl (uxC1 rfl (uxC1 rfl (uxC1 rfl (uxC1 rfl (uxC1 rfl (uxC1 rfl (uxC1 rfl hI.2.2.2.2.2.2.2.2.2.2.2.2.1)))))))))
    have k_xRW : xRW W := by
      rw [hW]
      exact (uxRW rfl (uxRW rfl (uxRW rfl (uxRW rfl (uxRW rfl (uxRW rfl (uxRW rfl (uxRW rfl (uxRW rfl hI.2.2.2.2.2.2.2.2.2.2.2.2.2.1)))))))))
    have k_xWT : xWT W := by
      rw [hW]
      exact (uxWT rfl (uxWT rfl (uxWT rfl (uxWT rfl (uxWT rfl (uxWT rfl (uxWT rfl (uxWT rfl (uxWT rfl hI.2.2.2.2.2.2.2.2.2.2.2.2.2.2.1)))))))))
    have k_xCU : xCU W := by
      rw [hW]
      exact (uxCU rfl (uxCU rfl (uxCU rfl (uxCU rfl (uxCU rfl (uxCU rfl (uxCU rfl (uxCU rfl (uxCU rfl hI.2.2.2.2.2.2.2.2.2.2.2.2.2.2.2.1)))))))))
    have k_xG2 : xG2 W := by
      rw [hW]
      exact (uxG2 rfl (uxG2 rfl (uxG2 rfl (uxG2 rfl (uxG2 rfl (uxG2 rfl (uxG2 rfl (uxG2 rfl (uxG2 rfl hI.2.2.2.2.2.2.2.2.2.2.2.2.2.2.2.2.1)))))))))
    have k_xG3 : xG3 W := by
      rw [hW]
      exact (uxG3 rfl (uxG3 rfl (uxG3 rfl (uxG3 rfl (uxG3 rfl (uxG3 rfl (uxG3 rfl (uxG3 rfl (uxG3 rfl hI.2.2.2.2.2.2.2.2.2.2.2.2.2.2.2.2.2.1)))))))))
    have k_xG4 : xG4 W := by
      rw [hW]
      exact (uxG4 rfl (uxG4 rfl (uxG4 rfl (uxG4 rfl (uxG4 rfl (uxG4 rfl (uxG4 rfl (uxG4 rfl (uxG4 rfl hI.2.2.2.2.2.2.2.2.2.2.2.2.2.2.2.2.2.2.1)))))))))
    have k_xG5 : xG5 W := by
      rw [hW]
      exact (uxG5 rfl (uxG5 rfl (uxG5 rfl (uxG5 rfl (uxG5 rfl (uxG5 rfl (uxG5 rfl (uxG5 rfl (uxG5 rfl hI.2.2.2.2.2.2.2.2.2.2.2.2.2.2.2.2.2.2.2.1)))))))))
    have k_xG6 : xG6 W := by
      rw [hW]
      exact (uxG6 rfl (uxG6 rfl (uxG6 rfl (uxG6 rfl (uxG6 rfl (uxG6 rfl (uxG6 rfl (uxG6 rfl (uxG6 rfl hI.2.2.2.2.2.2.2.2.2.2.2.2.2.2.2.2.2.2.2.2.1)))))))))
    have k_xS1 : xS1 W := by
      rw [hW]
      exact (uxS1 rfl (uxS1 rfl (uxS1 rfl (uxS1 rfl (uxS1 rfl (uxS1 rfl (uxS1 rfl (uxS1 rfl (uxS1 rfl hI.2.2.2.2.2.2.2.2.2.2.2.2.2.2.2.2.2.2.2.2.2.1)))))))))
    have k_xS2 : xS2 W := by
      rw [hW]
      exact (uxS2 rfl (uxS2 rfl (uxS2 rfl (uxS2 rfl (uxS2 rfl (uxS2 rfl (uxS2 rfl (uxS2 rfl (uxS2 rfl hI.2.2.2.2.2.2.2.2.2.2.2.2.2.2.2.2.2.2.2.2.2.2.1)))))))))
    have k_xS3 : xS3 W := by
      rw [hW]
      exact (uxS3 rfl (uxS3 rfl (uxS3 rfl (uxS3 rfl (uxS3 rfl (uxS3 rfl (uxS3 rfl (uxS3 rfl (uxS3 rfl hI.2.2.2.2.2.2.2.2.2.2.2.2.2.2.2.2.2.2.2.2.2.2.2.1)))))))))
    have k_xS4 : xS4 W := by
      rw [hW]
      exact (uxS4 rfl (uxS4 rfl (uxS4 rfl (uxS4 rfl (uxS4 rfl (uxS4 rfl (uxS4 rfl (uxS4 rfl (uxS4 rfl hI.2.2.2.2.2.2.2.2.2.2.2.2.2.2.2.2.2.2.2.2.2.2.2.2.1)))))))))
    have k_xS5 : xS5 W := by
      rw [hW]
      exact (uxS5 rfl (uxS5 rfl (uxS5 rfl (uxS5 rfl (uxS5 rfl (uxS5 rfl (uxS5 rfl (uxS5 rfl (uxS5 rfl hI.2.2.2.2.2.2.2.2.2.2.2.2.2.2.2.2.2.2.2.2.2.2.2.2.2.1)))))))))
    have k_xS6 : xS6 W := by
      rw [hW]
      exact (uxS6 rfl (uxS6 rfl (uxS6 rfl (uxS6 rfl (uxS6 rfl (uxS6 rfl (uxS6 rfl (uxS6 rfl (uxS6 rfl hI.2.2.2.2.2.2.2.2.2.2.2.2.2.2.2.2.2.2.2.2.2.2.2.2.2.2.1)))))))))
    have k_xS7 : xS7 W := by
      rw [hW]
      exact (uxS7 rfl (uxS7 rfl (uxS7 rfl (uxS7 rfl (uxS7 rfl (uxS7 rfl (uxS7 rfl (uxS7 rfl (uxS7 rfl hI.2.2.2.2.2.2.2.2.2.2.2.2.2.2.2.2.2.2.2.2.2.2.2.2.2.2.2.1)))))))))
    have k_xS8 : xS8 W := by
      rw [hW]
      exact (uxS8 rfl (uxS8 rfl (uxS8 rfl (uxS8 rfl (uxS8 rfl (uxS8 rfl (uxS8 rfl (uxS8 rfl (uxS8 rfl hI.2.2.2.2.2.2.2.2.2.2.2.2.2.2.2.2.2.2.2.2.2.2.2.2.2.2.2.2.1)))))))))
    have k_xS9 : xS9 W := by
      rw [hW]
      exact (uxS9 rfl (uxS9 rfl (uxS9 rfl (uxS9 rfl (uxS9 rfl (uxS9 rfl (uxS9 rfl (uxS9 rfl (uxS9 rfl hI.2.2.2.2.2.2.2.2.2.2.2.2.2.2.2.2.2.2.2.2.2.2.2.2.2.2.2.2.2.1)))))))))
    have k_xSA : xSA W := by
      rw [hW]
      exact (uxSA rfl (uxSA rfl (uxSA rfl (uxSA rfl (uxSA rfl (uxSA rfl (uxSA rfl (uxSA rfl (uxSA rfl hI.2.2.2.2.2.2.2.2.2.2.2.2.2.2.2.2.2.2.2.2.2.2.2.2.2.2.2.2.2.2.1)))))))))
    have k_xSG : xSG W := by
      rw [hW]
      exact (uxSG rfl (uxSG rfl (uxSG rfl (uxSG rfl (uxSG rfl (uxSG rfl (uxSG rfl (uxSG rfl (uxSG rfl hI.2.2.2.2.2.2.2.2.2.2.2.2.2.2.2.2.2.2.2.2.2.2.2.2.2.2.2.2.2.2.2.1)))))))))
    have k_xSF : xSF W := by
      rw [hW]
      exact (uxSF rfl (uxSF rfl (uxSF rfl (uxSF rfl (uxSF rfl (uxSF rfl (uxSF rfl (uxSF rfl (uxSF rfl hI.2.2.2.2.2.2.2.2.2.2.2.2.2.2.2.2.2.2.2.2.2.2.2.2.2.2.2.2.2.2.2.2.1)))))))))
    have k_xSB : xSB W := by
      rw [hW]
      exact (uxSB rfl (uxSB rfl (uxSB rfl (uxSB rfl (uxSB rfl (uxSB rfl (uxSB rfl (uxSB rfl (uxSB rfl hI.2.2.2.2.2.2.2.2.2.2.2.2.2.2.2.2.2.2.2.2.2.2.2.2.2.2.2.2.2.2.2.2.2.1)))))))))
    have k_xSC : xSC W := by
      rw [hW]
      exact (uxSC rfl (uxSC rfl (uxSC rfl (uxSC rfl (uxSC rfl (uxSC rfl (uxSC rfl (uxSC rfl (uxSC rfl hI.2.2.2.2.2.2.2.2.2.2.2.2.2.2.2.2.2.2.2.2.2.2.2.2.2.2.2.2.2.2.2.2.2.2.1)))))))))
    have k_xSD : xSD W := by
      have r91_240 : W 91 240 = 1 * ρ 0 + 0 := by rw [hW, sU_ne (fun z => by omega), sU_ne (fun z => by omega), sU_ne (fun z => by omega), sU_ne (fun z => by omega), sU_ne (fun z => by omega), sU_ne (fun z => by omega), sU_ne (fun z => by omega), sU_ne (fun z => by omega), sU_at]
      have r91_241 : W 91 241 = 1 * ρ 0 + 0 := by rw [hW, sU_ne (fun z => by omega), sU_ne (fun z => by omega), sU_ne (fun z => by omega), sU_ne (fun z => by omega), sU_ne (fun z => by omega), sU_ne (fun z => by omega), sU_ne (fun z => by omega), sU_at]
      have r91_242 : W 91 242 = 3 * ρ 0 + 0 := by rw [hW, sU_ne (fun z => by omega), sU_ne (fun z => by omega), sU_ne (fun z => by omega), sU_ne (fun z => by omega), sU_ne (fun z => by omega), sU_ne (fun z => by omega), sU_at]
      have r91_243 : W 91 243 = 8 * ρ 0 + 0 := by rw [hW, sU_ne (fun z => by omega), sU_ne (fun z => by omega), sU_ne (fun z => by omega), sU_ne (fun z => by omega), sU_ne (fun z => by omega), sU_at]
      have r91_244 : W 91 244 = 1 * (xop 5 (ρ 1) 8) + 0 := by rw [hW, sU_ne (fun z => by omega), sU_ne (fun z => by omega), sU_at]
      have r91_245 : W 91 245 = 0 := by rw [hW, sU_ne (fun z => by omega), sU_ne (fun z => by omega), sU_ne (fun z => by omega), sU_ne (fun z => by omega), sU_at]
      have r91_246 : W 91 246 = 1 * ρ 1 + 0 := by rw [hW, sU_ne (fun z => by omega), sU_ne (fun z => by omega), sU_ne (fun z => by omega), sU_at]
      have r91_247 : W 91 247 = 8 * ρ 0 + 0 := by rw [hW, sU_ne (fun z => by omega), sU_at]
      intro h
      rw [r91_241, r91_242, r91_243, r91_244, r91_245, r91_246, r91_247, h0]
      refine ⟨by decide, ?_, by decide⟩
      rw [show ((8 : Int) * 1 + 0) = 8 from rfl, show (1 * ρ 1 + 0 : Int) = ρ 1 by omega]
      omega
    have k_xSE : xSE W := by
      have r : W 91 249 = 0 := by
        have e := m0
        rw [hW, sU_ne (fun z => by omega), sU_ne (fun z => by omega), sU_ne (fun z => by omega), sU_ne (fun z => by omega), sU_ne (fun z => by omega), sU_ne (fun z => by omega), sU_ne (fun z => by omega), sU_ne (fun z => by omega), sU_ne (fun z => by omega)]
        omega
      intro h
      rw [r] at h
      omega
    have k_xSW : xSW W := by
      rw [hW]
      exact (uxSW rfl (uxSW rfl (uxSW rfl (uxSW rfl (uxSW rfl (uxSW rfl (uxSW rfl (uxSW rfl (uxSW rfl hI.2.2.2.2.2.2.2.2.2.2.2.2.2.2.2.2.2.2.2.2.2.2.2.2.2.2.2.2.2.2.2.2.2.2.2.2.2.1)))))))))
    have k_xST : xST W := by
      rw [hW]
      exact (uxST rfl (uxST rfl (uxST rfl (uxST rfl (uxST rfl (uxST rfl (uxST rfl (uxST rfl (uxST rfl hI.2.2.2.2.2.2.2.2.2.2.2.2.2.2.2.2.2.2.2.2.2.2.2.2.2.2.2.2.2.2.2.2.2.2.2.2.2.2.1)))))))))
    have k_xSP : xSP W := by
      rw [hW]
      exact (uxSP rfl (uxSP rfl (uxSP rfl (uxSP rfl (uxSP rfl (uxSP rfl (uxSP rfl (uxSP rfl (uxSP rfl hI.2.2.2.2.2.2.2.2.2.2.2.2.2.2.2.2.2.2.2.2.2.2.2.2.2.2.2.2.2.2.2.2.2.2.2.2.2.2.2.1)))))))))
    have k_xSL : xSL W := by
      rw [hW]
      exact (uxSL rfl (uxSL rfl (uxSL rfl (uxSL rfl (uxSL rfl (uxSL rfl (uxSL rfl (uxSL rfl (uxSL rfl hI.2.2.2.2.2.2.2.2.2.2.2.2.2.2.2.2.2.2.2.2.2.2.2.2.2.2.2.2.2.2.2.2.2.2.2.2.2.2.2.2.1)))))))))
    have k_xSM : xSM W := by
      rw [hW]
      exact (uxSM rfl (uxSM rfl (uxSM rfl (uxSM rfl (uxSM rfl (uxSM rfl (uxSM rfl (uxSM rfl (uxSM rfl hI.2.2.2.2.2.2.2.2.2.2.2.2.2.2.2.2.2.2.2.2.2.2.2.2.2.2.2.2.2.2.2.2.2.2.2.2.2.2.2.2.2.1)))))))))
    have k_xSI : xSI W := by
      rw [hW]
      exact (uxSI rfl (uxSI rfl (uxSI rfl (uxSI rfl (uxSI rfl (uxSI rfl (uxSI rfl (uxSI rfl (uxSI rfl hI.2.2.2.2.2.2.2.2.2.2.2.2.2.2.2.2.2.2.2.2.2.2.2.2.2.2.2.2.2.2.2.2.2.2.2.2.2.2.2.2.2.2.1)))))))))
    have k_xD3 : xD3 W := by
      rw [hW]
      exact (uxD3 rfl (uxD3 rfl (uxD3 rfl (uxD3 rfl (uxD3 rfl (uxD3 rfl (uxD3 rfl (uxD3 rfl (uxD3 rfl hI.2.2.2.2.2.2.2.2.2.2.2.2.2.2.2.2.2.2.2.2.2.2.2.2.2.2.2.2.2.2.2.2.2.2.2.2.2.2.2.2.2.2.2.1)))))))))
    have k_xDV : xDV W := by
      rw [hW]
      exact (uxDV rfl (uxDV rfl (uxDV rfl (uxDV rfl (uxDV rfl (uxDV rfl (uxDV rfl (uxDV rfl (uxDV rfl hI.2.2.2.2.2.2.2.2.2.2.2.2.2.2.2.2.2.2.2.2.2.2.2.2.2.2.2.2.2.2.2.2.2.2.2.2.2.2.2.2.2.2.2.2.1)))))))))
    have k_xDP : xDP W := by
      rw [hW]
      exact (uxDP rfl (uxDP rfl (uxDP rfl (uxDP rfl (uxDP rfl (uxDP rfl (uxDP rfl (uxDP rfl (uxDP rfl hI.2.2.2.2.2.2.2.2.2.2.2.2.2.2.2.2.2.2.2.2.2.2.2.2.2.2.2.2.2.2.2.2.2.2.2.2.2.2.2.2.2.2.2.2.2.1)))))))))
    have k_xDE : xDE W := by
      rw [hW]
      exact (uxDE rfl (uxDE rfl (uxDE rfl (uxDE rfl (uxDE rfl (uxDE rfl (uxDE rfl (uxDE rfl (uxDE rfl hI.2.2.2.2.2.2.2.2.2.2.2.2.2.2.2.2.2.2.2.2.2.2.2.2.2.2.2.2.2.2.2.2.2.2.2.2.2.2.2.2.2.2.2.2.2.2.1)))))))))
    have k_xQ5 : xQ5 W := by
      rw [hW]
      exact (uxQ5 rfl (uxQ5 rfl (uxQ5 rfl (uxQ5 rfl (uxQ5 rfl (uxQ5 rfl (uxQ5 rfl (uxQ5 rfl (uxQ5 rfl hI.2.2.2.2.2.2.2.2.2.2.2.2.2.2.2.2.2.2.2.2.2.2.2.2.2.2.2.2.2.2.2.2.2.2.2.2.2.2.2.2.2.2.2.2.2.2.2.1)))))))))
    have k_xQL : xQL W := by
      rw [hW]
      exact (uxQL rfl (uxQL rfl (uxQL rfl (uxQL rfl (uxQL rfl (uxQL rfl (uxQL rfl (uxQL rfl (uxQL rfl hI.2.2.2.2.2.2.2.2.2.2.2.2.2.2.2.2.2.2.2.2.2.2.2.2.2.2.2.2.2.2.2.2.2.2.2.2.2.2.2.2.2.2.2.2.2.2.2.2.1)))))))))
    have k_xQW : xQW W := by
      rw [hW]
      exact (uxQW rfl (uxQW rfl (uxQW rfl (uxQW rfl (uxQW rfl (uxQW rfl (uxQW rfl (uxQW rfl (uxQW rfl hI.2.2.2.2.2.2.2.2.2.2.2.2.2.2.2.2.2.2.2.2.2.2.2.2.2.2.2.2.2.2.2.2.2.2.2.2.2.2.2.2.2.2.2.2.2.2.2.2.2.1)))))))))
    have k_xQM : xQM W := by
      rw [hW]
      exact (uxQM rfl (uxQM rfl (uxQM rfl (uxQM rfl (uxQM rfl (uxQM rfl (uxQM rfl (uxQM rfl (uxQM rfl hI.2.2.2.2.2.2.2.2.2.2.2.2.2.2.2.2.2.2.2.2.2.2.2.2.2.2.2.2.2.2.2.2.2.2.2.2.2.2.2.2.2.2.2.2.2.2.2.2.2.2.1)))))))))
    have k_xQH : xQH W := by
      rw [hW]
      exact (uxQH rfl (uxQH rfl (uxQH rfl (uxQH rfl (uxQH rfl (uxQH rfl (uxQH rfl (uxQH rfl (uxQH rfl hI.2.2.2.2.2.2.2.2.2.2.2.2.2.2.2.2.2.2.2.2.2.2.2.2.2.2.2.2.2.2.2.2.2.2.2.2.2.2.2.2.2.2.2.2.2.2.2.2.2.2.2)))))))))
    have k_XC : XC W := ⟨k_xS1, k_xS2, k_xS3, k_xS4, k_xS5, k_xS6, k_xS7, k_xS8, k_xS9, k_xSA, k_xSG, k_xSF, k_xSB, k_xSC, k_xSD, k_xSE, k_xSW, k_xST, k_xSP, k_xSL, k_xSM, k_xSI, k_xD3, k_xDV, k_xDP, k_xDE, k_xQ5, k_xQL, k_xQW, k_xQM, k_xQH⟩
    have kXB : XB W := ⟨k_xN1, k_xN2, k_xN3, k_xN4, k_xN5, k_xN6, k_xH1, k_xK1, k_xC1, k_xRW, k_xWT, k_xCU, k_xG2, k_xG3, k_xG4, k_xG5, k_xG6, k_XC⟩
    exact ⟨base, k2, k3, kXA, kXB⟩
-- ro4
def xr_504 : qRu := (11, [[(1, 1), (-1, 2), (-32, 3), (-64, 4), (-128, 5), (-256, 6), (-512, 7), (-1024, 8), (-65536, 9), (-131072, 10)], [(-1, 1), (1, 2), (32, 3), (64, 4), (128, 5), (256, 6), (512, 7), (1024, 8), (65536, 9), (131072, 10)], [(1, 2)], [(31, 0), (-1, 2)], [(1, 8)], [(63, 0), (-1, 8)], [(1, 3)], [(1, 0), (-1, 3)], [(1, 4)], [(1, 0), (-1, 4)], [(1, 5)], [(1, 0), (-1, 5)], [(1, 6)], [(1, 0), (-1, 6)], [(1, 7)], [(1, 0), (-1, 7)], [(1, 9)], [(1, 0), (-1, 9)], [(1, 10)], [(1, 0), (-1, 10)]], [(91, 249, [])], [], [(91, 240, [(1, 0)]), (91, 241, [(1, 0)]), (91, 242, [(4, 0)]), (91, 243, [(16, 0)]), (91, 245, []), (91, 246, [(1, 1)]), (91, 244, [(1, 11)]), (91, 247, [(16, 0)]), (4, 291, [(1, 12)])], [[(-1, 1), (1, 2), (1, 11), (-1, 12)], [(1, 1), (-1, 2), (-1, 11), (1, 12)], [(1, 12)], [(31, 0), (-1, 12)]])
theorem xo_504 : qRok xr_504 := by
  intro ρ M h0 hf hm hI
  have f0 := hf [(1, 1), (-1, 2), (-32, 3), (-64, 4), (-128, 5), (-256, 6), (-512, 7), (-1024, 8), (-65536, 9), (-131072, 10)] (by decide)
  have f1 := hf [(-1, 1), (1, 2), (32, 3), (64, 4), (128, 5), (256, 6), (512, 7), (1024, 8), (65536, 9), (131072, 10)] (by decide)
  have f2 := hf [(1, 2)] (by decide)
  have f3 := hf [(31, 0), (-1, 2)] (by decide)
  have f4 := hf [(1, 8)] (by decide)
  have f5 := hf [(63, 0), (-1, 8)] (by decide)
  have f6 := hf [(1, 3)] (by decide)
  have f7 := hf [(1, 0), (-1, 3)] (by decide)
  have f8 := hf [(1, 4)] (by decide)
  have f9 := hf [(1, 0), (-1, 4)] (by decide)
  have f10 := hf [(1, 5)] (by decide)
  have f11 := hf [(1, 0), (-1, 5)] (by decide)
  have f12 := hf [(1, 6)] (by decide)
  have f13 := hf [(1, 0), (-1, 6)] (by decide)
  have f14 := hf [(1, 7)] (by decide)
  have f15 := hf [(1, 0), (-1, 7)] (by decide)
  have f16 := hf [(1, 9)] (by decide)
  have f17 := hf [(1, 0), (-1, 9)] (by decide)
  have f18 := hf [(1, 10)] (by decide)
  have f19 := hf [(1, 0), (-1, 10)] (by decide)
  simp only [qD, h0] at f0 f1 f2 f3 f4 f5 f6 f7 f8 f9 f10 f11 f12 f13 f14 f15 f16 f17 f18 f19
  have m0 : M 91 249 = 0 := hm (91, 249, []) (by decide)
  have qxSD := hI.2.2.2.2.2.2.2.2.2.2.2.2.2.2.2.2.2.2.2.2.2.2.2.2.2.2.2.2.2.2.2.2.2.2.2.1
  have xb := xbo4 (t := ρ 1) (by omega) (by omega)

  have xc : xop 5 (ρ 1) 16 - ρ 1 = 0 ∨ (xop 5 (ρ 1) 16 - ρ 1 = 16 ∧ (ρ 2 / 16) % 2 = 0) := by omega
  refine ⟨fun a => cond (Nat.blt a 11) (ρ a) (([xop 5 (ρ 1) 16, ((xop 5 (ρ 1) 16 - ρ 1) / 1 + ρ 2)] : List Int).getD (a - 11) 0), fun a ha => ?_, fun f h => ?_, ?_⟩
  · show cond (Nat.blt a 11) (ρ a) _ = ρ a
    rw [show Nat.blt a 11 = true from Nat.ble_eq_true_of_le ha]; rfl
  · have h : f ∈ ([[(-1, 1), (1, 2), (1, 11), (-1, 12)], [(1, 1), (-1, 2), (-1, 11), (1, 12)], [(1, 12)], [(31, 0), (-1, 12)]] : List qF) := h
    simp only [List.mem_cons, List.not_mem_nil, or_false] at h
    rcases h with rfl | rfl | rfl | rfl
    · show 0 ≤ -1 * ρ 1 + (1 * ρ 2 + (1 * (xop 5 (ρ 1) 16) + (-1 * (((xop 5 (ρ 1) 16 - ρ 1) / 1 + ρ 2)) + 0)))
      (try rw [h0]); omega
    · show 0 ≤ 1 * ρ 1 + (-1 * ρ 2 + (-1 * (xop 5 (ρ 1) 16) + (1 * (((xop 5 (ρ 1) 16 - ρ 1) / 1 + ρ 2)) + 0)))
      (try rw [h0]); omega
    · show 0 ≤ 1 * (((xop 5 (ρ 1) 16 - ρ 1) / 1 + ρ 2)) + 0
      (try rw [h0]); omega
    · show 0 ≤ 31 * ρ 0 + (-1 * (((xop 5 (ρ 1) 16 - ρ 1) / 1 + ρ 2)) + 0)
      (try rw [h0]); omega
  · show sI (sU (sU (sU (sU (sU (sU (sU (sU (sU M 91 240 (1 * ρ 0 + 0)) 91 241 (1 * ρ 0 + 0)) 91 242 (4 * ρ 0 + 0)) 91 243 (16 * ρ 0 + 0)) 91 245 (0)) 91 246 (1 * ρ 1 + 0)) 91 244 (1 * (xop 5 (ρ 1) 16) + 0)) 91 247 (16 * ρ 0 + 0)) 4 291 (1 * (((xop 5 (ρ 1) 16 - ρ 1) / 1 + ρ 2)) + 0))
    obtain ⟨W, hW⟩ : ∃ W, W = (sU (sU (sU (sU (sU (sU (sU (sU (sU M 91 240 (1 * ρ 0 + 0)) 91 241 (1 * ρ 0 + 0)) 91 242 (4 * ρ 0 + 0)) 91 243 (16 * ρ 0 + 0)) 91 245 (0)) 91 246 (1 * ρ 1 + 0)) 91 244 (1 * (xop 5 (ρ 1) 16) + 0)) 91 247 (16 * ρ 0 + 0)) 4 291 (1 * (((xop 5 (ρ 1) 16 - ρ 1) / 1 + ρ 2)) + 0)) := ⟨_, rfl⟩
    rw [← hW]
    have base : sI0 W := by
      rw [hW]
      exact (si_u0 (si_u0 (si_u0 (si_u0 (si_u0 (si_u0 (si_u0 (si_u0 (si_u0 hI.1 (fun r hr => by cases hr)) (fun r hr => by cases hr)) (fun r hr => by cases hr)) (fun r hr => by cases hr)) (fun r hr => by cases hr)) (fun r hr => by cases hr)) (fun r hr => by cases hr)) (fun r hr => by cases hr)) (fun r hr => by cases hr))
    have k2 : XI2 W := by
      rw [hW]
      exact (xi2_u rfl (xi2_u rfl (xi2_u rfl (xi2_u rfl (xi2_u rfl (xi2_u rfl (xi2_u rfl (xi2_u rfl (xi2_u rfl hI.2.1)))))))))
    have k3 : XI3 W := by
      rw [hW]
      exact (xi3_u rfl (xi3_u rfl (xi3_u rfl (xi3_u rfl (xi3_u rfl (xi3_u rfl (xi3_u rfl (xi3_u rfl (xi3_u rfl hI.2.2.1)))))))))
    have kXA : XA W := by
      rw [hW]
      exact (uXA rfl (uXA rfl (uXA rfl (uXA rfl (uXA rfl (uXA rfl (uXA rfl (uXA rfl (uXA rfl hI.2.2.2.1)))))))))
    have k_xN1 : xN1 W := by
      rw [hW]
      exact (uxN1 rfl (uxN1 rfl (uxN1 rfl (uxN1 rfl (uxN1 rfl (uxN1 rfl (uxN1 rfl (uxN1 rfl (uxN1 rfl hI.2.2.2.2.1)))))))))
    have k_xN2 : xN2 W := by
      rw [hW]
      exact (uxN2 rfl (uxN2 rfl (uxN2 rfl (uxN2 rfl (uxN2 rfl (uxN2 rfl (uxN2 rfl (uxN2 rfl (uxN2 rfl hI.2.2.2.2.2.1)))))))))
    have k_xN3 : xN3 W := by
      rw [hW]
      exact (uxN3 rfl (uxN3 rfl (uxN3 rfl (uxN3 rfl (uxN3 rfl (uxN3 rfl (uxN3 rfl (uxN3 rfl (uxN3 rfl hI.2.2.2.2.2.2.1)))))))))
    have k_xN4 : xN4 W := by
      rw [hW]
      exact (uxN4 rfl (uxN4 rfl (uxN4 rfl (uxN4 rfl (uxN4 rfl (uxN4 rfl (uxN4 rfl (uxN4 rfl (uxN4 rfl hI.2.2.2.2.2.2.2.1)))))))))
    have k_xN5 : xN5 W := by
      rw [hW]
      exact (uxN5 rfl (uxN5 rfl (uxN5 rfl (uxN5 rfl (uxN5 rfl (uxN5 rfl (uxN5 rfl (uxN5 rfl (uxN5 rfl hI.2.2.2.2.2.2.2.2.1)))))))))
    have k_xN6 : xN6 W := by
      rw [hW]
      exact (uxN6 rfl (uxN6 rfl (uxN6 rfl (uxN6 rfl (uxN6 rfl (uxN6 rfl (uxN6 rfl (uxN6 rfl (uxN6 rfl hI.2.2.2.2.2.2.2.2.2.1)))))))))
    have k_xH1 : xH1 W := by
      rw [hW]
      exact (uxH1 rfl (uxH1 rfl (uxH1 rfl (uxH1 rfl (uxH1 rfl (uxH1 rfl (uxH1 rfl (uxH1 rfl (uxH1 rfl hI.2.2.2.2.2.2.2.2.2.2.1)))))))))
    have k_xK1 : xK1 W := by
      rw [hW]
      exact (uxK1 rfl (uxK1 rfl (uxK1 rfl (uxK1 rfl (uxK1 rfl (uxK1 rfl (uxK1 rfl (uxK1 rfl (uxK1 rfl hI.2.2.2.2.2.2.2.2.2.2.2.1)))))))))
    have k_xC1 : xC1 W := by
      rw [hW]
      exact (uxC1 rfl (uxC1 rfl (uxC1 rfl (uxC1 rfl (uxC1 rfl (uxC1 rfl (uxC1 rfl (uxC1 rfl (uxC1 rfl hI.2.2.2.2.2.2.2.2.2.2.2.2.1)))))))))
    have k_xRW : xRW W := by
      rw [hW]
      exact (uxRW rfl (uxRW rfl (uxRW rfl (uxRW rfl (uxRW rfl (uxRW rfl (uxRW rfl (uxRW rfl (uxRW rfl hI.2.2.2.2.2.2.2.2.2.2.2.2.2.1)))))))))
    have k_xWT : xWT W := by
      rw [hW]
      exact (uxWT rfl (uxWT rfl (uxWT rfl (uxWT rfl (uxWT rfl (uxWT rfl (uxWT rfl (uxWT rfl (uxWT rfl hI.2.2.2.2.2.2.2.2.2.2.2.2.2.2.1)))))))))
    have k_xCU : xCU W := by
      rw [hW]
      exact (uxCU rfl (uxCU rfl (uxCU rfl (uxCU rfl (uxCU rfl (uxCU rfl (uxCU rfl (uxCU rfl (uxCU rfl hI.2.2.2.2.2.2.2.2.2.2.2.2.2.2.2.1)))))))))
    have k_xG2 : xG2 W := by
      rw [hW]
      exact (uxG2 rfl (uxG2 rfl (uxG2 rfl (uxG2 rfl (uxG2 rfl (uxG2 rfl (uxG2 rfl (uxG2 rfl (uxG2 rfl hI.2.2.2.2.2.2.2.2.2.2.2.2.2.2.2.2.1)))))))))
    have k_xG3 : xG3 W := by
      rw [hW]
      exact (uxG3 rfl (uxG3 rfl (uxG3 rfl (uxG3 rfl (uxG3 rfl (uxG3 rfl (uxG3 rfl (uxG3 rfl (uxG3 rfl hI.2.2.2.2.2.2.2.2.2.2.2.2.2.2.2.2.2.1)))))))))
    have k_xG4 : xG4 W := by
      rw [hW]
      exact (uxG4 rfl (uxG4 rfl (uxG4 rfl (uxG4 rfl (uxG4 rfl (uxG4 rfl (uxG4 rfl (uxG4 rfl (uxG4 rfl hI.2.2.2.2.2.2.2.2.2.2.2.2.2.2.2.2.2.2.1)))))))))
    have k_xG5 : xG5 W := by
      rw [hW]
      exact (uxG5 rfl (uxG5 rfl (uxG5 rfl (uxG5 rfl (uxG5 rfl (uxG5 rfl (uxG5 rfl (uxG5 rfl (uxG5 rfl hI.2.2.2.2.2.2.2.2.2.2.2.2.2.2.2.2.2.2.2.1)))))))))
    have k_xG6 : xG6 W := by
      rw [hW]
      exact (uxG6 rfl (uxG6 rfl (uxG6 rfl (uxG6 rfl (uxG6 rfl (uxG6 rfl (uxG6 rfl (uxG6 rfl (uxG6 rfl hI.2.2.2.2.2.2.2.2.2.2.2.2.2.2.2.2.2.2.2.2.1)))))))))
    have k_xS1 : xS1 W := by
      rw [hW]
      exact (uxS1 rfl (uxS1 rfl (uxS1 rfl (uxS1 rfl (uxS1 rfl (uxS1 rfl (uxS1 rfl (uxS1 rfl (uxS1 rfl hI.2.2.2.2.2.2.2.2.2.2.2.2.2.2.2.2.2.2.2.2.2.1)))))))))
    have k_xS2 : xS2 W := by
      rw [hW]
      exact (uxS2 rfl (uxS2 rfl (uxS2 rfl (uxS2 rfl (uxS2 rfl (uxS2 rfl (uxS2 rfl (uxS2 rfl (uxS2 rfl hI.2.2.2.2.2.2.2.2.2.2.2.2.2.2.2.2.2.2.2.2.2.2.1)))))))))
    have k_xS3 : xS3 W := by
      rw [hW]
      exact (uxS3 rfl (uxS3 rfl (uxS3 rfl (uxS3 rfl (uxS3 rfl (uxS3 rfl (uxS3 rfl (uxS3 rfl (uxS3 rfl hI.2.2.2.2.2.2.2.2.2.2.2.2.2.2.2.2.2.2.2.2.2.2.2.1)))))))))
    have k_xS4 : xS4 W := by
      rw [hW]
      exact (uxS4 rfl (uxS4 rfl (uxS4 rfl (uxS4 rfl (uxS4 rfl (uxS4 rfl (uxS4 rfl (uxS4 rfl (uxS4 rfl hI.2.2.2.2.2.2.2.2.2.2.2.2.2.2.2.2.2.2.2.2.2.2.2.2.1)))))))))
    have k_xS5 : xS5 W := by
      rw [hW]
      exact (uxS5 rfl (uxS5 rfl (uxS5 rfl (uxS5 rfl (uxS5 rfl (uxS5 rfl (uxS5 rfl (uxS5 rfl (uxS5 rfl hI.2.2.2.2.2.2.2.2.2.2.2.2.2.2.2.2.2.2.2.2.2.2.2.2.2.1)))))))))
    have k_xS6 : xS6 W := by
      rw [hW]
      exact (uxS6 rfl (uxS6 rfl (uxS6 rfl (uxS6 rfl (uxS6 rfl (uxS6 rfl (uxS6 rfl (uxS6 rfl (uxS6 rfl hI.2.2.2.2.2.2.2.2.2.2.2.2.2.2.2.2.2.2.2.2.2.2.2.2.2.2.1)))))))))
    have k_xS7 : xS7 W := by
      rw [hW]
      exact (uxS7 rfl (uxS7 rfl (uxS7 rfl (uxS7 rfl (uxS7 rfl (uxS7 rfl (uxS7 rfl (uxS7 rfl (uxS7 rfl hI.2.2.2.2.2.2.2.2.2.2.2.2.2.2.2.2.2.2.2.2.2.2.2.2.2.2.2.1)))))))))
    have k_xS8 : xS8 W := by
      rw [hW]
      exact (uxS8 rfl (uxS8 rfl (uxS8 rfl (uxS8 rfl (uxS8 rfl (uxS8 rfl (uxS8 rfl (uxS8 rfl (uxS8 rfl hI.2.2.2.2.2.2.2.2.2.2.2.2.2.2.2.2.2.2.2.2.2.2.2.2.2.2.2.2.1)))))))))
    have k_xS9 : xS9 W := by
      rw [hW]
      exact (uxS9 rfl (uxS9 rfl (uxS9 rfl (uxS9 rfl (uxS9 rfl (uxS9 rfl (uxS9 rfl (uxS9 rfl (uxS9 rfl hI.2.2.2.2.2.2.2.2.2.2.2.2.2.2.2.2.2.2.2.2.2.2.2.2.2.2.2.2.2.1)))))))))
    have k_xSA : xSA W := by
      rw [hW]
      exact (uxSA rfl (uxSA rfl (uxSA rfl (uxSA rfl (uxSA rfl (uxSA rfl (uxSA rfl (uxSA rfl (uxSA rfl hI.2.2.2.2.2.2.2.2.2.2.2.2.2.2.2.2.2.2.2.2.2.2.2.2.2.2.2.2.2.2.1)))))))))
    have k_xSG : xSG W := by
      rw [hW]
      exact (uxSG rfl (uxSG rfl (uxSG rfl (uxSG rfl (uxSG rfl (uxSG rfl (uxSG rfl (uxSG rfl (uxSG rfl hI.2.2.2.2.2.2.2.2.2.2.2.2.2.2.2.2.2.2.2.2.2.2.2.2.2.2.2.2.2.2.2.1)))))))))
    have k_xSF : xSF W := by
      rw [hW]
      exact (uxSF rfl (uxSF rfl (uxSF rfl (uxSF rfl (uxSF rfl (uxSF rfl (uxSF rfl (uxSF rfl (uxSF rfl hI.2.2.2.2.2.2.2.2.2.2.2.2.2.2.2.2.2.2.2.2.2.2.2.2.2.2.2.2.2.2.2.2.1)))))))))
    have k_xSB : xSB W := by
      rw [hW]
      exact (uxSB rfl (uxSB rfl (uxSB rfl (uxSB rfl (uxSB rfl (uxSB rfl (uxSB rfl (uxSB rfl (uxSB rfl hI.2.2.2.2.2.2.2.2.2.2.2.2.2.2.2.2.2.2.2.2.2.2.2.2.2.2.2.2.2.2.2.2.2.1)))))))))
    have k_xSC : xSC W := by
      rw [hW]
      exact (uxSC rfl (uxSC rfl (uxSC rfl (uxSC rfl (uxSC rfl (uxSC rfl (uxSC rfl (uxSC rfl (uxSC rfl hI.2.2.2.2.2.2.2.2.2.2.2.2.2.2.2.2.2.2.2.2.2.2.2.2.2.2.2.2.2.2.2.2.2.2.1)))))))))
    have k_xSD : xSD W := by
      have r91_240 : W 91 240 = 1 * ρ 0 + 0 := by rw [hW, sU_ne (fun z => by omega), sU_ne (fun z => by omega), sU_ne (fun z => by omega), sU_ne (fun z => by omega), sU_ne (fun z => by omega), sU_ne (fun z => by omega), sU_ne (fun z => by omega), sU_ne (fun z => by omega), sU_at]
      have r91_241 : W 91 241 = 1 * ρ 0 + 0 := by rw [hW, sU_ne (fun z => by omega), sU_ne (fun z => by omega), sU_ne (fun z => by omega), sU_ne (fun z => by omega), sU_ne (fun z => by omega), sU_ne (fun z => by omega), sU_ne (fun z => by omega), sU_at]
      have r91_242 : W 91 242 = 4 * ρ 0 + 0 := by rw [hW, sU_ne (fun z => by omega), sU_ne (fun z => by omega), sU_ne (fun z => by omega), sU_ne (fun z => by omega), sU_ne (fun z => by omega), sU_ne (fun z => by omega), sU_at]
      have r91_243 : W 91 243 = 16 * ρ 0 + 0 := by rw [hW, sU_ne (fun z => by omega), sU_ne (fun z => by omega), sU_ne (fun z => by omega), sU_ne (fun z => by omega), sU_ne (fun z => by omega), sU_at]
      have r91_244 : W 91 244 = 1 * (xop 5 (ρ 1) 16) + 0 := by rw [hW, sU_ne (fun z => by omega), sU_ne (fun z => by omega), sU_at]
      have r91_245 : W 91 245 = 0 := by rw [hW, sU_ne (fun z => by omega), sU_ne (fun z => by omega), sU_ne (fun z => by omega), sU_ne (fun z => by omega), sU_at]
      have r91_246 : W 91 246 = 1 * ρ 1 + 0 := by rw [hW, sU_ne (fun z => by omega), sU_ne (fun z => by omega), sU_ne (fun z => by omega), sU_at]
      have r91_247 : W 91 247 = 16 * ρ 0 + 0 := by rw [hW, sU_ne (fun z => by omega), sU_at]
      intro h
      rw [r91_241, r91_242, r91_243, r91_244, r91_245, r91_246, r91_247, h0]
      refine ⟨by decide, ?_, by decide⟩
      rw [show ((16 : Int) * 1 + 0) = 16 from rfl, show (1 * ρ 1 + 0 : Int) = ρ 1 by omega]
      omega
    have k_xSE : xSE W := by
      have r : W 91 249 = 0 := by
        have e := m0
        rw [hW, sU_ne (fun z => by omega), sU_ne (fun z => by omega), sU_ne (fun z => by omega), sU_ne (fun z => by omega), sU_ne (fun z => by omega), sU_ne (fun z => by omega), sU_ne (fun z => by omega), sU_ne (fun z => by omega), sU_ne (fun z => by omega)]
        omega
      intro h
      rw [r] at h
      omega
    have k_xSW : xSW W := by
      rw [hW]
      exact (uxSW rfl (uxSW rfl (uxSW rfl (uxSW rfl (uxSW rfl (uxSW rfl (uxSW rfl (uxSW rfl (uxSW rfl hI.2.2.2.2.2.2.2.2.2.2.2.2.2.2.2.2.2.2.2.2.2.2.2.2.2.2.2.2.2.2.2.2.2.2.2.2.2.1)))))))))
    have k_xST : xST W := by
      rw [hW]
      exact (uxST rfl (uxST rfl (uxST rfl (uxST rfl (uxST rfl (uxST rfl (uxST rfl (uxST rfl (uxST rfl hI.2.2.2.2.2.2.2.2.2.2.2.2.2.2.2.2.2.2.2.2.2.2.2.2.2.2.2.2.2.2.2.2.2.2.2.2.2.2.1)))))))))
    have k_xSP : xSP W := by
      rw [hW]
      exact (uxSP rfl (uxSP rfl (uxSP rfl (uxSP rfl (uxSP rfl (uxSP rfl (uxSP rfl (uxSP rfl (uxSP rfl hI.2.2.2.2.2.2.2.2.2.2.2.2.2.2.2.2.2.2.2.2.2.2.2.2.2.2.2.2.2.2.2.2.2.2.2.2.2.2.2.1)))))))))
    have k_xSL : xSL W := by
      rw [hW]
      exact (uxSL rfl (uxSL rfl (uxSL rfl (uxSL rfl (uxSL rfl (uxSL rfl (uxSL rfl (uxSL rfl (uxSL rfl hI.2.2.2.2.2.2.2.2.2.2.2.2.2.2.2.2.2.2.2.2.2.2.2.2.2.2.2.2.2.2.2.2.2.2.2.2.2.2.2.2.1)))))))))
    have k_xSM : xSM W := by
      rw [hW]
      exact (uxSM rfl (uxSM rfl (uxSM rfl (uxSM rfl (uxSM rfl (uxSM rfl (uxSM rfl (uxSM rfl (uxSM rfl hI.2.2.2.2.2.2.2.2.2.2.2.2.2.2.2.2.2.2.2.2.2.2.2.2.2.2.2.2.2.2.2.2.2.2.2.2.2.2.2.2.2.1)))))))))
    have k_xSI : xSI W := by
      rw [hW]
      exact (uxSI rfl (uxSI rfl (uxSI rfl (uxSI rfl (uxSI rfl (uxSI rfl (uxSI rfl (uxSI rfl (uxSI rfl hI.2.2.2.2.2.2.2.2.2.2.2.2.2.2.2.2.2.2.2.2.2.2.2.2.2.2.2.2.2.2.2.2.2.2.2.2.2.2.2.2.2.2.1)))))))))
    have k_xD3 : xD3 W := by
      rw [hW]
      exact (uxD3 rfl (uxD3 rfl (uxD3 rfl (uxD3 rfl (uxD3 rfl (uxD3 rfl (uxD3 rfl (uxD3 rfl (uxD3 rfl hI.2.2.2.2.2.2.2.2.2.2.2.2.2.2.2.2.2.2.2.2.2.2.2.2.2.2.2.2.2.2.2.2.2.2.2.2.2.2.2.2.2.2.2.1)))))))))
    have k_xDV : xDV W := by
      rw [hW]
      exact (uxDV rfl (uxDV rfl (uxDV rfl (uxDV rfl (uxDV rfl (uxDV rfl (uxDV rfl (uxDV rfl (uxDV rfl hI.2.2.2.2.2.2.2.2.2.2.2.2.2.2.2.2.2.2.2.2.2.2.2.2.2.2.2.2.2.2.2.2.2.2.2.2.2.2.2.2.2.2.2.2.1)))))))))
    have k_xDP : xDP W := by
      rw [hW]
      exact (uxDP rfl (uxDP rfl (uxDP rfl (uxDP rfl (uxDP rfl (uxDP rfl (uxDP rfl (uxDP rfl (uxDP rfl hI.2.2.2.2.2.2.2.2.2.2.2.2.2.2.2.2.2.2.2.2.2.2.2.2.2.2.2.2.2.2.2.2.2.2.2.2.2.2.2.2.2.2.2.2.2.1)))))))))
    have k_xDE : xDE W := by
      rw [hW]
      exact (uxDE rfl (uxDE rfl (uxDE rfl (uxDE rfl (uxDE rfl (uxDE rfl (uxDE rfl (uxDE rfl (uxDE rfl hI.2.2.2.2.2.2.2.2.2.2.2.2.2.2.2.2.2.2.2.2.2.2.2.2.2.2.2.2.2.2.2.2.2.2.2.2.2.2.2.2.2.2.2.2.2.2.1)))))))))
    have k_xQ5 : xQ5 W := by
      rw [hW]
      exact (uxQ5 rfl (uxQ5 rfl (uxQ5 rfl (uxQ5 rfl (uxQ5 rfl (uxQ5 rfl (uxQ5 rfl (uxQ5 rfl (uxQ5 rfl hI.2.2.2.2.2.2.2.2.2.2.2.2.2.2.2.2.2.2.2.2.2.2.2.2.2.2.2.2.2.2.2.2.2.2.2.2.2.2.2.2.2.2.2.2.2.2.2.1)))))))))
    have k_xQL : xQL W := by
      rw [hW]
      exact (uxQL rfl (uxQL rfl (uxQL rfl (uxQL rfl (uxQL rfl (uxQL rfl (uxQL rfl (uxQL rfl (uxQL rfl hI.2.2.2.2.2.2.2.2.2.2.2.2.2.2.2.2.2.2.2.2.2.2.2.2.2.2.2.2.2.2.2.2.2.2.2.2.2.2.2.2.2.2.2.2.2.2.2.2.1)))))))))
    have k_xQW : xQW W := by
      rw [hW]
      exact (uxQW rfl (uxQW rfl (uxQW rfl (uxQW rfl (uxQW rfl (uxQW rfl (uxQW rfl (uxQW rfl (uxQW rfl hI.2.2.2.2.2.2.2.2.2.2.2.2.2.2.2.2.2.2.2.2.2.2.2.2.2.2.2.2.2.2.2.2.2.2.2.2.2.2.2.2.2.2.2.2.2.2.2.2.2.1)))))))))
    have k_xQM : xQM W := by
      rw [hW]
      exact (uxQM rfl (uxQM rfl (uxQM rfl (uxQM rfl (uxQM rfl (uxQM rfl (uxQM rfl (uxQM rfl (uxQM rfl hI.2.2.2.2.2.2.2.2.2.2.2.2.2.2.2.2.2.2.2.2.2.2.2.2.2.2.2.2.2.2.2.2.2.2.2.2.2.2.2.2.2.2.2.2.2.2.2.2.2.2.1)))))))))
    have k_xQH : xQH W := by
      rw [hW]
      exact (uxQH rfl (uxQH rfl (uxQH rfl (uxQH rfl (uxQH rfl (uxQH rfl (uxQH rfl (uxQH rfl (uxQH rfl hI.2.2.2.2.2.2.2.2.2.2.2.2.2.2.2.2.2.2.2.2.2.2.2.2.2.2.2.2.2.2.2.2.2.2.2.2.2.2.2.2.2.2.2.2.2.2.2.2.2.2.2)))))))))
    have k_XC : XC W := ⟨k_xS1, k_xS2, k_xS3, k_xS4, k_xS5, k_xS6, k_xS7, k_xS8, k_xS9, k_xSA, k_xSG, k_xSF, k_xSB, k_xSC, k_xSD, k_xSE, k_xSW, k_xST, k_xSP, k_xSL, k_xSM, k_xSI, k_xD3, k_xDV, k_xDP, k_xDE, k_xQ5, k_xQL, k_xQW, k_xQM, k_xQH⟩
    have kXB : XB W := ⟨k_xN1, k_xN2, k_xN3, k_xN4, k_xN5, k_xN6, k_xH1, k_xK1, k_xC1, k_xRW, k_xWT, k_xCU, k_xG2, k_xG3, k_xG4, k_xG5, k_xG6, k_XC⟩
    exact ⟨base, k2, k3, kXA, kXB⟩
-- ro10
def xr_505 : qRu := (11, [[(1, 1), (-1, 2), (-32, 3), (-64, 4), (-128, 5), (-256, 6), (-512, 7), (-1024, 8), (-65536, 9), (-131072, 10)], [(-1, 1), (1, 2), (32, 3), (64, 4), (128, 5), (256, 6), (512, 7), (1024, 8), (65536, 9), (131072, 10)], [(1, 2)], [(31, 0), (-1, 2)], [(1, 8)], [(63, 0), (-1, 8)], [(1, 3)], [(1, 0), (-1, 3)], [(1, 4)], [(1, 0), (-1, 4)], [(1, 5)], [(1, 0), (-1, 5)], [(1, 6)], [(1, 0), (-1, 6)], [(1, 7)], [(1, 0), (-1, 7)], [(1, 9)], [(1, 0), (-1, 9)], [(1, 10)], [(1, 0), (-1, 10)]], [(91, 249, [])], [], [(91, 240, [(1, 0)]), (91, 241, [(1, 0)]), (91, 242, [(10, 0)]), (91, 243, [(1024, 0)]), (91, 245, []), (91, 246, [(1, 1)]), (91, 244, [(1, 11)]), (91, 247, [(1024, 0)]), (4, 292, [(1, 12)])], [[(-1, 1), (1024, 8), (1, 11), (-1024, 12)], [(1, 1), (-1024, 8), (-1, 11), (1024, 12)], [(1, 12)], [(63, 0), (-1, 12)]])
theorem xo_505 : qRok xr_505 := by
  intro ρ M h0 hf hm hI
  have f0 := hf [(1, 1), (-1, 2), (-32, 3), (-64, 4), (-128, 5), (-256, 6), (-512, 7), (-1024, 8), (-65536, 9), (-131072, 10)] (by decide)
  have f1 := hf [(-1, 1), (1, 2), (32, 3), (64, 4), (128, 5), (256, 6), (512, 7), (1024, 8), (65536, 9), (131072, 10)] (by decide)
  have f2 := hf [(1, 2)] (by decide)
  have f3 := hf [(31, 0), (-1, 2)] (by decide)
  have f4 := hf [(1, 8)] (by decide)
  have f5 := hf [(63, 0), (-1, 8)] (by decide)
  have f6 := hf [(1, 3)] (by decide)
  have f7 := hf [(1, 0), (-1, 3)] (by decide)
  have f8 := hf [(1, 4)] (by decide)
  have f9 := hf [(1, 0), (-1, 4)] (by decide)
  have f10 := hf [(1, 5)] (by decide)
  have f11 := hf [(1, 0), (-1, 5)] (by decide)
  have f12 := hf [(1, 6)] (by decide)
  have f13 := hf [(1, 0), (-1, 6)] (by decide)
  have f14 := hf [(1, 7)] (by decide)
  have f15 := hf [(1, 0), (-1, 7)] (by decide)
  have f16 := hf [(1, 9)] (by decide)
  have f17 := hf [(1, 0), (-1, 9)] (by decide)
  have f18 := hf [(1, 10)] (by decide)
  have f19 := hf [(1, 0), (-1, 10)] (by decide)
  simp only [qD, h0] at f0 f1 f2 f3 f4 f5 f6 f7 f8 f9 f10 f11 f12 f13 f14 f15 f16 f17 f18 f19
  have m0 : M 91 249 = 0 := hm (91, 249, []) (by decide)
  have qxSD := hI.2.2.2.2.2.2.2.2.2.2.2.2.2.2.2.2.2.2.2.2.2.2.2.2.2.2.2.2.2.2.2.2.2.2.2.1
  have xb := xbo10 (t := ρ 1) (by omega) (by omega)

  have xc : xop 5 (ρ 1) 1024 - ρ 1 = 0 ∨ (xop 5 (ρ 1) 1024 - ρ 1 = 1024 ∧ (ρ 8 / 1) % 2 = 0) := by omega
  refine ⟨fun a => cond (Nat.blt a 11) (ρ a) (([xop 5 (ρ 1) 1024, ((xop 5 (ρ 1) 1024 - ρ 1) / 1024 + ρ 8)] : List Int).getD (a - 11) 0), fun a ha => ?_, fun f h => ?_, ?_⟩
  · show cond (Nat.blt a 11) (ρ a) _ = ρ a
    rw [show Nat.blt a 11 = true from Nat.ble_eq_true_of_le ha]; rfl
  · have h : f ∈ ([[(-1, 1), (1024, 8), (1, 11), (-1024, 12)], [(1, 1), (-1024, 8), (-1, 11), (1024, 12)], [(1, 12)], [(63, 0), (-1, 12)]] : List qF) := h
    simp only [List.mem_cons, List.not_mem_nil, or_false] at h
    rcases h with rfl | rfl | rfl | rfl
    · show 0 ≤ -1 * ρ 1 + (1024 * ρ 8 + (1 * (xop 5 (ρ 1) 1024) + (-1024 * (((xop 5 (ρ 1) 1024 - ρ 1) / 1024 + ρ 8)) + 0)))
      (try rw [h0]); omega
    · show 0 ≤ 1 * ρ 1 + (-1024 * ρ 8 + (-1 * (xop 5 (ρ 1) 1024) + (1024 * (((xop 5 (ρ 1) 1024 - ρ 1) / 1024 + ρ 8)) + 0)))
      (try rw [h0]); omega
    · show 0 ≤ 1 * (((xop 5 (ρ 1) 1024 - ρ 1) / 1024 + ρ 8)) + 0
      (try rw [h0]); omega
    · show 0 ≤ 63 * ρ 0 + (-1 * (((xop 5 (ρ 1) 1024 - ρ 1) / 1024 + ρ 8)) + 0)
      (try rw [h0]); omega
  · show sI (sU (sU (sU (sU (sU (sU (sU (sU (sU M 91 240 (1 * ρ 0 + 0)) 91 241 (1 * ρ 0 + 0)) 91 242 (10 * ρ 0 + 0)) 91 243 (1024 * ρ 0 + 0)) 91 245 (0)) 91 246 (1 * ρ 1 + 0)) 91 244 (1 * (xop 5 (ρ 1) 1024) + 0)) 91 247 (1024 * ρ 0 + 0)) 4 292 (1 * (((xop 5 (ρ 1) 1024 - ρ 1) / 1024 + ρ 8)) + 0))
    obtain ⟨W, hW⟩ : ∃ W, W = (sU (sU (sU (sU (sU (sU (sU (sU (sU M 91 240 (1 * ρ 0 + 0)) 91 241 (1 * ρ 0 + 0)) 91 242 (10 * ρ 0 + 0)) 91 243 (1024 * ρ 0 + 0)) 91 245 (0)) 91 246 (1 * ρ 1 + 0)) 91 244 (1 * (xop 5 (ρ 1) 1024) + 0)) 91 247 (1024 * ρ 0 + 0)) 4 292 (1 * (((xop 5 (ρ 1) 1024 - ρ 1) / 1024 + ρ 8)) + 0)) := ⟨_, rfl⟩
    rw [← hW]
    have base : sI0 W := by
      rw [hW]
      exact (si_u0 (si_u0 (si_u0 (si_u0 (si_u0 (si_u0 (si_u0 (si_u0 (si_u0 hI.1 (fun r hr => by cases hr)) (fun r hr => by cases hr)) (fun r hr => by cases hr)) (fun r hr => by cases hr)) (fun r hr => by cases hr)) (fun r hr => by cases hr)) (fun r hr => by cases hr)) (fun r hr => by cases hr)) (fun r hr => by cases hr))
    have k2 : XI2 W := by
      rw [hW]
      exact (xi2_u rfl (xi2_u rfl (xi2_u rfl (xi2_u rfl (xi2_u rfl (xi2_u rfl (xi2_u rfl (xi2_u rfl (xi2_u rfl hI.2.1)))))))))
    have k3 : XI3 W := by
      rw [hW]
      exact (xi3_u rfl (xi3_u rfl (xi3_u rfl (xi3_u rfl (xi3_u rfl (xi3_u rfl (xi3_u rfl (xi3_u rfl (xi3_u rfl hI.2.2.1)))))))))
    have kXA : XA W := by
      rw [hW]
      exact (uXA rfl (uXA rfl (uXA rfl (uXA rfl (uXA rfl (uXA rfl (uXA rfl (uXA rfl (uXA rfl hI.2.2.2.1)))))))))
    have k_xN1 : xN1 W := by
      rw [hW]
      exact (uxN1 rfl (uxN1 rfl (uxN1 rfl (uxN1 rfl (uxN1 rfl (uxN1 rfl (uxN1 rfl (uxN1 rfl (uxN1 rfl hI.2.2.2.2.1)))))))))
    have k_xN2 : xN2 W := by
      rw [hW]
      exact (uxN2 rfl (uxN2 rfl (uxN2 rfl (uxN2 rfl (uxN2 rfl (uxN2 rfl (uxN2 rfl (uxN2 rfl (uxN2 rfl hI.2.2.2.2.2.1)))))))))
    have k_xN3 : xN3 W := by
      rw [hW]
      exact (uxN3 rfl (uxN3 rfl (uxN3 rfl (uxN3 rfl (uxN3 rfl (uxN3 rfl (uxN3 rfl (uxN3 rfl (uxN3 rfl hI.2.2.2.2.2.2.1)))))))))
    have k_xN4 : xN4 W := by
      rw [hW]
      exact (uxN4 rfl (uxN4 rfl (uxN4 rfl (uxN4 rfl (uxN4 rfl (uxN4 rfl (uxN4 rfl (uxN4 rfl (uxN4 rfl hI.2.2.2.2.2.2.2.1)))))))))
    have k_xN5 : xN5 W := by
      rw [hW]
      exact (uxN5 rfl (uxN5 rfl (uxN5 rfl (uxN5 rfl (uxN5 rfl (uxN5 rfl (uxN5 rfl (uxN5 rfl (uxN5 rfl hI.2.2.2.2.2.2.2.2.1)))))))))
    have k_xN6 : xN6 W := by
      rw [hW]
      exact (uxN6 rfl (uxN6 rfl (uxN6 rfl (uxN6 rfl (uxN6 rfl (uxN6 rfl (uxN6 rfl (uxN6 rfl (uxN6 rfl hI.2.2.2.2.2.2.2.2.2.1)))))))))
    have k_xH1 : xH1 W := by
      rw [hW]
      exact (uxH1 rfl (uxH1 rfl (uxH1 rfl (uxH1 rfl (uxH1 rfl (uxH1 rfl (uxH1 rfl (uxH1 rfl (uxH1 rfl hI.2.2.2.2.2.2.2.2.2.2.1)))))))))
    have k_xK1 : xK1 W := by
      rw [hW]
      exact (uxK1 rfl (uxK1 rfl (uxK1 rfl (uxK1 rfl (uxK1 rfl (uxK1 rfl (uxK1 rfl (uxK1 rfl (uxK1 rfl hI.2.2.2.2.2.2.2.2.2.2.2.1)))))))))
    have k_xC1 : xC1 W := by
      rw [hW]
      exact (uxC1 rfl (uxC1 rfl (uxC1 rfl (uxC1 rfl (uxC1 rfl (uxC1 rfl (uxC1 rfl (uxC1 rfl (uxC1 rfl hI.2.2.2.2.2.2.2.2.2.2.2.2.1)))))))))
    have k_xRW : xRW W := by
      rw [hW]
      exact (uxRW rfl (uxRW rfl (uxRW rfl (uxRW rfl (uxRW rfl (uxRW rfl (uxRW rfl (uxRW rfl (uxRW rfl hI.2.2.2.2.2.2.2.2.2.2.2.2.2.1)))))))))
    have k_xWT : xWT W := by
      rw [hW]
      exact (uxWT rfl (uxWT rfl (uxWT rfl (uxWT rfl (uxWT rfl (uxWT rfl (uxWT rfl (uxWT rfl (uxWT rfl hI.2.2.2.2.2.2.2.2.2.2.2.2.2.2.1)))))))))
    have k_xCU : xCU W := by
      rw [hW]
      exact (uxCU rfl (uxCU rfl (uxCU rfl (uxCU rfl (uxCU rfl (uxCU rfl (uxCU rfl (uxCU rfl (uxCU rfl hI.2.2.2.2.2.2.2.2.2.2.2.2.2.2.2.1)))))))))
    have k_xG2 : xG2 W := by
      rw [hW]
      exact (uxG2 rfl (uxG2 rfl (uxG2 rfl (uxG2 rfl (uxG2 rfl (uxG2 rfl (uxG2 rfl (uxG2 rfl (uxG2 rfl hI.2.2.2.2.2.2.2.2.2.2.2.2.2.2.2.2.1)))))))))
    have k_xG3 : xG3 W := by
      rw [hW]
      exact (uxG3 rfl (uxG3 rfl (uxG3 rfl (uxG3 rfl (uxG3 rfl (uxG3 rfl (uxG3 rfl (uxG3 rfl (uxG3 rfl hI.2.2.2.2.2.2.2.2.2.2.2.2.2.2.2.2.2.1)))))))))
    have k_xG4 : xG4 W := by
      rw [hW]
      exact (uxG4 rfl (uxG4 rfl (uxG4 rfl (uxG4 rfl (uxG4 rfl (uxG4 rfl (uxG4 rfl (uxG4 rfl (uxG4 rfl hI.2.2.2.2.2.2.2.2.2.2.2.2.2.2.2.2.2.2.1)))))))))
    have k_xG5 : xG5 W := by
      rw [hW]
      exact (uxG5 rfl (uxG5 rfl (uxG5 rfl (uxG5 rfl (uxG5 rfl (uxG5 rfl (uxG5 rfl (uxG5 rfl (uxG5 rfl hI.2.2.2.2.2.2.2.2.2.2.2.2.2.2.2.2.2.2.2.1)))))))))
    have k_xG6 : xG6 W := by
      rw [hW]
      exact (uxG6 rfl (uxG6 rfl (uxG6 rfl (uxG6 rfl (uxG6 rfl (uxG6 rfl (uxG6 rfl (uxG6 rfl (uxG6 rfl hI.2.2.2.2.2.2.2.2.2.2.2.2.2.2.2.2.2.2.2.2.1)))))))))
    have k_xS1 : xS1 W := by
      rw [hW]
      exact (uxS1 rfl (uxS1 rfl (uxS1 rfl (uxS1 rfl (uxS1 rfl (uxS1 rfl (uxS1 rfl (uxS1 rfl (uxS1 rfl hI.2.2.2.2.2.2.2.2.2.2.2.2.2.2.2.2.2.2.2.2.2.1)))))))))
    have k_xS2 : xS2 W := by
      rw [hW]
      exact (uxS2 rfl (uxS2 rfl (uxS2 rfl (uxS2 rfl (uxS2 rfl (uxS2 rfl (uxS2 rfl (uxS2 rfl (uxS2 rfl hI.2.2.2.2.2.2.2.2.2.2.2.2.2.2.2.2.2.2.2.2.2.2.1)))))))))
    have k_xS3 : xS3 W := by
      rw [hW]
      exact (uxS3 rfl (uxS3 rfl (uxS3 rfl (uxS3 rfl (uxS3 rfl (uxS3 rfl (uxS3 rfl (uxS3 rfl (uxS3 rfl hI.2.2.2.2.2.2.2.2.2.2.2.2.2.2.2.2.2.2.2.2.2.2.2.1)))))))))
    have k_xS4 : xS4 W := by
      rw [hW]
      exact (uxS4 rfl (uxS4 rfl (uxS4 rfl (uxS4 rfl (uxS4 rfl (uxS4 rfl (uxS4 rfl (uxS4 rfl (uxS4 rfl hI.2.2.2.2.2.2.2.2.2.2.2.2.2.2.2.2.2.2.2.2.2.2.2.2.1)))))))))
    have k_xS5 : xS5 W := by
      rw [hW]
      exact (uxS5 rfl (uxS5 rfl (uxS5 rfl (uxS5 rfl (uxS5 rfl (uxS5 rfl (uxS5 rfl (uxS5 rfl (uxS5 rfl hI.2.2.2.2.2.2.2.2.2.2.2.2.2.2.2.2.2.2.2.2.2.2.2.2.2.1)))))))))
    have k_xS6 : xS6 W := by
      rw [hW]
      exact (uxS6 rfl (uxS6 rfl (uxS6 rfl (uxS6 rfl (uxS6 rfl (uxS6 rfl (uxS6 rfl (uxS6 rfl (uxS6 rfl hI.2.2.2.2.2.2.2.2.2.2.2.2.2.2.2.2.2.2.2.2.2.2.2.2.2.2.1)))))))))
    have k_xS7 : xS7 W := by
      rw [hW]
      exact (uxS7 rfl (uxS7 rfl (uxS7 rfl (uxS7 rfl (uxS7 rfl (uxS7 rfl (uxS7 rfl (uxS7 rfl (uxS7 rfl hI.2.2.2.2.2.2.2.2.2.2.2.2.2.2.2.2.2.2.2.2.2.2.2.2.2.2.2.1)))))))))
    have k_xS8 : xS8 W := by
      rw [hW]
      exact (uxS8 rfl (uxS8 rfl (uxS8 rfl (uxS8 rfl (uxS8 rfl (uxS8 rfl (uxS8 rfl (uxS8 rfl (uxS8 rfl hI.2.2.2.2.2.2.2.2.2.2.2.2.2.2.2.2.2.2.2.2.2.2.2.2.2.2.2.2.1)))))))))
    have k_xS9 : xS9 W := by
      rw [hW]
      exact (uxS9 rfl (uxS9 rfl (uxS9 rfl (uxS9 rfl (uxS9 rfl (uxS9 rfl (uxS9 rfl (uxS9 rfl (uxS9 rfl hI.2.2.2.2.2.2.2.2.2.2.2.2.2.2.2.2.2.2.2.2.2.2.2.2.2.2.2.2.2.1)))))))))
    have k_xSA : xSA W := by
      rw [hW]
      exact (uxSA rfl (uxSA rfl (uxSA rfl (uxSA rfl (uxSA rfl (uxSA rfl (uxSA rfl (uxSA rfl (uxSA rfl hI.2.2.2.2.2.2.2.2.2.2.2.2.2.2.2.2.2.2.2.2.2.2.2.2.2.2.2.2.2.2.1)))))))))
    have k_xSG : xSG W := by
      rw [hW]
      exact (uxSG rfl (uxSG rfl (uxSG rfl (uxSG rfl (uxSG rfl (uxSG rfl (uxSG rfl (uxSG rfl (uxSG rfl hI.2.2.2.2.2.2.2.2.2.2.2.2.2.2.2.2.2.2.2.2.2.2.2.2.2.2.2.2.2.2.2.1)))))))))
    have k_xSF : xSF W := by
      rw [hW]
      exact (uxSF rfl (uxSF rfl (uxSF rfl (uxSF rfl (uxSF rfl (uxSF rfl (uxSF rfl (uxSF rfl (uxSF rfl hI.2.2.2.2.2.2.2.2.2.2.2.2.2.2.2.2.2.2.2.2.2.2.2.2.2.2.2.2.2.2.2.2.1)))))))))
    have k_xSB : xSB W := by
      rw [hW]
      exact (uxSB rfl (uxSB rfl (uxSB rfl (uxSB rfl (uxSB rfl (uxSB rfl (uxSB rfl (uxSB rfl (uxSB rfl hI.2.2.2.2.2.2.2.2.2.2.2.2.2.2.2.2.2.2.2.2.2.2.2.2.2.2.2.2.2.2.2.2.2.1)))))))))
    have k_xSC : xSC W := by
      rw [hW]
      exact (uxSC rfl (uxSC rfl (uxSC rfl (uxSC rfl (uxSC rfl (uxSC rfl (uxSC rfl (uxSC rfl (uxSC rfl hI.2.2.2.2.2.2.2.2.2.2.2.2.2.2.2.2.2.2.2.2.2.2.2.2.2.2.2.2.2.2.2.2.2.2.1)))))))))
    have k_xSD : xSD W := by
      have r91_240 : W 91 240 = 1 * ρ 0 + 0 := by rw [hW, sU_ne (fun z => by omega), sU_ne (fun z => by omega), sU_ne (fun z => by omega), sU_ne (fun z => by omega), sU_ne (fun z => by omega), sU_ne (fun z => by omega), sU_ne (fun z => by omega), sU_ne (fun z => by omega), sU_at]
      have r91_241 : W 91 241 = 1 * ρ 0 + 0 := by rw [hW, sU_ne (fun z => by omega), sU_ne (fun z => by omega), sU_ne (fun z => by omega), sU_ne (fun z => by omega), sU_ne (fun z => by omega), sU_ne (fun z => by omega), sU_ne (fun z => by omega), sU_at]
      have r91_242 : W 91 242 = 10 * ρ 0 + 0 := by rw [hW, sU_ne (fun z => by omega), sU_ne (fun z => by omega), sU_ne (fun z => by omega), sU_ne (fun z => by omega), sU_ne (fun z => by omega), sU_ne (fun z => by omega), sU_at]
      have r91_243 : W 91 243 = 1024 * ρ 0 + 0 := by rw [hW, sU_ne (fun z => by omega), sU_ne (fun z => by omega), sU_ne (fun z => by omega), sU_ne (fun z => by omega), sU_ne (fun z => by omega), sU_at]
      have r91_244 : W 91 244 = 1 * (xop 5 (ρ 1) 1024) + 0 := by rw [hW, sU_ne (fun z => by omega), sU_ne (fun z => by omega), sU_at]
      have r91_245 : W 91 245 = 0 := by rw [hW, sU_ne (fun z => by omega), sU_ne (fun z => by omega), sU_ne (fun z => by omega), sU_ne (fun z => by omega), sU_at]
      have r91_246 : W 91 246 = 1 * ρ 1 + 0 := by rw [hW, sU_ne (fun z => by omega), sU_ne (fun z => by omega), sU_ne (fun z => by omega), sU_at]
      have r91_247 : W 91 247 = 1024 * ρ 0 + 0 := by rw [hW, sU_ne (fun z => by omega), sU_at]
      intro h
      rw [r91_241, r91_242, r91_243, r91_244, r91_245, r91_246, r91_247, h0]
      refine ⟨by decide, ?_, by decide⟩
      rw [show ((1024 : Int) * 1 + 0) = 1024 from rfl, show (1 * ρ 1 + 0 : Int) = ρ 1 by omega]
      omega
    have k_xSE : xSE W := by
      have r : W 91 249 = 0 := by
        have e := m0
        rw [hW, sU_ne (fun z => by omega), sU_ne (fun z => by omega), sU_ne (fun z => by omega), sU_ne (fun z => by omega), sU_ne (fun z => by omega), sU_ne (fun z => by omega), sU_ne (fun z => by omega), sU_ne (fun z => by omega), sU_ne (fun z => by omega)]
        omega
      intro h
      rw [r] at h
      omega
    have k_xSW : xSW W := by
      rw [hW]
      exact (uxSW rfl (uxSW rfl (uxSW rfl (uxSW rfl (uxSW rfl (uxSW rfl (uxSW rfl (uxSW rfl (uxSW rfl hI.2.2.2.2.2.2.2.2.2.2.2.2.2.2.2.2.2.2.2.2.2.2.2.2.2.2.2.2.2.2.2.2.2.2.2.2.2.1)))))))))
    have k_xST : xST W := by
      rw [hW]
      exact (uxST rfl (uxST rfl (uxST rfl (uxST rfl (uxST rfl (uxST rfl (uxST rfl (uxST rfl (uxST rfl hI.2.2.2.2.2.2.2.2.2.2.2.2.2.2.2.2.2.2.2.2.2.2.2.2.2.2.2.2.2.2.2.2.2.2.2.2.2.2.1)))))))))
    have k_xSP : xSP W := by
      rw [hW]
      exact (uxSP rfl (uxSP rfl (uxSP rfl (uxSP rfl (uxSP rfl (uxSP rfl (uxSP rfl (uxSP rfl (uxSP rfl hI.2.2.2.2.2.2.2.2.2.2.2.2.2.2.2.2.2.2.2.2.2.2.2.2.2.2.2.2.2.2.2.2.2.2.2.2.2.2.2.1)))))))))
    have k_xSL : xSL W := by
      rw [hW]
      exact (uxSL rfl (uxSL rfl (uxSL rfl (uxSL rfl (uxSL rfl (uxSL rfl (uxSL rfl (uxSL rfl (uxSL rfl hI.2.2.2.2.2.2.2.2.2.2.2.2.2.2.2.2.2.2.2.2.2.2.2.2.2.2.2.2.2.2.2.2.2.2.2.2.2.2.2.2.1)))))))))
    have k_xSM : xSM W := by
      rw [hW]
      exact (uxSM rfl (uxSM rfl (uxSM rfl (uxSM rfl (uxSM rfl (uxSM rfl (uxSM rfl (uxSM rfl (uxSM rfl hI.2.2.2.2.2.2.2.2.2.2.2.2.2.2.2.2.2.2.2.2.2.2.2.2.2.2.2.2.2.2.2.2.2.2.2.2.2.2.2.2.2.1)))))))))
    have k_xSI : xSI W := by
      rw [hW]
      exact (uxSI rfl (uxSI rfl (uxSI rfl (uxSI rfl (uxSI rfl (uxSI rfl (uxSI rfl (uxSI rfl (uxSI rfl hI.2.2.2.2.2.2.2.2.2.2.2.2.2.2.2.2.2.2.2.2.2.2.2.2.2.2.2.2.2.2.2.2.2.2.2.2.2.2.2.2.2.2.1)))))))))
    have k_xD3 : xD3 W := by
      rw [hW]
      exact (uxD3 rfl (uxD3 rfl (uxD3 rfl (uxD3 rfl (uxD3 rfl (uxD3 rfl (uxD3 rfl (uxD3 rfl (uxD3 rfl hI.2.2.2.2.2.2.2.2.2.2.2.2.2.2.2.2.2.2.2.2.2.2.2.2.2.2.2.2.2.2.2.2.2.2.2.2.2.2.2.2.2.2.2.1)))))))))
    have k_xDV : xDV W := by
      rw [hW]
      exact (uxDV rfl (uxDV rfl (uxDV rfl (uxDV rfl (uxDV rfl (uxDV rfl (uxDV rfl (uxDV rfl (uxDV rfl hI.2.2.2.2.2.2.2.2.2.2.2.2.2.2.2.2.2.2.2.2.2.2.2.2.2.2.2.2.2.2.2.2.2.2.2.2.2.2.2.2.2.2.2.2.1)))))))))
    have k_xDP : xDP W := by
      rw [hW]
      exact (uxDP rfl (uxDP rfl (uxDP rfl (uxDP rfl (uxDP rfl (uxDP rfl (uxDP rfl (uxDP rfl (uxDP rfl hI.2.2.2.2.2.2.2.2.2.2.2.2.2.2.2.2.2.2.2.2.2.2.2.2.2.2.2.2.2.2.2.2.2.2.2.2.2.2.2.2.2.2.2.2.2.1)))))))))
    have k_xDE : xDE W := by
      rw [hW]
      exact (uxDE rfl (uxDE rfl (uxDE rfl (uxDE rfl (uxDE rfl (uxDE rfl (uxDE rfl (uxDE rfl (uxDE rfl hI.2.2.2.2.2.2.2.2.2.2.2.2.2.2.2.2.2.2.2.2.2.2.2.2.2.2.2.2.2.2.2.2.2.2.2.2.2.2.2.2.2.2.2.2.2.2.1)))))))))
    have k_xQ5 : xQ5 W := by
      rw [hW]
      exact (uxQ5 rfl (uxQ5 rfl (uxQ5 rfl (uxQ5 rfl (uxQ5 rfl (uxQ5 rfl (uxQ5 rfl (uxQ5 rfl (uxQ5 rfl hI.2.2.2.2.2.2.2.2.2.2.2.2.2.2.2.2.2.2.2.2.2.2.2.2.2.2.2.2.2.2.2.2.2.2.2.2.2.2.2.2.2.2.2.2.2.2.2.1)))))))))
    have k_xQL : xQL W := by
      rw [hW]
      exact (uxQL rfl (uxQL rfl (uxQL rfl (uxQL rfl (uxQL rfl (uxQL rfl (uxQL rfl (uxQL rfl (uxQL rfl hI.2.2.2.2.2.2.2.2.2.2.2.2.2.2.2.2.2.2.2.2.2.2.2.2.2.2.2.2.2.2.2.2.2.2.2.2.2.2.2.2.2.2.2.2.2.2.2.2.1)))))))))
    have k_xQW : xQW W := by
      rw [hW]
      exact (uxQW rfl (uxQW rfl (uxQW rfl (uxQW rfl (uxQW rfl (uxQW rfl (uxQW rfl (uxQW rfl (uxQW rfl hI.2.2.2.2.2.2.2.2.2.2.2.2.2.2.2.2.2.2.2.2.2.2.2.2.2.2.2.2.2.2.2.2.2.2.2.2.2.2.2.2.2.2.2.2.2.2.2.2.2.1)))))))))
    have k_xQM : xQM W := by
      rw [hW]
      exact (uxQM rfl (uxQM rfl (uxQM rfl (uxQM rfl (uxQM rfl (uxQM rfl (uxQM rfl (uxQM rfl (uxQM rfl hI.2.2.2.2.2.2.2.2.2.2.2.2.2.2.2.2.2.2.2.2.2.2.2.2.2.2.2.2.2.2.2.2.2.2.2.2.2.2.2.2.2.2.2.2.2.2.2.2.2.2.1)))))))))
    have k_xQH : xQH W := by
      rw [hW]
      exact (uxQH rfl (uxQH rfl (uxQH rfl (uxQH rfl (uxQH rfl (uxQH rfl (uxQH rfl (uxQH rfl (uxQH rfl hI.2.2.2.2.2.2.2.2.2.2.2.2.2.2.2.2.2.2.2.2.2.2.2.2.2.2.2.2.2.2.2.2.2.2.2.2.2.2.2.2.2.2.2.2.2.2.2.2.2.2.2)))))))))
    have k_XC : XC W := ⟨k_xS1, k_xS2, k_xS3, k_xS4, k_xS5, k_xS6, k_xS7, k_xS8, k_xS9, k_xSA, k_xSG, k_xSF, k_xSB, k_xSC, k_xSD, k_xSE, k_xSW, k_xST, k_xSP, k_xSL, k_xSM, k_xSI, k_xD3, k_xDV, k_xDP, k_xDE, k_xQ5, k_xQL, k_xQW, k_xQM, k_xQH⟩
    have kXB : XB W := ⟨k_xN1, k_xN2, k_xN3, k_xN4, k_xN5, k_xN6, k_xH1, k_xK1, k_xC1, k_xRW, k_xWT, k_xCU, k_xG2, k_xG3, k_xG4, k_xG5, k_xG6, k_XC⟩
    exact ⟨base, k2, k3, kXA, kXB⟩
-- nmTieR94_0
def xr_506 : qRu := (4, [[(-1, 0), (1, 3)]], [(4, 100, [(2, 0)]), (4, 104, [(1, 3)]), (94, 9, [(1, 1)]), (3, 60, [(1, 2)])], [], [], [[(1, 1), (-1, 2)], [(-1, 1), (1, 2)]])
theorem xo_506 : qRok xr_506 := by
  intro ρ M h0 hf hm hI
  have f0 := hf [(-1, 0), (1, 3)] (by decide)
  simp only [qD, h0] at f0
  have m0 : M 4 100 = 2 * ρ 0 + 0 := hm (4, 100, [(2, 0)]) (by decide)
  have m1 : M 4 104 = 1 * ρ 3 + 0 := hm (4, 104, [(1, 3)]) (by decide)
  have m2 : M 94 9 = 1 * ρ 1 + 0 := hm (94, 9, [(1, 1)]) (by decide)
  have m3 : M 3 60 = 1 * ρ 2 + 0 := hm (3, 60, [(1, 2)]) (by decide)
  simp only [h0] at m0
  obtain ⟨a0, a1, a2⟩ := gx_xS5 hI (by omega)
  have t := a0 0 (by omega) (by omega)
  have t : M 94 9 = M 3 60 := t
  refine ⟨ρ, fun _ _ => rfl, fun f h => ?_, ?_⟩
  · have h : f ∈ ([[(1, 1), (-1, 2)], [(-1, 1), (1, 2)]] : List qF) := h
    simp only [List.mem_cons, List.not_mem_nil, or_false] at h
    rcases h with rfl | rfl
    · show 0 ≤ 1 * ρ 1 + (-1 * ρ 2 + 0)
      (try rw [h0]); omega
    · show 0 ≤ -1 * ρ 1 + (1 * ρ 2 + 0)
      (try rw [h0]); omega
  · show sI M
    exact hI
-- nmTieR94_1
def xr_507 : qRu := (4, [[(-2, 0), (1, 3)]], [(4, 100, [(2, 0)]), (4, 104, [(1, 3)]), (94, 10, [(1, 1)]), (3, 61, [(1, 2)])], [], [], [[(1, 1), (-1, 2)], [(-1, 1), (1, 2)]])
theorem xo_507 : qRok xr_507 := by
  intro ρ M h0 hf hm hI
  have f0 := hf [(-2, 0), (1, 3)] (by decide)
  simp only [qD, h0] at f0
  have m0 : M 4 100 = 2 * ρ 0 + 0 := hm (4, 100, [(2, 0)]) (by decide)
  have m1 : M 4 104 = 1 * ρ 3 + 0 := hm (4, 104, [(1, 3)]) (by decide)
  have m2 : M 94 10 = 1 * ρ 1 + 0 := hm (94, 10, [(1, 1)]) (by decide)
  have m3 : M 3 61 = 1 * ρ 2 + 0 := hm (3, 61, [(1, 2)]) (by decide)
  simp only [h0] at m0
  obtain ⟨a0, a1, a2⟩ := gx_xS5 hI (by omega)
  have t := a0 1 (by omega) (by omega)
  have t : M 94 10 = M 3 61 := t
  refine ⟨ρ, fun _ _ => rfl, fun f h => ?_, ?_⟩
  · have h : f ∈ ([[(1, 1), (-1, 2)], [(-1, 1), (1, 2)]] : List qF) := h
    simp only [List.mem_cons, List.not_mem_nil, or_false] at h
    rcases h with rfl | rfl
    · show 0 ≤ 1 * ρ 1 + (-1 * ρ 2 + 0)
      (try rw [h0]); omega
    · show 0 ≤ -1 * ρ 1 + (1 * ρ 2 + 0)
      (try rw [h0]); omega
  · show sI M
    exact hI
-- nmTieR94_2
def xr_508 : qRu := (4, [[(-3, 0), (1, 3)]], [(4, 100, [(2, 0)]), (4, 104, [(1, 3)]), (94, 11, [(1, 1)]), (3, 62, [(1, 2)])], [], [], [[(1, 1), (-1, 2)], [(-1, 1), (1, 2)]])
theorem xo_508 : qRok xr_508 := by
  intro ρ M h0 hf hm hI
  have f0 := hf [(-3, 0), (1, 3)] (by decide)
  simp only [qD, h0] at f0
  have m0 : M 4 100 = 2 * ρ 0 + 0 := hm (4, 100, [(2, 0)]) (by decide)
  have m1 : M 4 104 = 1 * ρ 3 + 0 := hm (4, 104, [(1, 3)]) (by decide)
  have m2 : M 94 11 = 1 * ρ 1 + 0 := hm (94, 11, [(1, 1)]) (by decide)
  have m3 : M 3 62 = 1 * ρ 2 + 0 := hm (3, 62, [(1, 2)]) (by decide)
  simp only [h0] at m0
  obtain ⟨a0, a1, a2⟩ := gx_xS5 hI (by omega)
  have t := a0 2 (by omega) (by omega)
  have t : M 94 11 = M 3 62 := t
  refine ⟨ρ, fun _ _ => rfl, fun f h => ?_, ?_⟩
  · have h : f ∈ ([[(1, 1), (-1, 2)], [(-1, 1), (1, 2)]] : List qF) := h
    simp only [List.mem_cons, List.not_mem_nil, or_false] at h
    rcases h with rfl | rfl
    · show 0 ≤ 1 * ρ 1 + (-1 * ρ 2 + 0)
      (try rw [h0]); omega
    · show 0 ≤ -1 * ρ 1 + (1 * ρ 2 + 0)
      (try rw [h0]); omega
  · show sI M
    exact hI
-- nmTieR94_3
def xr_509 : qRu := (4, [[(-4, 0), (1, 3)]], [(4, 100, [(2, 0)]), (4, 104, [(1, 3)]), (94, 12, [(1, 1)]), (3, 63, [(1, 2)])], [], [], [[(1, 1), (-1, 2)], [(-1, 1), (1, 2)]])
theorem xo_509 : qRok xr_509 := by
  intro ρ M h0 hf hm hI
  have f0 := hf [(-4, 0), (1, 3)] (by decide)
  simp only [qD, h0] at f0
  have m0 : M 4 100 = 2 * ρ 0 + 0 := hm (4, 100, [(2, 0)]) (by decide)
  have m1 : M 4 104 = 1 * ρ 3 + 0 := hm (4, 104, [(1, 3)]) (by decide)
  have m2 : M 94 12 = 1 * ρ 1 + 0 := hm (94, 12, [(1, 1)]) (by decide)
  have m3 : M 3 63 = 1 * ρ 2 + 0 := hm (3, 63, [(1, 2)]) (by decide)
  simp only [h0] at m0
  obtain ⟨a0, a1, a2⟩ := gx_xS5 hI (by omega)
  have t := a0 3 (by omega) (by omega)
  have t : M 94 12 = M 3 63 := t
  refine ⟨ρ, fun _ _ => rfl, fun f h => ?_, ?_⟩
  · have h : f ∈ ([[(1, 1), (-1, 2)], [(-1, 1), (1, 2)]] : List qF) := h
    simp only [List.mem_cons, List.not_mem_nil, or_false] at h
    rcases h with rfl | rfl
    · show 0 ≤ 1 * ρ 1 + (-1 * ρ 2 + 0)
      (try rw [h0]); omega
    · show 0 ≤ -1 * ρ 1 + (1 * ρ 2 + 0)
      (try rw [h0]); omega
  · show sI M
    exact hI
-- nmTieR94_4
def xr_510 : qRu := (4, [[(-5, 0), (1, 3)]], [(4, 100, [(2, 0)]), (4, 104, [(1, 3)]), (94, 13, [(1, 1)]), (3, 64, [(1, 2)])], [], [], [[(1, 1), (-1, 2)], [(-1, 1), (1, 2)]])
theorem xo_510 : qRok xr_510 := by
  intro ρ M h0 hf hm hI
  have f0 := hf [(-5, 0), (1, 3)] (by decide)
  simp only [qD, h0] at f0
  have m0 : M 4 100 = 2 * ρ 0 + 0 := hm (4, 100, [(2, 0)]) (by decide)
  have m1 : M 4 104 = 1 * ρ 3 + 0 := hm (4, 104, [(1, 3)]) (by decide)
  have m2 : M 94 13 = 1 * ρ 1 + 0 := hm (94, 13, [(1, 1)]) (by decide)
  have m3 : M 3 64 = 1 * ρ 2 + 0 := hm (3, 64, [(1, 2)]) (by decide)
  simp only [h0] at m0
  obtain ⟨a0, a1, a2⟩ := gx_xS5 hI (by omega)
  have t := a0 4 (by omega) (by omega)
  have t : M 94 13 = M 3 64 := t
  refine ⟨ρ, fun _ _ => rfl, fun f h => ?_, ?_⟩
  · have h : f ∈ ([[(1, 1), (-1, 2)], [(-1, 1), (1, 2)]] : List qF) := h
    simp only [List.mem_cons, List.not_mem_nil, or_false] at h
    rcases h with rfl | rfl
    · show 0 ≤ 1 * ρ 1 + (-1 * ρ 2 + 0)
      (try rw [h0]); omega
    · show 0 ≤ -1 * ρ 1 + (1 * ρ 2 + 0)
      (try rw [h0]); omega
  · show sI M
    exact hI
-- nmTieR94_5
def xr_511 : qRu := (4, [[(-6, 0), (1, 3)]], [(4, 100, [(2, 0)]), (4, 104, [(1, 3)]), (94, 14, [(1, 1)]), (3, 65, [(1, 2)])], [], [], [[(1, 1), (-1, 2)], [(-1, 1), (1, 2)]])
theorem xo_511 : qRok xr_511 := by
  intro ρ M h0 hf hm hI
  have f0 := hf [(-6, 0), (1, 3)] (by decide)
  simp only [qD, h0] at f0
  have m0 : M 4 100 = 2 * ρ 0 + 0 := hm (4, 100, [(2, 0)]) (by decide)
  have m1 : M 4 104 = 1 * ρ 3 + 0 := hm (4, 104, [(1, 3)]) (by decide)
  have m2 : M 94 14 = 1 * ρ 1 + 0 := hm (94, 14, [(1, 1)]) (by decide)
  have m3 : M 3 65 = 1 * ρ 2 + 0 := hm (3, 65, [(1, 2)]) (by decide)
  simp only [h0] at m0
  obtain ⟨a0, a1, a2⟩ := gx_xS5 hI (by omega)
  have t := a0 5 (by omega) (by omega)
  have t : M 94 14 = M 3 65 := t
  refine ⟨ρ, fun _ _ => rfl, fun f h => ?_, ?_⟩
  · have h : f ∈ ([[(1, 1), (-1, 2)], [(-1, 1), (1, 2)]] : List qF) := h
    simp only [List.mem_cons, List.not_mem_nil, or_false] at h
    rcases h with rfl | rfl
    · show 0 ≤ 1 * ρ 1 + (-1 * ρ 2 + 0)
      (try rw [h0]); omega
    · show 0 ≤ -1 * ρ 1 + (1 * ρ 2 + 0)
      (try rw [h0]); omega
  · show sI M
    exact hI
-- nmTieR94_6
def xr_512 : qRu := (4, [[(-7, 0), (1, 3)]], [(4, 100, [(2, 0)]), (4, 104, [(1, 3)]), (94, 15, [(1, 1)]), (3, 66, [(1, 2)])], [], [], [[(1, 1), (-1, 2)], [(-1, 1), (1, 2)]])
theorem xo_512 : qRok xr_512 := by
  intro ρ M h0 hf hm hI
  have f0 := hf [(-7, 0), (1, 3)] (by decide)
  simp only [qD, h0] at f0
  have m0 : M 4 100 = 2 * ρ 0 + 0 := hm (4, 100, [(2, 0)]) (by decide)
  have m1 : M 4 104 = 1 * ρ 3 + 0 := hm (4, 104, [(1, 3)]) (by decide)
  have m2 : M 94 15 = 1 * ρ 1 + 0 := hm (94, 15, [(1, 1)]) (by decide)
  have m3 : M 3 66 = 1 * ρ 2 + 0 := hm (3, 66, [(1, 2)]) (by decide)
  simp only [h0] at m0
  obtain ⟨a0, a1, a2⟩ := gx_xS5 hI (by omega)
  have t := a0 6 (by omega) (by omega)
  have t : M 94 15 = M 3 66 := t
  refine ⟨ρ, fun _ _ => rfl, fun f h => ?_, ?_⟩
  · have h : f ∈ ([[(1, 1), (-1, 2)], [(-1, 1), (1, 2)]] : List qF) := h
    simp only [List.mem_cons, List.not_mem_nil, or_false] at h
    rcases h with rfl | rfl
    · show 0 ≤ 1 * ρ 1 + (-1 * ρ 2 + 0)
      (try rw [h0]); omega
    · show 0 ≤ -1 * ρ 1 + (1 * ρ 2 + 0)
      (try rw [h0]); omega
  · show sI M
    exact hI
-- nmTieR94_7
def xr_513 : qRu := (4, [[(-8, 0), (1, 3)]], [(4, 100, [(2, 0)]), (4, 104, [(1, 3)]), (94, 16, [(1, 1)]), (3, 67, [(1, 2)])], [], [], [[(1, 1), (-1, 2)], [(-1, 1), (1, 2)]])
theorem xo_513 : qRok xr_513 := by
  intro ρ M h0 hf hm hI
  have f0 := hf [(-8, 0), (1, 3)] (by decide)
  simp only [qD, h0] at f0
  have m0 : M 4 100 = 2 * ρ 0 + 0 := hm (4, 100, [(2, 0)]) (by decide)
  have m1 : M 4 104 = 1 * ρ 3 + 0 := hm (4, 104, [(1, 3)]) (by decide)
  have m2 : M 94 16 = 1 * ρ 1 + 0 := hm (94, 16, [(1, 1)]) (by decide)
  have m3 : M 3 67 = 1 * ρ 2 + 0 := hm (3, 67, [(1, 2)]) (by decide)
  simp only [h0] at m0
  obtain ⟨a0, a1, a2⟩ := gx_xS5 hI (by omega)
  have t := a0 7 (by omega) (by omega)
  have t : M 94 16 = M 3 67 := t
  refine ⟨ρ, fun _ _ => rfl, fun f h => ?_, ?_⟩
  · have h : f ∈ ([[(1, 1), (-1, 2)], [(-1, 1), (1, 2)]] : List qF) := h
    simp only [List.mem_cons, List.not_mem_nil, or_false] at h
    rcases h with rfl | rfl
    · show 0 ≤ 1 * ρ 1 + (-1 * ρ 2 + 0)
      (try rw [h0]); omega
    · show 0 ≤ -1 * ρ 1 + (1 * ρ 2 + 0)
      (try rw [h0]); omega
  · show sI M
    exact hI
-- nmTieR94_8
def xr_514 : qRu := (4, [[(-9, 0), (1, 3)]], [(4, 100, [(2, 0)]), (4, 104, [(1, 3)]), (94, 17, [(1, 1)]), (3, 68, [(1, 2)])], [], [], [[(1, 1), (-1, 2)], [(-1, 1), (1, 2)]])
theorem xo_514 : qRok xr_514 := by
  intro ρ M h0 hf hm hI
  have f0 := hf [(-9, 0), (1, 3)] (by decide)
  simp only [qD, h0] at f0
  have m0 : M 4 100 = 2 * ρ 0 + 0 := hm (4, 100, [(2, 0)]) (by decide)
  have m1 : M 4 104 = 1 * ρ 3 + 0 := hm (4, 104, [(1, 3)]) (by decide)
  have m2 : M 94 17 = 1 * ρ 1 + 0 := hm (94, 17, [(1, 1)]) (by decide)
  have m3 : M 3 68 = 1 * ρ 2 + 0 := hm (3, 68, [(1, 2)]) (by decide)
  simp only [h0] at m0
  obtain ⟨a0, a1, a2⟩ := gx_xS5 hI (by omega)
  have t := a0 8 (by omega) (by omega)
  have t : M 94 17 = M 3 68 := t
  refine ⟨ρ, fun _ _ => rfl, fun f h => ?_, ?_⟩
  · have h : f ∈ ([[(1, 1), (-1, 2)], [(-1, 1), (1, 2)]] : List qF) := h
    simp only [List.mem_cons, List.not_mem_nil, or_false] at h
    rcases h with rfl | rfl
    · show 0 ≤ 1 * ρ 1 + (-1 * ρ 2 + 0)
      (try rw [h0]); omega
    · show 0 ≤ -1 * ρ 1 + (1 * ρ 2 + 0)
      (try rw [h0]); omega
  · show sI M
    exact hI
-- nmTieR100_0
def xr_515 : qRu := (4, [[(-1, 0), (1, 3)]], [(4, 100, [(2, 0)]), (4, 105, [(1, 3)]), (100, 6, [(1, 1)]), (3, 70, [(1, 2)])], [], [], [[(1, 1), (-1, 2)], [(-1, 1), (1, 2)]])
theorem xo_515 : qRok xr_515 := by
  intro ρ M h0 hf hm hI
  have f0 := hf [(-1, 0), (1, 3)] (by decide)
  simp only [qD, h0] at f0
  have m0 : M 4 100 = 2 * ρ 0 + 0 := hm (4, 100, [(2, 0)]) (by decide)
  have m1 : M 4 105 = 1 * ρ 3 + 0 := hm (4, 105, [(1, 3)]) (by decide)
  have m2 : M 100 6 = 1 * ρ 1 + 0 := hm (100, 6, [(1, 1)]) (by decide)
  have m3 : M 3 70 = 1 * ρ 2 + 0 := hm (3, 70, [(1, 2)]) (by decide)
  simp only [h0] at m0
  obtain ⟨a0, a1, a2⟩ := gx_xS5 hI (by omega)
  have t := a1 0 (by omega) (by omega)
  have t : M 100 6 = M 3 70 := t
  refine ⟨ρ, fun _ _ => rfl, fun f h => ?_, ?_⟩
  · have h : f ∈ ([[(1, 1), (-1, 2)], [(-1, 1), (1, 2)]] : List qF) := h
    simp only [List.mem_cons, List.not_mem_nil, or_false] at h
    rcases h with rfl | rfl
    · show 0 ≤ 1 * ρ 1 + (-1 * ρ 2 + 0)
      (try rw [h0]); omega
    · show 0 ≤ -1 * ρ 1 + (1 * ρ 2 + 0)
      (try rw [h0]); omega
  · show sI M
    exact hI
-- nmTieR100_1
def xr_516 : qRu := (4, [[(-2, 0), (1, 3)]], [(4, 100, [(2, 0)]), (4, 105, [(1, 3)]), (100, 7, [(1, 1)]), (3, 71, [(1, 2)])], [], [], [[(1, 1), (-1, 2)], [(-1, 1), (1, 2)]])
theorem xo_516 : qRok xr_516 := by
  intro ρ M h0 hf hm hI
  have f0 := hf [(-2, 0), (1, 3)] (by decide)
  simp only [qD, h0] at f0
  have m0 : M 4 100 = 2 * ρ 0 + 0 := hm (4, 100, [(2, 0)]) (by decide)
  have m1 : M 4 105 = 1 * ρ 3 + 0 := hm (4, 105, [(1, 3)]) (by decide)
  have m2 : M 100 7 = 1 * ρ 1 + 0 := hm (100, 7, [(1, 1)]) (by decide)
  have m3 : M 3 71 = 1 * ρ 2 + 0 := hm (3, 71, [(1, 2)]) (by decide)
  simp only [h0] at m0
  obtain ⟨a0, a1, a2⟩ := gx_xS5 hI (by omega)
  have t := a1 1 (by omega) (by omega)
  have t : M 100 7 = M 3 71 := t
  refine ⟨ρ, fun _ _ => rfl, fun f h => ?_, ?_⟩
  · have h : f ∈ ([[(1, 1), (-1, 2)], [(-1, 1), (1, 2)]] : List qF) := h
    simp only [List.mem_cons, List.not_mem_nil, or_false] at h
    rcases h with rfl | rfl
    · show 0 ≤ 1 * ρ 1 + (-1 * ρ 2 + 0)
      (try rw [h0]); omega
    · show 0 ≤ -1 * ρ 1 + (1 * ρ 2 + 0)
      (try rw [h0]); omega
  · show sI M
    exact hI
-- nmTieR100_2
def xr_517 : qRu := (4, [[(-3, 0), (1, 3)]], [(4, 100, [(2, 0)]), (4, 105, [(1, 3)]), (100, 8, [(1, 1)]), (3, 72, [(1, 2)])], [], [], [[(1, 1), (-1, 2)], [(-1, 1), (1, 2)]])
theorem xo_517 : qRok xr_517 := by
  intro ρ M h0 hf hm hI
  have f0 := hf [(-3, 0), (1, 3)] (by decide)
  simp only [qD, h0] at f0
  have m0 : M 4 100 = 2 * ρ 0 + 0 := hm (4, 100, [(2, 0)]) (by decide)
  have m1 : M 4 105 = 1 * ρ 3 + 0 := hm (4, 105, [(1, 3)]) (by decide)
  have m2 : M 100 8 = 1 * ρ 1 + 0 := hm (100, 8, [(1, 1)]) (by decide)
  have m3 : M 3 72 = 1 * ρ 2 + 0 := hm (3, 72, [(1, 2)]) (by decide)
  simp only [h0] at m0
  obtain ⟨a0, a1, a2⟩ := gx_xS5 hI (by omega)
  have t := a1 2 (by omega) (by omega)
  have t : M 100 8 = M 3 72 := t
  refine ⟨ρ, fun _ _ => rfl, fun f h => ?_, ?_⟩
  · have h : f ∈ ([[(1, 1), (-1, 2)], [(-1, 1), (1, 2)]] : List qF) := h
    simp only [List.mem_cons, List.not_mem_nil, or_false] at h
    rcases h with rfl | rfl
    · show 0 ≤ 1 * ρ 1 + (-1 * ρ 2 + 0)
      (try rw [h0]); omega
    · show 0 ≤ -1 * ρ 1 + (1 * ρ 2 + 0)
      (try rw [h0]); omega
  · show sI M
    exact hI
-- nmTieR100_3
def xr_518 : qRu := (4, [[(-4, 0), (1, 3)]], [(4, 100, [(2, 0)]), (4, 105, [(1, 3)]), (100, 9, [(1, 1)]), (3, 73, [(1, 2)])], [], [], [[(1, 1), (-1, 2)], [(-1, 1), (1, 2)]])
theorem xo_518 : qRok xr_518 := by
  intro ρ M h0 hf hm hI
  have f0 := hf [(-4, 0), (1, 3)] (by decide)
  simp only [qD, h0] at f0
  have m0 : M 4 100 = 2 * ρ 0 + 0 := hm (4, 100, [(2, 0)]) (by decide)
  have m1 : M 4 105 = 1 * ρ 3 + 0 := hm (4, 105, [(1, 3)]) (by decide)
  have m2 : M 100 9 = 1 * ρ 1 + 0 := hm (100, 9, [(1, 1)]) (by decide)
  have m3 : M 3 73 = 1 * ρ 2 + 0 := hm (3, 73, [(1, 2)]) (by decide)
  simp only [h0] at m0
  obtain ⟨a0, a1, a2⟩ := gx_xS5 hI (by omega)
  have t := a1 3 (by omega) (by omega)
  have t : M 100 9 = M 3 73 := t
  refine ⟨ρ, fun _ _ => rfl, fun f h => ?_, ?_⟩
  · have h : f ∈ ([[(1, 1), (-1, 2)], [(-1, 1), (1, 2)]] : List qF) := h
    simp only [List.mem_cons, List.not_mem_nil, or_false] at h
    rcases h with rfl | rfl
    · show 0 ≤ 1 * ρ 1 + (-1 * ρ 2 + 0)
      (try rw [h0]); omega
    · show 0 ≤ -1 * ρ 1 + (1 * ρ 2 + 0)
      (try rw [h0]); omega
  · show sI M
    exact hI
-- nmTieR100_4
def xr_519 : qRu := (4, [[(-5, 0), (1, 3)]], [(4, 100, [(2, 0)]), (4, 105, [(1, 3)]), (100, 10, [(1, 1)]), (3, 74, [(1, 2)])], [], [], [[(1, 1), (-1, 2)], [(-1, 1), (1, 2)]])
theorem xo_519 : qRok xr_519 := by
  intro ρ M h0 hf hm hI
  have f0 := hf [(-5, 0), (1, 3)] (by decide)
  simp only [qD, h0] at f0
  have m0 : M 4 100 = 2 * ρ 0 + 0 := hm (4, 100, [(2, 0)]) (by decide)
  have m1 : M 4 105 = 1 * ρ 3 + 0 := hm (4, 105, [(1, 3)]) (by decide)
  have m2 : M 100 10 = 1 * ρ 1 + 0 := hm (100, 10, [(1, 1)]) (by decide)
  have m3 : M 3 74 = 1 * ρ 2 + 0 := hm (3, 74, [(1, 2)]) (by decide)
  simp only [h0] at m0
  obtain ⟨a0, a1, a2⟩ := gx_xS5 hI (by omega)
  have t := a1 4 (by omega) (by omega)
  have t : M 100 10 = M 3 74 := t
  refine ⟨ρ, fun _ _ => rfl, fun f h => ?_, ?_⟩
  · have h : f ∈ ([[(1, 1), (-1, 2)], [(-1, 1), (1, 2)]] : List qF) := h
    simp only [List.mem_cons, List.not_mem_nil, or_false] at h
    rcases h with rfl | rfl
    · show 0 ≤ 1 * ρ 1 + (-1 * ρ 2 + 0)
      (try rw [h0]); omega
    · show 0 ≤ -1 * ρ 1 + (1 * ρ 2 + 0)
      (try rw [h0]); omega
  · show sI M
    exact hI
-- nmTieR100_5
def xr_520 : qRu := (4, [[(-6, 0), (1, 3)]], [(4, 100, [(2, 0)]), (4, 105, [(1, 3)]), (100, 11, [(1, 1)]), (3, 75, [(1, 2)])], [], [], [[(1, 1), (-1, 2)], [(-1, 1), (1, 2)]])
theorem xo_520 : qRok xr_520 := by
  intro ρ M h0 hf hm hI
  have f0 := hf [(-6, 0), (1, 3)] (by decide)
  simp only [qD, h0] at f0
  have m0 : M 4 100 = 2 * ρ 0 + 0 := hm (4, 100, [(2, 0)]) (by decide)
  have m1 : M 4 105 = 1 * ρ 3 + 0 := hm (4, 105, [(1, 3)]) (by decide)
  have m2 : M 100 11 = 1 * ρ 1 + 0 := hm (100, 11, [(1, 1)]) (by decide)
  have m3 : M 3 75 = 1 * ρ 2 + 0 := hm (3, 75, [(1, 2)]) (by decide)
  simp only [h0] at m0
  obtain ⟨a0, a1, a2⟩ := gx_xS5 hI (by omega)
  have t := a1 5 (by omega) (by omega)
  have t : M 100 11 = M 3 75 := t
  refine ⟨ρ, fun _ _ => rfl, fun f h => ?_, ?_⟩
  · have h : f ∈ ([[(1, 1), (-1, 2)], [(-1, 1), (1, 2)]] : List qF) := h
    simp only [List.mem_cons, List.not_mem_nil, or_false] at h
    rcases h with rfl | rfl
    · show 0 ≤ 1 * ρ 1 + (-1 * ρ 2 + 0)
      (try rw [h0]); omega
    · show 0 ≤ -1 * ρ 1 + (1 * ρ 2 + 0)
      (try rw [h0]); omega
  · show sI M
    exact hI
-- nmTieR104_0
def xr_521 : qRu := (4, [[(-1, 0), (1, 3)]], [(4, 100, [(2, 0)]), (4, 106, [(1, 3)]), (104, 3, [(1, 1)]), (3, 80, [(1, 2)])], [], [], [[(1, 1), (-1, 2)], [(-1, 1), (1, 2)]])
theorem xo_521 : qRok xr_521 := by
  intro ρ M h0 hf hm hI
  have f0 := hf [(-1, 0), (1, 3)] (by decide)
  simp only [qD, h0] at f0
  have m0 : M 4 100 = 2 * ρ 0 + 0 := hm (4, 100, [(2, 0)]) (by decide)
  have m1 : M 4 106 = 1 * ρ 3 + 0 := hm (4, 106, [(1, 3)]) (by decide)
  have m2 : M 104 3 = 1 * ρ 1 + 0 := hm (104, 3, [(1, 1)]) (by decide)
  have m3 : M 3 80 = 1 * ρ 2 + 0 := hm (3, 80, [(1, 2)]) (by decide)
  simp only [h0] at m0
  obtain ⟨a0, a1, a2⟩ := gx_xS5 hI (by omega)
  have t := a2 0 (by omega) (by omega)
  have t : M 104 3 = M 3 80 := t
  refine ⟨ρ, fun _ _ => rfl, fun f h => ?_, ?_⟩
  · have h : f ∈ ([[(1, 1), (-1, 2)], [(-1, 1), (1, 2)]] : List qF) := h
    simp only [List.mem_cons, List.not_mem_nil, or_false] at h
    rcases h with rfl | rfl
    · show 0 ≤ 1 * ρ 1 + (-1 * ρ 2 + 0)
      (try rw [h0]); omega
    · show 0 ≤ -1 * ρ 1 + (1 * ρ 2 + 0)
      (try rw [h0]); omega
  · show sI M
    exact hI
-- nmTieR104_1
def xr_522 : qRu := (4, [[(-2, 0), (1, 3)]], [(4, 100, [(2, 0)]), (4, 106, [(1, 3)]), (104, 4, [(1, 1)]), (3, 81, [(1, 2)])], [], [], [[(1, 1), (-1, 2)], [(-1, 1), (1, 2)]])
theorem xo_522 : qRok xr_522 := by
  intro ρ M h0 hf hm hI
  have f0 := hf [(-2, 0), (1, 3)] (by decide)
  simp only [qD, h0] at f0
  have m0 : M 4 100 = 2 * ρ 0 + 0 := hm (4, 100, [(2, 0)]) (by decide)
  have m1 : M 4 106 = 1 * ρ 3 + 0 := hm (4, 106, [(1, 3)]) (by decide)
  have m2 : M 104 4 = 1 * ρ 1 + 0 := hm (104, 4, [(1, 1)]) (by decide)
  have m3 : M 3 81 = 1 * ρ 2 + 0 := hm (3, 81, [(1, 2)]) (by decide)
  simp only [h0] at m0
  obtain ⟨a0, a1, a2⟩ := gx_xS5 hI (by omega)
  have t := a2 1 (by omega) (by omega)
  have t : M 104 4 = M 3 81 := t
  refine ⟨ρ, fun _ _ => rfl, fun f h => ?_, ?_⟩
  · have h : f ∈ ([[(1, 1), (-1, 2)], [(-1, 1), (1, 2)]] : List qF) := h
    simp only [List.mem_cons, List.not_mem_nil, or_false] at h
    rcases h with rfl | rfl
    · show 0 ≤ 1 * ρ 1 + (-1 * ρ 2 + 0)
      (try rw [h0]); omega
    · show 0 ≤ -1 * ρ 1 + (1 * ρ 2 + 0)
      (try rw [h0]); omega
  · show sI M
    exact hI
-- nmTieR104_2
def xr_523 : qRu := (4, [[(-3, 0), (1, 3)]], [(4, 100, [(2, 0)]), (4, 106, [(1, 3)]), (104, 5, [(1, 1)]), (3, 82, [(1, 2)])], [], [], [[(1, 1), (-1, 2)], [(-1, 1), (1, 2)]])
theorem xo_523 : qRok xr_523 := by
  intro ρ M h0 hf hm hI
  have f0 := hf [(-3, 0), (1, 3)] (by decide)
  simp only [qD, h0] at f0
  have m0 : M 4 100 = 2 * ρ 0 + 0 := hm (4, 100, [(2, 0)]) (by decide)
  have m1 : M 4 106 = 1 * ρ 3 + 0 := hm (4, 106, [(1, 3)]) (by decide)
  have m2 : M 104 5 = 1 * ρ 1 + 0 := hm (104, 5, [(1, 1)]) (by decide)
  have m3 : M 3 82 = 1 * ρ 2 + 0 := hm (3, 82, [(1, 2)]) (by decide)
  simp only [h0] at m0
  obtain ⟨a0, a1, a2⟩ := gx_xS5 hI (by omega)
  have t := a2 2 (by omega) (by omega)
  have t : M 104 5 = M 3 82 := t
  refine ⟨ρ, fun _ _ => rfl, fun f h => ?_, ?_⟩
  · have h : f ∈ ([[(1, 1), (-1, 2)], [(-1, 1), (1, 2)]] : List qF) := h
    simp only [List.mem_cons, List.not_mem_nil, or_false] at h
    rcases h with rfl | rfl
    · show 0 ≤ 1 * ρ 1 + (-1 * ρ 2 + 0)
      (try rw [h0]); omega
    · show 0 ≤ -1 * ρ 1 + (1 * ρ 2 + 0)
      (try rw [h0]); omega
  · show sI M
    exact hI
-- g290_0
def xr_524 : qRu := (1, [], [], [], [(4, 290, [])], [])
theorem xo_524 : qRok xr_524 := by
  intro ρ M h0 hf hm hI
  refine ⟨ρ, fun _ _ => rfl, fun f h => ?_, ?_⟩
  · exact nomatch h
  · show sI (sU M 4 290 (0))
    obtain ⟨W, hW⟩ : ∃ W, W = (sU M 4 290 (0)) := ⟨_, rfl⟩
    rw [← hW]
    have base : sI0 W := by
      rw [hW]
      exact (si_u0 hI.1 (fun r hr => by cases hr))
    have k2 : XI2 W := by
      rw [hW]
      exact (xi2_u rfl hI.2.1)
    have k3 : XI3 W := by
      rw [hW]
      exact (xi3_u rfl hI.2.2.1)
    have kXA : XA W := by
      rw [hW]
      exact (uXA rfl hI.2.2.2.1)
    have k_xN1 : xN1 W := by
      rw [hW]
      exact (uxN1 rfl hI.2.2.2.2.1)
    have k_xN2 : xN2 W := by
      rw [hW]
      exact (uxN2 rfl hI.2.2.2.2.2.1)
    have k_xN3 : xN3 W := by
      rw [hW]
      exact (uxN3 rfl hI.2.2.2.2.2.2.1)
    have k_xN4 : xN4 W := by
      rw [hW]
      exact (uxN4 rfl hI.2.2.2.2.2.2.2.1)
    have k_xN5 : xN5 W := by
      rw [hW]
      exact (uxN5 rfl hI.2.2.2.2.2.2.2.2.1)
    have k_xN6 : xN6 W := by
      rw [hW]
      exact (uxN6 rfl hI.2.2.2.2.2.2.2.2.2.1)
    have k_xH1 : xH1 W := by
      rw [hW]
      exact (uxH1 rfl hI.2.2.2.2.2.2.2.2.2.2.1)
    have k_xK1 : xK1 W := by
      rw [hW]
      exact (uxK1 rfl hI.2.2.2.2.2.2.2.2.2.2.2.1)
    have k_xC1 : xC1 W := by
      rw [hW]
      exact (uxC1 rfl hI.2.2.2.2.2.2.2.2.2.2.2.2.1)
    have k_xRW : xRW W := by
      rw [hW]
      exact (uxRW rfl hI.2.2.2.2.2.2.2.2.2.2.2.2.2.1)
    have k_xWT : xWT W := by
      rw [hW]
      exact (uxWT rfl hI.2.2.2.2.2.2.2.2.2.2.2.2.2.2.1)
    have k_xCU : xCU W := by
      rw [hW]
      exact (uxCU rfl hI.2.2.2.2.2.2.2.2.2.2.2.2.2.2.2.1)
    have k_xG2 : xG2 W := by
      rw [hW]
      exact (uxG2 rfl hI.2.2.2.2.2.2.2.2.2.2.2.2.2.2.2.2.1)
    have k_xG3 : xG3 W := by
      rw [hW]
      exact (uxG3 rfl hI.2.2.2.2.2.2.2.2.2.2.2.2.2.2.2.2.2.1)
    have k_xG4 : xG4 W := by
      rw [hW]
      exact (uxG4 rfl hI.2.2.2.2.2.2.2.2.2.2.2.2.2.2.2.2.2.2.1)
    have k_xG5 : xG5 W := by
      rw [hW]
      exact (uxG5 rfl hI.2.2.2.2.2.2.2.2.2.2.2.2.2.2.2.2.2.2.2.1)
    have k_xG6 : xG6 W := by
      rw [hW]
      exact (uxG6 rfl hI.2.2.2.2.2.2.2.2.2.2.2.2.2.2.2.2.2.2.2.2.1)
    have k_xS1 : xS1 W := by
      rw [hW]
      exact (uxS1 rfl hI.2.2.2.2.2.2.2.2.2.2.2.2.2.2.2.2.2.2.2.2.2.1)
    have k_xS2 : xS2 W := by
      rw [hW]
      exact (uxS2 rfl hI.2.2.2.2.2.2.2.2.2.2.2.2.2.2.2.2.2.2.2.2.2.2.1)
    have k_xS3 : xS3 W := by
      rw [hW]
      exact (uxS3 rfl hI.2.2.2.2.2.2.2.2.2.2.2.2.2.2.2.2.2.2.2.2.2.2.2.1)
    have k_xS4 : xS4 W := by
      rw [hW]
      exact (uxS4 rfl hI.2.2.2.2.2.2.2.2.2.2.2.2.2.2.2.2.2.2.2.2.2.2.2.2.1)
    have k_xS5 : xS5 W := by
      rw [hW]
      exact (uxS5 rfl hI.2.2.2.2.2.2.2.2.2.2.2.2.2.2.2.2.2.2.2.2.2.2.2.2.2.1)
    have k_xS6 : xS6 W := by
      rw [hW]
      exact (uxS6 rfl hI.2.2.2.2.2.2.2.2.2.2.2.2.2.2.2.2.2.2.2.2.2.2.2.2.2.2.1)
    have k_xS7 : xS7 W := by
      rw [hW]
      exact (uxS7 rfl hI.2.2.2.2.2.2.2.2.2.2.2.2.2.2.2.2.2.2.2.2.2.2.2.2.2.2.2.1)
    have k_xS8 : xS8 W := by
      rw [hW]
      exact (uxS8 rfl hI.2.2.2.2.2.2.2.2.2.2.2.2.2.2.2.2.2.2.2.2.2.2.2.2.2.2.2.2.1)
    have k_xS9 : xS9 W := by
      rw [hW]
      exact (uxS9 rfl hI.2.2.2.2.2.2.2.2.2.2.2.2.2.2.2.2.2.2.2.2.2.2.2.2.2.2.2.2.2.1)
    have k_xSA : xSA W := by
      rw [hW]
      exact (uxSA rfl hI.2.2.2.2.2.2.2.2.2.2.2.2.2.2.2.2.2.2.2.2.2.2.2.2.2.2.2.2.2.2.1)
    have k_xSG : xSG W := by
      rw [hW]
      exact (uxSG rfl hI.2.2.2.2.2.2.2.2.2.2.2.2.2.2.2.2.2.2.2.2.2.2.2.2.2.2.2.2.2.2.2.1)
    have k_xSF : xSF W := by
      rw [hW]
      exact (uxSF rfl hI.2.2.2.2.2.2.2.2.2.2.2.2.2.2.2.2.2.2.2.2.2.2.2.2.2.2.2.2.2.2.2.2.1)
    have k_xSB : xSB W := by
      rw [hW]
      exact (uxSB rfl hI.2.2.2.2.2.2.2.2.2.2.2.2.2.2.2.2.2.2.2.2.2.2.2.2.2.2.2.2.2.2.2.2.2.1)
    have k_xSC : xSC W := by
      rw [hW]
      exact (uxSC rfl hI.2.2.2.2.2.2.2.2.2.2.2.2.2.2.2.2.2.2.2.2.2.2.2.2.2.2.2.2.2.2.2.2.2.2.1)
    have k_xSD : xSD W := by
      rw [hW]
      exact (uxSD rfl hI.2.2.2.2.2.2.2.2.2.2.2.2.2.2.2.2.2.2.2.2.2.2.2.2.2.2.2.2.2.2.2.2.2.2.2.1)
    have k_xSE : xSE W := by
      rw [hW]
      exact (uxSE rfl hI.2.2.2.2.2.2.2.2.2.2.2.2.2.2.2.2.2.2.2.2.2.2.2.2.2.2.2.2.2.2.2.2.2.2.2.2.1)
    have k_xSW : xSW W := by
      rw [hW]
      exact (uxSW rfl hI.2.2.2.2.2.2.2.2.2.2.2.2.2.2.2.2.2.2.2.2.2.2.2.2.2.2.2.2.2.2.2.2.2.2.2.2.2.1)
    have k_xST : xST W := by
      rw [hW]
      exact (uxST rfl hI.2.2.2.2.2.2.2.2.2.2.2.2.2.2.2.2.2.2.2.2.2.2.2.2.2.2.2.2.2.2.2.2.2.2.2.2.2.2.1)
    have k_xSP : xSP W := by
      rw [hW]
      exact (uxSP rfl hI.2.2.2.2.2.2.2.2.2.2.2.2.2.2.2.2.2.2.2.2.2.2.2.2.2.2.2.2.2.2.2.2.2.2.2.2.2.2.2.1)
    have k_xSL : xSL W := by
      rw [hW]
      exact (uxSL rfl hI.2.2.2.2.2.2.2.2.2.2.2.2.2.2.2.2.2.2.2.2.2.2.2.2.2.2.2.2.2.2.2.2.2.2.2.2.2.2.2.2.1)
    have k_xSM : xSM W := by
      rw [hW]
      exact (uxSM rfl hI.2.2.2.2.2.2.2.2.2.2.2.2.2.2.2.2.2.2.2.2.2.2.2.2.2.2.2.2.2.2.2.2.2.2.2.2.2.2.2.2.2.1)
    have k_xSI : xSI W := by
      rw [hW]
      exact (uxSI rfl hI.2.2.2.2.2.2.2.2.2.2.2.2.2.2.2.2.2.2.2.2.2.2.2.2.2.2.2.2.2.2.2.2.2.2.2.2.2.2.2.2.2.2.1)
    have k_xD3 : xD3 W := by
      rw [hW]
      exact (uxD3 rfl hI.2.2.2.2.2.2.2.2.2.2.2.2.2.2.2.2.2.2.2.2.2.2.2.2.2.2.2.2.2.2.2.2.2.2.2.2.2.2.2.2.2.2.2.1)
    have k_xDV : xDV W := by
      rw [hW]
      exact (uxDV rfl hI.2.2.2.2.2.2.2.2.2.2.2.2.2.2.2.2.2.2.2.2.2.2.2.2.2.2.2.2.2.2.2.2.2.2.2.2.2.2.2.2.2.2.2.2.1)
    have k_xDP : xDP W := by
      rw [hW]
      exact (uxDP rfl hI.2.2.2.2.2.2.2.2.2.2.2.2.2.2.2.2.2.2.2.2.2.2.2.2.2.2.2.2.2.2.2.2.2.2.2.2.2.2.2.2.2.2.2.2.2.1)
    have k_xDE : xDE W := by
      rw [hW]
      exact (uxDE rfl hI.2.2.2.2.2.2.2.2.2.2.2.2.2.2.2.2.2.2.2.2.2.2.2.2.2.2.2.2.2.2.2.2.2.2.2.2.2.2.2.2.2.2.2.2.2.2.1)
    have k_xQ5 : xQ5 W := by
      rw [hW]
      exact (uxQ5 rfl hI.2.2.2.2.2.2.2.2.2.2.2.2.2.2.2.2.2.2.2.2.2.2.2.2.2.2.2.2.2.2.2.2.2.2.2.2.2.2.2.2.2.2.2.2.2.2.2.1)
    have k_xQL : xQL W := by
      rw [hW]
      exact (uxQL rfl hI.2.2.2.2.2.2.2.2.2.2.2.2.2.2.2.2.2.2.2.2.2.2.2.2.2.2.2.2.2.2.2.2.2.2.2.2.2.2.2.2.2.2.2.2.2.2.2.2.1)
    have k_xQW : xQW W := by
      rw [hW]
      exact (uxQW rfl hI.2.2.2.2.2.2.2.2.2.2.2.2.2.2.2.2.2.2.2.2.2.2.2.2.2.2.2.2.2.2.2.2.2.2.2.2.2.2.2.2.2.2.2.2.2.2.2.2.2.1)
    have k_xQM : xQM W := by
      rw [hW]
      exact (uxQM rfl hI.2.2.2.2.2.2.2.2.2.2.2.2.2.2.2.2.2.2.2.2.2.2.2.2.2.2.2.2.2.2.2.2.2.2.2.2.2.2.2.2.2.2.2.2.2.2.2.2.2.2.1)
    have k_xQH : xQH W := by
      rw [hW]
      exact (uxQH rfl hI.2.2.2.2.2.2.2.2.2.2.2.2.2.2.2.2.2.2.2.2.2.2.2.2.2.2.2.2.2.2.2.2.2.2.2.2.2.2.2.2.2.2.2.2.2.2.2.2.2.2.2)
    have k_XC : XC W := ⟨k_xS1, k_xS2, k_xS3, k_xS4, k_xS5, k_xS6, k_xS7, k_xS8, k_xS9, k_xSA, k_xSG, k_xSF, k_xSB, k_xSC, k_xSD, k_xSE, k_xSW, k_xST, k_xSP, k_xSL, k_xSM, k_xSI, k_xD3, k_xDV, k_xDP, k_xDE, k_xQ5, k_xQL, k_xQW, k_xQM, k_xQH⟩
    have kXB : XB W := ⟨k_xN1, k_xN2, k_xN3, k_xN4, k_xN5, k_xN6, k_xH1, k_xK1, k_xC1, k_xRW, k_xWT, k_xCU, k_xG2, k_xG3, k_xG4, k_xG5, k_xG6, k_XC⟩
    exact ⟨base, k2, k3, kXA, kXB⟩
-- g290_1
def xr_525 : qRu := (1, [], [], [], [(4, 290, [(1, 0)])], [])
theorem xo_525 : qRok xr_525 := by
  intro ρ M h0 hf hm hI
  refine ⟨ρ, fun _ _ => rfl, fun f h => ?_, ?_⟩
  · exact nomatch h
  · show sI (sU M 4 290 (1 * ρ 0 + 0))
    obtain ⟨W, hW⟩ : ∃ W, W = (sU M 4 290 (1 * ρ 0 + 0)) := ⟨_, rfl⟩
    rw [← hW]
    have base : sI0 W := by
      rw [hW]
      exact (si_u0 hI.1 (fun r hr => by cases hr))
    have k2 : XI2 W := by
      rw [hW]
      exact (xi2_u rfl hI.2.1)
    have k3 : XI3 W := by
      rw [hW]
      exact (xi3_u rfl hI.2.2.1)
    have kXA : XA W := by
      rw [hW]
      exact (uXA rfl hI.2.2.2.1)
    have k_xN1 : xN1 W := by
      rw [hW]
      exact (uxN1 rfl hI.2.2.2.2.1)
    have k_xN2 : xN2 W := by
      rw [hW]
      exact (uxN2 rfl hI.2.2.2.2.2.1)
    have k_xN3 : xN3 W := by
      rw [hW]
      exact (uxN3 rfl hI.2.2.2.2.2.2.1)
    have k_xN4 : xN4 W := by
      rw [hW]
      exact (uxN4 rfl hI.2.2.2.2.2.2.2.1)
    have k_xN5 : xN5 W := by
      rw [hW]
      exact (uxN5 rfl hI.2.2.2.2.2.2.2.2.1)
    have k_xN6 : xN6 W := by
      rw [hW]
      exact (uxN6 rfl hI.2.2.2.2.2.2.2.2.2.1)
    have k_xH1 : xH1 W := by
      rw [hW]
      exact (uxH1 rfl hI.2.2.2.2.2.2.2.2.2.2.1)
    have k_xK1 : xK1 W := by
      rw [hW]
      exact (uxK1 rfl hI.2.2.2.2.2.2.2.2.2.2.2.1)
    have k_xC1 : xC1 W := by
      rw [hW]
      exact (uxC1 rfl hI.2.2.2.2.2.2.2.2.2.2.2.2.1)
    have k_xRW : xRW W := by
      rw [hW]
      exact (uxRW rfl hI.2.2.2.2.2.2.2.2.2.2.2.2.2.1)
    have k_xWT : xWT W := by
      rw [hW]
      exact (uxWT rfl hI.2.2.2.2.2.2.2.2.2.2.2.2.2.2.1)
    have k_xCU : xCU W := by
      rw [hW]
      exact (uxCU rfl hI.2.2.2.2.2.2.2.2.2.2.2.2.2.2.2.1)
    have k_xG2 : xG2 W := by
      rw [hW]
      exact (uxG2 rfl hI.2.2.2.2.2.2.2.2.2.2.2.2.2.2.2.2.1)
    have k_xG3 : xG3 W := by
      rw [hW]
      exact (uxG3 rfl hI.2.2.2.2.2.2.2.2.2.2.2.2.2.2.2.2.2.1)
    have k_xG4 : xG4 W := by
      rw [hW]
      exact (uxG4 rfl hI.2.2.2.2.2.2.2.2.2.2.2.2.2.2.2.2.2.2.1)
    have k_xG5 : xG5 W := by
      rw [hW]
      exact (uxG5 rfl hI.2.2.2.2.2.2.2.2.2.2.2.2.2.2.2.2.2.2.2.1)
    have k_xG6 : xG6 W := by
      rw [hW]
      exact (uxG6 rfl hI.2.2.2.2.2.2.2.2.2.2.2.2.2.2.2.2.2.2.2.2.1)
    have k_xS1 : xS1 W := by
      rw [hW]
      exact (uxS1 rfl hI.2.2.2.2.2.2.2.2.2.2.2.2.2.2.2.2.2.2.2.2.2.1)
    have k_xS2 : xS2 W := by
      rw [hW]
      exact (uxS2 rfl hI.2.2.2.2.2.2.2.2.2.2.2.2.2.2.2.2.2.2.2.2.2.2.1)
    have k_xS3 : xS3 W := by
      rw [hW]
      exact (uxS3 rfl hI.2.2.2.2.2.2.2.2.2.2.2.2.2.2.2.2.2.2.2.2.2.2.2.1)
    have k_xS4 : xS4 W := by
      rw [hW]
      exact (uxS4 rfl hI.2.2.2.2.2.2.2.2.2.2.2.2.2.2.2.2.2.2.2.2.2.2.2.2.1)
    have k_xS5 : xS5 W := by
      rw [hW]
      exact (uxS5 rfl hI.2.2.2.2.2.2.2.2.2.2.2.2.2.2.2.2.2.2.2.2.2.2.2.2.2.1)
    have k_xS6 : xS6 W := by
      rw [hW]
      exact (uxS6 rfl hI.2.2.2.2.2.2.2.2.2.2.2.2.2.2.2.2.2.2.2.2.2.2.2.2.2.2.1)
    have k_xS7 : xS7 W := by
      rw [hW]
      exact (uxS7 rfl hI.2.2.2.2.2.2.2.2.2.2.2.2.2.2.2.2.2.2.2.2.2.2.2.2.2.2.2.1)
    have k_xS8 : xS8 W := by
      rw [hW]
      exact (uxS8 rfl hI.2.2.2.2.2.2.2.2.2.2.2.2.2.2.2.2.2.2.2.2.2.2.2.2.2.2.2.2.1)
    have k_xS9 : xS9 W := by
      rw [hW]
      exact (uxS9 rfl hI.2.2.2.2.2.2.2.2.2.2.2.2.2.2.2.2.2.2.2.2.2.2.2.2.2.2.2.2.2.1)
    have k_xSA : xSA W := by
      rw [hW]
      exact (uxSA rfl hI.2.2.2.2.2.2.2.2.2.2.2.2.2.2.2.2.2.2.2.2.2.2.2.2.2.2.2.2.2.2.1)
    have k_xSG : xSG W := by
      rw [hW]
      exact (uxSG rfl hI.2.2.2.2.2.2.2.2.2.2.2.2.2.2.2.2.2.2.2.2.2.2.2.2.2.2.2.2.2.2.2.1)
    have k_xSF : xSF W := by
      rw [hW]
      exact (uxSF rfl hI.2.2.2.2.2.2.2.2.2.2.2.2.2.2.2.2.2.2.2.2.2.2.2.2.2.2.2.2.2.2.2.2.1)
    have k_xSB : xSB W := by
      rw [hW]
      exact (uxSB rfl hI.2.2.2.2.2.2.2.2.2.2.2.2.2.2.2.2.2.2.2.2.2.2.2.2.2.2.2.2.2.2.2.2.2.1)
    have k_xSC : xSC W := by
      rw [hW]
      exact (uxSC rfl hI.2.2.2.2.2.2.2.2.2.2.2.2.2.2.2.2.2.2.2.2.2.2.2.2.2.2.2.2.2.2.2.2.2.2.1)
    have k_xSD : xSD W := by
      rw [hW]
      exact (uxSD rfl hI.2.2.2.2.2.2.2.2.2.2.2.2.2.2.2.2.2.2.2.2.2.2.2.2.2.2.2.2.2.2.2.2.2.2.2.1)
    have k_xSE : xSE W := by
      rw [hW]
      exact (uxSE rfl hI.2.2.2.2.2.2.2.2.2.2.2.2.2.2.2.2.2.2.2.2.2.2.2.2.2.2.2.2.2.2.2.2.2.2.2.2.1)
    have k_xSW : xSW W := by
      rw [hW]
      exact (uxSW rfl hI.2.2.2.2.2.2.2.2.2.2.2.2.2.2.2.2.2.2.2.2.2.2.2.2.2.2.2.2.2.2.2.2.2.2.2.2.2.1)
    have k_xST : xST W := by
      rw [hW]
      exact (uxST rfl hI.2.2.2.2.2.2.2.2.2.2.2.2.2.2.2.2.2.2.2.2.2.2.2.2.2.2.2.2.2.2.2.2.2.2.2.2.2.2.1)
    have k_xSP : xSP W := by
      rw [hW]
      exact (uxSP rfl hI.2.2.2.2.2.2.2.2.2.2.2.2.2.2.2.2.2.2.2.2.2.2.2.2.2.2.2.2.2.2.2.2.2.2.2.2.2.2.2.1)
    have k_xSL : xSL W := by
      rw [hW]
      exact (uxSL rfl hI.2.2.2.2.2.2.2.2.2.2.2.2.2.2.2.2.2.2.2.2.2.2.2.2.2.2.2.2.2.2.2.2.2.2.2.2.2.2.2.2.1)
    have k_xSM : xSM W := by
      rw [hW]
      exact (uxSM rfl hI.2.2.2.2.2.2.2.2.2.2.2.2.2.2.2.2.2.2.2.2.2.2.2.2.2.2.2.2.2.2.2.2.2.2.2.2.2.2.2.2.2.1)
    have k_xSI : xSI W := by
      rw [hW]
      exact (uxSI rfl hI.2.2.2.2.2.2.2.2.2.2.2.2.2.2.2.2.2.2.2.2.2.2.2.2.2.2.2.2.2.2.2.2.2.2.2.2.2.2.2.2.2.2.1)
    have k_xD3 : xD3 W := by
      rw [hW]
      exact (uxD3 rfl hI.2.2.2.2.2.2.2.2.2.2.2.2.2.2.2.2.2.2.2.2.2.2.2.2.2.2.2.2.2.2.2.2.2.2.2.2.2.2.2.2.2.2.2.1)
    have k_xDV : xDV W := by
      rw [hW]
      exact (uxDV rfl hI.2.2.2.2.2.2.2.2.2.2.2.2.2.2.2.2.2.2.2.2.2.2.2.2.2.2.2.2.2.2.2.2.2.2.2.2.2.2.2.2.2.2.2.2.1)
    have k_xDP : xDP W := by
      rw [hW]
      exact (uxDP rfl hI.2.2.2.2.2.2.2.2.2.2.2.2.2.2.2.2.2.2.2.2.2.2.2.2.2.2.2.2.2.2.2.2.2.2.2.2.2.2.2.2.2.2.2.2.2.1)
    have k_xDE : xDE W := by
      rw [hW]
      exact (uxDE rfl hI.2.2.2.2.2.2.2.2.2.2.2.2.2.2.2.2.2.2.2.2.2.2.2.2.2.2.2.2.2.2.2.2.2.2.2.2.2.2.2.2.2.2.2.2.2.2.1)
    have k_xQ5 : xQ5 W := by
      rw [hW]
      exact (uxQ5 rfl hI.2.2.2.2.2.2.2.2.2.2.2.2.2.2.2.2.2.2.2.2.2.2.2.2.2.2.2.2.2.2.2.2.2.2.2.2.2.2.2.2.2.2.2.2.2.2.2.1)
    have k_xQL : xQL W := by
      rw [hW]
      exact (uxQL rfl hI.2.2.2.2.2.2.2.2.2.2.2.2.2.2.2.2.2.2.2.2.2.2.2.2.2.2.2.2.2.2.2.2.2.2.2.2.2.2.2.2.2.2.2.2.2.2.2.2.1)
    have k_xQW : xQW W := by
      rw [hW]
      exact (uxQW rfl hI.2.2.2.2.2.2.2.2.2.2.2.2.2.2.2.2.2.2.2.2.2.2.2.2.2.2.2.2.2.2.2.2.2.2.2.2.2.2.2.2.2.2.2.2.2.2.2.2.2.1)
    have k_xQM : xQM W := by
      rw [hW]
      exact (uxQM rfl hI.2.2.2.2.2.2.2.2.2.2.2.2.2.2.2.2.2.2.2.2.2.2.2.2.2.2.2.2.2.2.2.2.2.2.2.2.2.2.2.2.2.2.2.2.2.2.2.2.2.2.1)
    have k_xQH : xQH W := by
      rw [hW]
      exact (uxQH rfl hI.2.2.2.2.2.2.2.2.2.2.2.2.2.2.2.2.2.2.2.2.2.2.2.2.2.2.2.2.2.2.2.2.2.2.2.2.2.2.2.2.2.2.2.2.2.2.2.2.2.2.2)
    have k_XC : XC W := ⟨k_xS1, k_xS2, k_xS3, k_xS4, k_xS5, k_xS6, k_xS7, k_xS8, k_xS9, k_xSA, k_xSG, k_xSF, k_xSB, k_xSC, k_xSD, k_xSE, k_xSW, k_xST, k_xSP, k_xSL, k_xSM, k_xSI, k_xD3, k_xDV, k_xDP, k_xDE, k_xQ5, k_xQL, k_xQW, k_xQM, k_xQH⟩
    have kXB : XB W := ⟨k_xN1, k_xN2, k_xN3, k_xN4, k_xN5, k_xN6, k_xH1, k_xK1, k_xC1, k_xRW, k_xWT, k_xCU, k_xG2, k_xG3, k_xG4, k_xG5, k_xG6, k_XC⟩
    exact ⟨base, k2, k3, kXA, kXB⟩
