/-! RULES OF THE REFERENCE (wip/p3/xsf.py). -/
-- langMissR9H
def xr_435 : qRu := (3, [[(-642945025, 0), (1, 2)]], [(4, 226, [(1, 0)]), (4, 227, [(9, 0)]), (4, 219, [(1, 2)])], [], [(4, 227, [(10, 0)])], [])
theorem xo_435 : qRok xr_435 := by
  intro ρ M h0 hf hm hI
  have f0 := hf [(-642945025, 0), (1, 2)] (by decide)
  simp only [qD, h0] at f0
  have m0 : M 4 226 = 1 * ρ 0 + 0 := hm (4, 226, [(1, 0)]) (by decide)
  have m1 : M 4 227 = 9 * ρ 0 + 0 := hm (4, 227, [(9, 0)]) (by decide)
  have m2 : M 4 219 = 1 * ρ 2 + 0 := hm (4, 219, [(1, 2)]) (by decide)
  simp only [h0] at m0 m1
  have qxSC := hI.2.2.2.2.2.2.2.2.2.2.2.2.2.2.2.2.2.2.2.2.2.2.2.2.2.2.2.2.2.2.2.2.2.2.1
  obtain ⟨l1, l2, l3⟩ := gx_xSC hI (by omega)
  refine ⟨ρ, fun _ _ => rfl, fun f h => ?_, ?_⟩
  · exact nomatch h
  · show sI (sU M 4 227 (10 * ρ 0 + 0))
    obtain ⟨W, hW⟩ : ∃ W, W = (sU M 4 227 (10 * ρ 0 + 0)) := ⟨_, rfl⟩
    rw [← hW]
    have base : sI0 W := by
      rw [hW]
      exact (si_u0 hI.1 (fun r hr => by cases hr))
    have k2 : XI2 W := by
      rw [hW]
      exact (xi2_u rfl hI.2.1)
    have k3 : XI3 W := by
      rw [hW]
      exact (xi3_u rfl hI.2.2.1)
    have kXA : XA W := by
      rw [hW]
      exact (uXA rfl hI.2.2.2.1)
    have k_xN1 : xN1 W := by
      rw [hW]
      exact (uxN1 rfl hI.2.2.2.2.1)
    have k_xN2 : xN2 W := by
      rw [hW]
      exact (uxN2 rfl hI.2.2.2.2.2.1)
    have k_xN3 : xN3 W := by
      rw [hW]
      exact (uxN3 rfl hI.2.2.2.2.2.2.1)
    have k_xN4 : xN4 W := by
      rw [hW]
      exact (uxN4 rfl hI.2.2.2.2.2.2.2.1)
    have k_xN5 : xN5 W := by
      rw [hW]
      exact (uxN5 rfl hI.2.2.2.2.2.2.2.2.1)
    have k_xN6 : xN6 W := by
      rw [hW]
      exact (uxN6 rfl hI.2.2.2.2.2.2.2.2.2.1)
    have k_xH1 : xH1 W := by
      rw [hW]
      exact (uxH1 rfl hI.2.2.2.2.2.2.2.2.2.2.1)
    have k_xK1 : xK1 W := by
      rw [hW]
      exact (uxK1 rfl hI.2.2.2.2.2.2.2.2.2.2.2.1)
    have k_xC1 : xC1 W := by
      rw [hW]
      exact (uxC1 rfl hI.2.2.2.2.2.2.2.2.2.2.2.2.1)
    have k_xRW : xRW W := by
      rw [hW]
      exact (uxRW rfl hI.2.2.2.2.2.2.2.2.2.2.2.2.2.1)
    have k_xWT : xWT W := by
      rw [hW]
      exact (uxWT rfl hI.2.2.2.2.2.2.2.2.2.2.2.2.2.2.1)
    have k_xCU : xCU W := by
      rw [hW]
      exact (uxCU rfl hI.2.2.2.2.2.2.2.2.2.2.2.2.2.2.2.1)
    have k_xG2 : xG2 W := by
      rw [hW]
      exact (uxG2 rfl hI.2.2.2.2.2.2.2.2.2.2.2.2.2.2.2.2.1)
    have k_xG3 : xG3 W := by
      rw [hW]
      exact (uxG3 rfl hI.2.2.2.2.2.2.2.2.2.2.2.2.2.2.2.2.2.1)
    have k_xG4 : xG4 W := by
      rw [hW]
      exact (uxG4 rfl hI.2.2.2.2.2.2.2.2.2.2.2.2.2.2.2.2.2.2.1)
    have k_xG5 : xG5 W := by
      rw [hW]
      exact (uxG5 rfl hI.2.2.2.2.2.2.2.2.2.2.2.2.2.2.2.2.2.2.2.1)
    have k_xG6 : xG6 W := by
      rw [hW]
      exact (uxG6 rfl hI.2.2.2.2.2.2.2.2.2.2.2.2.2.2.2.2.2.2.2.2.1)
    have k_xS1 : xS1 W := by
      rw [hW]
      exact (uxS1 rfl hI.2.2.2.2.2.2.2.2.2.2.2.2.2.2.2.2.2.2.2.2.2.1)
    have k_xS2 : xS2 W := by
      rw [hW]
      exact (uxS2 rfl hI.2.2.2.2.2.2.2.2.2.2.2.2.2.2.2.2.2.2.2.2.2.2.1)
    have k_xS3 : xS3 W := by
      rw [hW]
      exact (uxS3 rfl hI.2.2.2.2.2.2.2.2.2.2.2.2.2.2.2.2.2.2.2.2.2.2.2.1)
    have k_xS4 : xS4 W := by
      rw [hW]
      exact (uxS4 rfl hI.2.2.2.2.2.2.2.2.2.2.2.2.2.2.2.2.2.2.2.2.2.2.2.2.1)
    have k_xS5 : xS5 W := by
      rw [hW]
      exact (uxS5 rfl hI.2.2.2.2.2.2.2.2.2.2.2.2.2.2.2.2.2.2.2.2.2.2.2.2.2.1)
    have k_xS6 : xS6 W := by
      rw [hW]
      exact (uxS6 rfl hI.2.2.2.2.2.2.2.2.2.2.2.2.2.2.2.2.2.2.2.2.2.2.2.2.2.2.1)
    have k_xS7 : xS7 W := by
      rw [hW]
      exact (uxS7 rfl hI.2.2.2.2.2.2.2.2.2.2.2.2.2.2.2.2.2.2.2.2.2.2.2.2.2.2.2.1)
    have k_xS8 : xS8 W := by
      rw [hW]
      exact (uxS8 rfl hI.2.2.2.2.2.2.2.2.2.2.2.2.2.2.2.2.2.2.2.2.2.2.2.2.2.2.2.2.1)
    have k_xS9 : xS9 W := by
      rw [hW]
      exact (uxS9 rfl hI.2.2.2.2.2.2.2.2.2.2.2.2.2.2.2.2.2.2.2.2.2.2.2.2.2.2.2.2.2.1)
    have k_xSA : xSA W := by
      rw [hW]
      exact (uxSA rfl hI.2.2.2.2.2.2.2.2.2.2.2.2.2.2.2.2.2.2.2.2.2.2.2.2.2.2.2.2.2.2.1)
    have k_xSG : xSG W := by
      rw [hW]
      exact (uxSG rfl hI.2.2.2.2.2.2.2.2.2.2.2.2.2.2.2.2.2.2.2.2.2.2.2.2.2.2.2.2.2.2.2.1)
    have k_xSF : xSF W := by
      rw [hW]
      exact (uxSF rfl hI.2.2.2.2.2.2.2.2.2.2.2.2.2.2.2.2.2.2.2.2.2.2.2.2.2.2.2.2.2.2.2.2.1)
    have k_xSB : xSB W := by
      rw [hW]
      exact (uxSB rfl hI.2.2.2.2.2.2.2.2.2.2.2.2.2.2.2.2.2.2.2.2.2.2.2.2.2.2.2.2.2.2.2.2.2.1)
    have k_xSC : xSC W := by
      have r4_226 : W 4 226 = M 4 226 := by rw [hW, sU_ne (fun z => by omega)]
      have r4_227 : W 4 227 = 10 * ρ 0 + 0 := by rw [hW, sU_at]
      have r4_219 : W 4 219 = M 4 219 := by rw [hW, sU_ne (fun z => by omega)]
      intro h
      rw [r4_227, r4_219, h0]
      refine ⟨by omega, by omega, ?_⟩
      have e1 := tki_on (x := M 4 219) (w := 9) (show tLa[9]? = some (642945024 : Int) from rfl)
      rw [if_neg (by omega)] at e1
      rw [show M 4 227 = 9 by omega] at l3
      rw [← l3]
      exact e1.symm
    have k_xSD : xSD W := by
      rw [hW]
      exact (uxSD rfl hI.2.2.2.2.2.2.2.2.2.2.2.2.2.2.2.2.2.2.2.2.2.2.2.2.2.2.2.2.2.2.2.2.2.2.2.1)
    have k_xSE : xSE W := by
      rw [hW]
      exact (uxSE rfl hI.2.2.2.2.2.2.2.2.2.2.2.2.2.2.2.2.2.2.2.2.2.2.2.2.2.2.2.2.2.2.2.2.2.2.2.2.1)
    have k_xSW : xSW W := by
      rw [hW]
      exact (uxSW rfl hI.2.2.2.2.2.2.2.2.2.2.2.2.2.2.2.2.2.2.2.2.2.2.2.2.2.2.2.2.2.2.2.2.2.2.2.2.2.1)
    have k_xST : xST W := by
      rw [hW]
      exact (uxST rfl hI.2.2.2.2.2.2.2.2.2.2.2.2.2.2.2.2.2.2.2.2.2.2.2.2.2.2.2.2.2.2.2.2.2.2.2.2.2.2.1)
    have k_xSP : xSP W := by
      rw [hW]
      exact (uxSP rfl hI.2.2.2.2.2.2.2.2.2.2.2.2.2.2.2.2.2.2.2.2.2.2.2.2.2.2.2.2.2.2.2.2.2.2.2.2.2.2.2.1)
    have k_xSL : xSL W := by
      rw [hW]
      exact (uxSL rfl hI.2.2.2.2.2.2.2.2.2.2.2.2.2.2.2.2.2.2.2.2.2.2.2.2.2.2.2.2.2.2.2.2.2.2.2.2.2.2.2.2.1)
    have k_xSM : xSM W := by
      rw [hW]
      exact (uxSM rfl hI.2.2.2.2.2.2.2.2.2.2.2.2.2.2.2.2.2.2.2.2.2.2.2.2.2.2.2.2.2.2.2.2.2.2.2.2.2.2.2.2.2.1)
    have k_xSI : xSI W := by
      rw [hW]
      exact (uxSI rfl hI.2.2.2.2.2.2.2.2.2.2.2.2.2.2.2.2.2.2.2.2.2.2.2.2.2.2.2.2.2.2.2.2.2.2.2.2.2.2.2.2.2.2.1)
    have k_xD3 : xD3 W := by
      rw [hW]
      exact (uxD3 rfl hI.2.2.2.2.2.2.2.2.2.2.2.2.2.2.2.2.2.2.2.2.2.2.2.2.2.2.2.2.2.2.2.2.2.2.2.2.2.2.2.2.2.2.2.1)
    have k_xDV : xDV W := by
      rw [hW]
      exact (uxDV rfl hI.2.2.2.2.2.2.2.2.2.2.2.2.2.2.2.2.2.2.2.2.2.2.2.2.2.2.2.2.2.2.2.2.2.2.2.2.2.2.2.2.2.2.2.2.1)
    have k_xDP : xDP W := by
      rw [hW]
      exact (uxDP rfl hI.2.2.2.2.2.2.2.2.2.2.2.2.2.2.2.2.2.2.2.2.2.2.2.2.2.2.2.2.2.2.2.2.2.2.2.2.2.2.2.2.2.2.2.2.2.1)
    have k_xDE : xDE W := by
      rw [hW]
      exact (uxDE rfl hI.2.2.2.2.2.2.2.2.2.2.2.2.2.2.2.2.2.2.2.2.2.2.2.2.2.2.2.2.2.2.2.2.2.2.2.2.2.2.2.2.2.2.2.2.2.2.1)
    have k_xQ5 : xQ5 W := by
      rw [hW]
      exact (uxQ5 rfl hI.2.2.2.2.2.2.2.2.2.2.2.2.2.2.2.2.2.2.2.2.2.2.2.2.2.2.2.2.2.2.2.2.2.2.2.2.2.2.2.2.2.2.2.2.2.2.2.1)
    have k_xQL : xQL W := by
      rw [hW]
      exact (uxQL rfl hI.2.2.2.2.2.2.2.2.2.2.2.2.2.2.2.2.2.2.2.2.2.2.2.2.2.2.2.2.2.2.2.2.2.2.2.2.2.2.2.2.2.2.2.2.2.2.2.2.1)
    have k_xQW : xQW W := by
      rw [hW]
      exact (uxQW rfl hI.2.2.2.2.2.2.2.2.2.2.2.2.2.2.2.2.2.2.2.2.2.2.2.2.2.2.2.2.2.2.2.2.2.2.2.2.2.2.2.2.2.2.2.2.2.2.2.2.2.1)
    have k_xQM : xQM W := by
      rw [hW]
      exact (uxQM rfl hI.2.2.2.2.2.2.2.2.2.2.2.2.2.2.2.2.2.2.2.2.2.2.2.2.2.2.2.2.2.2.2.2.2.2.2.2.2.2.2.2.2.2.2.2.2.2.2.2.2.2.1)
    have k_xQH : xQH W := by
      rw [hW]
      exact (uxQH rfl hI.2.2.2.2.2.2.2.2.2.2.2.2.2.2.2.2.2.2.2.2.2.2.2.2.2.2.2.2.2.2.2.2.2.2.2.2.2.2.2.2.2.2.2.2.2.2.2.2.2.2.2)
    have k_XC : XC W := ⟨k_xS1, k_xS2, k_xS3, k_xS4, k_xS5, k_xS6, k_xS7, k_xS8, k_xS9, k_xSA, k_xSG, k_xSF, k_xSB, k_xSC, k_xSD, k_xSE, k_xSW, k_xST, k_xSP, k_xSL, k_xSM, k_xSI, k_xD3, k_xDV, k_xDP, k_xDE, k_xQ5, k_xQL, k_xQW, k_xQM, k_xQH⟩
    have kXB : XB W := ⟨k_xN1, k_xN2, k_xN3, k_xN4, k_xN5, k_xN6, k_xH1, k_xK1, k_xC1, k_xRW, k_xWT, k_xCU, k_xG2, k_xG3, k_xG4, k_xG5, k_xG6, k_XC⟩
    exact ⟨base, k2, k3, kXA, kXB⟩
-- wHitR10_c
def xr_436 : qRu := (13, [[(-1, 0), (1, 5)], [(1, 1)], [(-1, 1), (1, 9)], [(1, 1), (-1, 9)], [(-1, 0), (-1, 1), (1, 10)], [(6, 0), (1, 9), (-1, 10)], [(-404455424, 0), (1, 11)], [(404455424, 0), (-1, 11)]], [(4, 210, [(1, 0)]), (4, 211, [(1, 1)]), (4, 101, [(1, 2)]), (3, 46, [(1, 3)]), (3, 47, [(1, 4)]), (4, 100, [(1, 5)]), (3, 44, [(1, 6)]), (3, 45, [(1, 7)]), (4, 107, [(1, 8)]), (4, 214, [(1, 0)]), (4, 215, [(1, 9)]), (4, 217, [(1, 10)]), (4, 219, [(1, 11)]), (4, 216, [(1, 12)])], [], [], [[(-1, 1), (1, 3)], [(1, 1), (-1, 3)], [(1, 4), (-1, 10)], [(-1, 4), (1, 10)], [(-28, 0), (1, 6)], [(28, 0), (-1, 6)], [(1, 7), (-1, 11)], [(-1, 7), (1, 11)]])
theorem xo_436 : qRok xr_436 := by
  intro ρ M h0 hf hm hI
  have f0 := hf [(-1, 0), (1, 5)] (by decide)
  have f1 := hf [(1, 1)] (by decide)
  have f2 := hf [(-1, 1), (1, 9)] (by decide)
  have f3 := hf [(1, 1), (-1, 9)] (by decide)
  have f4 := hf [(-1, 0), (-1, 1), (1, 10)] (by decide)
  have f5 := hf [(6, 0), (1, 9), (-1, 10)] (by decide)
  have f6 := hf [(-404455424, 0), (1, 11)] (by decide)
  have f7 := hf [(404455424, 0), (-1, 11)] (by decide)
  simp only [qD, h0] at f0 f1 f2 f3 f4 f5 f6 f7
  have m0 : M 4 210 = 1 * ρ 0 + 0 := hm (4, 210, [(1, 0)]) (by decide)
  have m1 : M 4 211 = 1 * ρ 1 + 0 := hm (4, 211, [(1, 1)]) (by decide)
  have m2 : M 4 101 = 1 * ρ 2 + 0 := hm (4, 101, [(1, 2)]) (by decide)
  have m3 : M 3 46 = 1 * ρ 3 + 0 := hm (3, 46, [(1, 3)]) (by decide)
  have m4 : M 3 47 = 1 * ρ 4 + 0 := hm (3, 47, [(1, 4)]) (by decide)
  have m5 : M 4 100 = 1 * ρ 5 + 0 := hm (4, 100, [(1, 5)]) (by decide)
  have m6 : M 3 44 = 1 * ρ 6 + 0 := hm (3, 44, [(1, 6)]) (by decide)
  have m7 : M 3 45 = 1 * ρ 7 + 0 := hm (3, 45, [(1, 7)]) (by decide)
  have m8 : M 4 107 = 1 * ρ 8 + 0 := hm (4, 107, [(1, 8)]) (by decide)
  have m9 : M 4 214 = 1 * ρ 0 + 0 := hm (4, 214, [(1, 0)]) (by decide)
  have m10 : M 4 215 = 1 * ρ 9 + 0 := hm (4, 215, [(1, 9)]) (by decide)
  have m11 : M 4 217 = 1 * ρ 10 + 0 := hm (4, 217, [(1, 10)]) (by decide)
  have m12 : M 4 219 = 1 * ρ 11 + 0 := hm (4, 219, [(1, 11)]) (by decide)
  have m13 : M 4 216 = 1 * ρ 12 + 0 := hm (4, 216, [(1, 12)]) (by decide)
  simp only [h0] at m0 m9
  obtain ⟨u1, u2, _⟩ := gx_xS8 hI (by omega)

  obtain ⟨a1, a2, a3, a4, a5, a6, a7⟩ := gx_xSA hI (by omega)
  have eq1 : (M 4 215).toNat = (M 4 211).toNat := by omega
  rw [eq1] at a6 a7
  have hgt := ten_gt (g := M 92) (lo := 97) (hi := 122) (n := (M 4 101).toNat) (q := (M 4 211).toNat) (by omega)
  have el1 : (M 4 217 - M 4 215).toNat = tEn (M 92) 97 122 (M 4 101).toNat (M 4 211).toNat - (M 4 211).toNat := by omega
  rw [el1] at a7

  obtain ⟨t1, t2, t3, t4, t5, t6⟩ := tk_of hI (by omega) (by omega) (by omega) (show tAt (M 92) (M 4 101).toNat (M 4 211).toNat (M 4 107) (M 4 108) = (28, M 4 219, ((M 4 211).toNat : Int), M 4 217, 0, 10) from by
    unfold tAt
    rw [if_neg (by omega), if_pos hgt.2]
    unfold tWo
    rw [← a7, ← a6]
    have hk : tKi (M 4 219) 0 = 28 := by
      rw [show M 4 219 = 404455424 by omega]
      decide
    have h6 : ¬ (6 < tEn (M 92) 97 122 (M 4 101).toNat (M 4 211).toNat - (M 4 211).toNat) := by omega
    unfold tWk tWs tWv
    rw [if_neg h6, if_neg h6, if_neg h6, hk]
    rfl)
  refine ⟨ρ, fun _ _ => rfl, fun f h => ?_, ?_⟩
  · have h : f ∈ ([[(-1, 1), (1, 3)], [(1, 1), (-1, 3)], [(1, 4), (-1, 10)], [(-1, 4), (1, 10)], [(-28, 0), (1, 6)], [(28, 0), (-1, 6)], [(1, 7), (-1, 11)], [(-1, 7), (1, 11)]] : List qF) := h
    simp only [List.mem_cons, List.not_mem_nil, or_false] at h
    rcases h with rfl | rfl | rfl | rfl | rfl | rfl | rfl | rfl
    · show 0 ≤ -1 * ρ 1 + (1 * ρ 3 + 0)
      (try rw [h0]); omega
    · show 0 ≤ 1 * ρ 1 + (-1 * ρ 3 + 0)
      (try rw [h0]); omega
    · show 0 ≤ 1 * ρ 4 + (-1 * ρ 10 + 0)
      (try rw [h0]); omega
    · show 0 ≤ -1 * ρ 4 + (1 * ρ 10 + 0)
      (try rw [h0]); omega
    · show 0 ≤ -28 * ρ 0 + (1 * ρ 6 + 0)
      (try rw [h0]); omega
    · show 0 ≤ 28 * ρ 0 + (-1 * ρ 6 + 0)
      (try rw [h0]); omega
    · show 0 ≤ 1 * ρ 7 + (-1 * ρ 11 + 0)
      (try rw [h0]); omega
    · show 0 ≤ -1 * ρ 7 + (1 * ρ 11 + 0)
      (try rw [h0]); omega
  · show sI M
    exact hI
-- wHitR10_r
def xr_437 : qRu := (13, [[(-1, 0), (1, 5)], [(1, 1)], [(-1, 1), (1, 9)], [(1, 1), (-1, 9)], [(-1, 0), (-1, 1), (1, 10)], [(6, 0), (1, 9), (-1, 10)], [(-404455424, 0), (1, 11)], [(404455424, 0), (-1, 11)]], [(4, 210, [(1, 0)]), (4, 211, [(1, 1)]), (4, 101, [(1, 2)]), (3, 46, [(1, 3)]), (3, 47, [(1, 4)]), (4, 100, [(1, 5)]), (3, 50, [(1, 6)]), (3, 51, [(1, 7)]), (4, 108, [(1, 8)]), (4, 214, [(1, 0)]), (4, 215, [(1, 9)]), (4, 217, [(1, 10)]), (4, 219, [(1, 11)]), (4, 216, [(1, 12)])], [], [], [[(-1, 1), (1, 3)], [(1, 1), (-1, 3)], [(1, 4), (-1, 10)], [(-1, 4), (1, 10)], [(1, 6)], [(-1, 6)], [(-10, 0), (1, 7)], [(10, 0), (-1, 7)]])
theorem xo_437 : qRok xr_437 := by
  intro ρ M h0 hf hm hI
  have f0 := hf [(-1, 0), (1, 5)] (by decide)
  have f1 := hf [(1, 1)] (by decide)
  have f2 := hf [(-1, 1), (1, 9)] (by decide)
  have f3 := hf [(1, 1), (-1, 9)] (by decide)
  have f4 := hf [(-1, 0), (-1, 1), (1, 10)] (by decide)
  have f5 := hf [(6, 0), (1, 9), (-1, 10)] (by decide)
  have f6 := hf [(-404455424, 0), (1, 11)] (by decide)
  have f7 := hf [(404455424, 0), (-1, 11)] (by decide)
  simp only [qD, h0] at f0 f1 f2 f3 f4 f5 f6 f7
  have m0 : M 4 210 = 1 * ρ 0 + 0 := hm (4, 210, [(1, 0)]) (by decide)
  have m1 : M 4 211 = 1 * ρ 1 + 0 := hm (4, 211, [(1, 1)]) (by decide)
  have m2 : M 4 101 = 1 * ρ 2 + 0 := hm (4, 101, [(1, 2)]) (by decide)
  have m3 : M 3 46 = 1 * ρ 3 + 0 := hm (3, 46, [(1, 3)]) (by decide)
  have m4 : M 3 47 = 1 * ρ 4 + 0 := hm (3, 47, [(1, 4)]) (by decide)
  have m5 : M 4 100 = 1 * ρ 5 + 0 := hm (4, 100, [(1, 5)]) (by decide)
  have m6 : M 3 50 = 1 * ρ 6 + 0 := hm (3, 50, [(1, 6)]) (by decide)
  have m7 : M 3 51 = 1 * ρ 7 + 0 := hm (3, 51, [(1, 7)]) (by decide)
  have m8 : M 4 108 = 1 * ρ 8 + 0 := hm (4, 108, [(1, 8)]) (by decide)
  have m9 : M 4 214 = 1 * ρ 0 + 0 := hm (4, 214, [(1, 0)]) (by decide)
  have m10 : M 4 215 = 1 * ρ 9 + 0 := hm (4, 215, [(1, 9)]) (by decide)
  have m11 : M 4 217 = 1 * ρ 10 + 0 := hm (4, 217, [(1, 10)]) (by decide)
  have m12 : M 4 219 = 1 * ρ 11 + 0 := hm (4, 219, [(1, 11)]) (by decide)
  have m13 : M 4 216 = 1 * ρ 12 + 0 := hm (4, 216, [(1, 12)]) (by decide)
  simp only [h0] at m0 m9
  obtain ⟨u1, u2, _⟩ := gx_xS8 hI (by omega)

  obtain ⟨a1, a2, a3, a4, a5, a6, a7⟩ := gx_xSA hI (by omega)
  have eq1 : (M 4 215).toNat = (M 4 211).toNat := by omega
  rw [eq1] at a6 a7
  have hgt := ten_gt (g := M 92) (lo := 97) (hi := 122) (n := (M 4 101).toNat) (q := (M 4 211).toNat) (by omega)
  have el1 : (M 4 217 - M 4 215).toNat = tEn (M 92) 97 122 (M 4 101).toNat (M 4 211).toNat - (M 4 211).toNat := by omega
  rw [el1] at a7

  obtain ⟨t1, t2, t3, t4, t5, t6⟩ := tk_of hI (by omega) (by omega) (by omega) (show tAt (M 92) (M 4 101).toNat (M 4 211).toNat (M 4 107) (M 4 108) = (28, M 4 219, ((M 4 211).toNat : Int), M 4 217, 0, 10) from by
    unfold tAt
    rw [if_neg (by omega), if_pos hgt.2]
    unfold tWo
    rw [← a7, ← a6]
    have hk : tKi (M 4 219) 0 = 28 := by
      rw [show M 4 219 = 404455424 by omega]
      decide
    have h6 : ¬ (6 < tEn (M 92) 97 122 (M 4 101).toNat (M 4 211).toNat - (M 4 211).toNat) := by omega
    unfold tWk tWs tWv
    rw [if_neg h6, if_neg h6, if_neg h6, hk]
    rfl)
  refine ⟨ρ, fun _ _ => rfl, fun f h => ?_, ?_⟩
  · have h : f ∈ ([[(-1, 1), (1, 3)], [(1, 1), (-1, 3)], [(1, 4), (-1, 10)], [(-1, 4), (1, 10)], [(1, 6)], [(-1, 6)], [(-10, 0), (1, 7)], [(10, 0), (-1, 7)]] : List qF) := h
    simp only [List.mem_cons, List.not_mem_nil, or_false] at h
    rcases h with rfl | rfl | rfl | rfl | rfl | rfl | rfl | rfl
    · show 0 ≤ -1 * ρ 1 + (1 * ρ 3 + 0)
      (try rw [h0]); omega
    · show 0 ≤ 1 * ρ 1 + (-1 * ρ 3 + 0)
      (try rw [h0]); omega
    · show 0 ≤ 1 * ρ 4 + (-1 * ρ 10 + 0)
      (try rw [h0]); omega
    · show 0 ≤ -1 * ρ 4 + (1 * ρ 10 + 0)
      (try rw [h0]); omega
    · show 0 ≤ 1 * ρ 6 + 0
      (try rw [h0]); omega
    · show 0 ≤ -1 * ρ 6 + 0
      (try rw [h0]); omega
    · show 0 ≤ -10 * ρ 0 + (1 * ρ 7 + 0)
      (try rw [h0]); omega
    · show 0 ≤ 10 * ρ 0 + (-1 * ρ 7 + 0)
      (try rw [h0]); omega
  · show sI M
    exact hI
-- langMissR10L
def xr_438 : qRu := (3, [[(404455423, 0), (-1, 2)]], [(4, 226, [(1, 0)]), (4, 227, [(10, 0)]), (4, 219, [(1, 2)])], [], [(4, 227, [(11, 0)])], [])
theorem xo_438 : qRok xr_438 := by
  intro ρ M h0 hf hm hI
  have f0 := hf [(404455423, 0), (-1, 2)] (by decide)
  simp only [qD, h0] at f0
  have m0 : M 4 226 = 1 * ρ 0 + 0 := hm (4, 226, [(1, 0)]) (by decide)
  have m1 : M 4 227 = 10 * ρ 0 + 0 := hm (4, 227, [(10, 0)]) (by decide)
  have m2 : M 4 219 = 1 * ρ 2 + 0 := hm (4, 219, [(1, 2)]) (by decide)
  simp only [h0] at m0 m1
  have qxSC := hI.2.2.2.2.2.2.2.2.2.2.2.2.2.2.2.2.2.2.2.2.2.2.2.2.2.2.2.2.2.2.2.2.2.2.1
  obtain ⟨l1, l2, l3⟩ := gx_xSC hI (by omega)
  refine ⟨ρ, fun _ _ => rfl, fun f h => ?_, ?_⟩
  · exact nomatch h
  · show sI (sU M 4 227 (11 * ρ 0 + 0))
    obtain ⟨W, hW⟩ : ∃ W, W = (sU M 4 227 (11 * ρ 0 + 0)) := ⟨_, rfl⟩
    rw [← hW]
    have base : sI0 W := by
      rw [hW]
      exact (si_u0 hI.1 (fun r hr => by cases hr))
    have k2 : XI2 W := by
      rw [hW]
      exact (xi2_u rfl hI.2.1)
    have k3 : XI3 W := by
      rw [hW]
      exact (xi3_u rfl hI.2.2.1)
    have kXA : XA W := by
      rw [hW]
      exact (uXA rfl hI.2.2.2.1)
    have k_xN1 : xN1 W := by
      rw [hW]
      exact (uxN1 rfl hI.2.2.2.2.1)
    have k_xN2 : xN2 W := by
      rw [hW]
      exact (uxN2 rfl hI.2.2.2.2.2.1)
    have k_xN3 : xN3 W := by
      rw [hW]
      exact (uxN3 rfl hI.2.2.2.2.2.2.1)
    have k_xN4 : xN4 W := by
      rw [hW]
      exact (uxN4 rfl hI.2.2.2.2.2.2.2.1)
    have k_xN5 : xN5 W := by
      rw [hW]
      exact (uxN5 rfl hI.2.2.2.2.2.2.2.2.1)
    have k_xN6 : xN6 W := by
      rw [hW]
      exact (uxN6 rfl hI.2.2.2.2.2.2.2.2.2.1)
    have k_xH1 : xH1 W := by
      rw [hW]
      exact (uxH1 rfl hI.2.2.2.2.2.2.2.2.2.2.1)
    have k_xK1 : xK1 W := by
      rw [hW]
      exact (uxK1 rfl hI.2.2.2.2.2.2.2.2.2.2.2.1)
    have k_xC1 : xC1 W := by
      rw [hW]
      exact (uxC1 rfl hI.2.2.2.2.2.2.2.2.2.2.2.2.1)
    have k_xRW : xRW W := by
      rw [hW]
      exact (uxRW rfl hI.2.2.2.2.2.2.2.2.2.2.2.2.2.1)
    have k_xWT : xWT W := by
      rw [hW]
      exact (uxWT rfl hI.2.2.2.2.2.2.2.2.2.2.2.2.2.2.1)
    have k_xCU : xCU W := by
      rw [hW]
      exact (uxCU rfl hI.2.2.2.2.2.2.2.2.2.2.2.2.2.2.2.1)
    have k_xG2 : xG2 W := by
      rw [hW]
      exact (uxG2 rfl hI.2.2.2.2.2.2.2.2.2.2.2.2.2.2.2.2.1)
    have k_xG3 : xG3 W := by
      rw [hW]
      exact (uxG3 rfl hI.2.2.2.2.2.2.2.2.2.2.2.2.2.2.2.2.2.1)
    have k_xG4 : xG4 W := by
      rw [hW]
      exact (uxG4 rfl hI.2.2.2.2.2.2.2.2.2.2.2.2.2.2.2.2.2.2.1)
    have k_xG5 : xG5 W := by
      rw [hW]
      exact (uxG5 rfl hI.2.2.2.2.2.2.2.2.2.2.2.2.2.2.2.2.2.2.2.1)
    have k_xG6 : xG6 W := by
      rw [hW]
      exact (uxG6 rfl hI.2.2.2.2.2.2.2.2.2.2.2.2.2.2.2.2.2.2.2.2.1)
    have k_xS1 : xS1 W := by
      rw [hW]
      exact (uxS1 rfl hI.2.2.2.2.2.2.2.2.2.2.2.2.2.2.2.2.2.2.2.2.2.1)
    have k_xS2 : xS2 W := by
      rw [hW]
      exact (uxS2 rfl hI.2.2.2.2.2.2.2.2.2.2.2.2.2.2.2.2.2.2.2.2.2.2.1)
    have k_xS3 : xS3 W := by
      rw [hW]
      exact (uxS3 rfl hI.2.2.2.2.2.2.2.2.2.2.2.2.2.2.2.2.2.2.2.2.2.2.2.1)
    have k_xS4 : xS4 W := by
      rw [hW]
      exact (uxS4 rfl hI.2.2.2.2.2.2.2.2.2.2.2.2.2.2.2.2.2.2.2.2.2.2.2.2.1)
    have k_xS5 : xS5 W := by
      rw [hW]
      exact (uxS5 rfl hI.2.2.2.2.2.2.2.2.2.2.2.2.2.2.2.2.2.2.2.2.2.2.2.2.2.1)
    have k_xS6 : xS6 W := by
      rw [hW]
      exact (uxS6 rfl hI.2.2.2.2.2.2.2.2.2.2.2.2.2.2.2.2.2.2.2.2.2.2.2.2.2.2.1)
    have k_xS7 : xS7 W := by
      rw [hW]
      exact (uxS7 rfl hI.2.2.2.2.2.2.2.2.2.2.2.2.2.2.2.2.2.2.2.2.2.2.2.2.2.2.2.1)
    have k_xS8 : xS8 W := by
      rw [hW]
      exact (uxS8 rfl hI.2.2.2.2.2.2.2.2.2.2.2.2.2.2.2.2.2.2.2.2.2.2.2.2.2.2.2.2.1)
    have k_xS9 : xS9 W := by
      rw [hW]
      exact (uxS9 rfl hI.2.2.2.2.2.2.2.2.2.2.2.2.2.2.2.2.2.2.2.2.2.2.2.2.2.2.2.2.2.1)
    have k_xSA : xSA W := by
      rw [hW]
      exact (uxSA rfl hI.2.2.2.2.2.2.2.2.2.2.2.2.2.2.2.2.2.2.2.2.2.2.2.2.2.2.2.2.2.2.1)
    have k_xSG : xSG W := by
      rw [hW]
      exact (uxSG rfl hI.2.2.2.2.2.2.2.2.2.2.2.2.2.2.2.2.2.2.2.2.2.2.2.2.2.2.2.2.2.2.2.1)
    have k_xSF : xSF W := by
      rw [hW]
      exact (uxSF rfl hI.2.2.2.2.2.2.2.2.2.2.2.2.2.2.2.2.2.2.2.2.2.2.2.2.2.2.2.2.2.2.2.2.1)
    have k_xSB : xSB W := by
      rw [hW]
      exact (uxSB rfl hI.2.2.2.2.2.2.2.2.2.2.2.2.2.2.2.2.2.2.2.2.2.2.2.2.2.2.2.2.2.2.2.2.2.1)
    have k_xSC : xSC W := by
      have r4_226 : W 4 226 = M 4 226 := by rw [hW, sU_ne (fun z => by omega)]
      have r4_227 : W 4 227 = 11 * ρ 0 + 0 := by rw [hW, sU_at]
      have r4_219 : W 4 219 = M 4 219 := by rw [hW, sU_ne (fun z => by omega)]
      intro h
      rw [r4_227, r4_219, h0]
      refine ⟨by omega, by omega, ?_⟩
      have e1 := tki_on (x := M 4 219) (w := 10) (show tLa[10]? = some (404455424 : Int) from rfl)
      rw [if_neg (by omega)] at e1
      rw [show M 4 227 = 10 by omega] at l3
      rw [← l3]
      exact e1.symm
    have k_xSD : xSD W := by
      rw [hW]
      exact (uxSD rfl hI.2.2.2.2.2.2.2.2.2.2.2.2.2.2.2.2.2.2.2.2.2.2.2.2.2.2.2.2.2.2.2.2.2.2.2.1)
    have k_xSE : xSE W := by
      rw [hW]
      exact (uxSE rfl hI.2.2.2.2.2.2.2.2.2.2.2.2.2.2.2.2.2.2.2.2.2.2.2.2.2.2.2.2.2.2.2.2.2.2.2.2.1)
    have k_xSW : xSW W := by
      rw [hW]
      exact (uxSW rfl hI.2.2.2.2.2.2.2.2.2.2.2.2.2.2.2.2.2.2.2.2.2.2.2.2.2.2.2.2.2.2.2.2.2.2.2.2.2.1)
    have k_xST : xST W := by
      rw [hW]
      exact (uxST rfl hI.2.2.2.2.2.2.2.2.2.2.2.2.2.2.2.2.2.2.2.2.2.2.2.2.2.2.2.2.2.2.2.2.2.2.2.2.2.2.1)
    have k_xSP : xSP W := by
      rw [hW]
      exact (uxSP rfl hI.2.2.2.2.2.2.2.2.2.2.2.2.2.2.2.2.2.2.2.2.2.2.2.2.2.2.2.2.2.2.2.2.2.2.2.2.2.2.2.1)
    have k_xSL : xSL W := by
      rw [hW]
      exact (uxSL rfl hI.2.2.2.2.2.2.2.2.2.2.2.2.2.2.2.2.2.2.2.2.2.2.2.2.2.2.2.2.2.2.2.2.2.2.2.2.2.2.2.2.1)
    have k_xSM : xSM W := by
      rw [hW]
      exact (uxSM rfl hI.2.2.2.2.2.2.2.2.2.2.2.2.2.2.2.2.2.2.2.2.2.2.2.2.2.2.2.2.2.2.2.2.2.2.2.2.2.2.2.2.2.1)
    have k_xSI : xSI W := by
      rw [hW]
      exact (uxSI rfl hI.2.2.2.2.2.2.2.2.2.2.2.2.2.2.2.2.2.2.2.2.2.2.2.2.2.2.2.2.2.2.2.2.2.2.2.2.2.2.2.2.2.2.1)
    have k_xD3 : xD3 W := by
      rw [hW]
      exact (uxD3 rfl hI.2.2.2.2.2.2.2.2.2.2.2.2.2.2.2.2.2.2.2.2.2.2.2.2.2.2.2.2.2.2.2.2.2.2.2.2.2.2.2.2.2.2.2.1)
    have k_xDV : xDV W := by
      rw [hW]
      exact (uxDV rfl hI.2.2.2.2.2.2.2.2.2.2.2.2.2.2.2.2.2.2.2.2.2.2.2.2.2.2.2.2.2.2.2.2.2.2.2.2.2.2.2.2.2.2.2.2.1)
    have k_xDP : xDP W := by
      rw [hW]
      exact (uxDP rfl hI.2.2.2.2.2.2.2.2.2.2.2.2.2.2.2.2.2.2.2.2.2.2.2.2.2.2.2.2.2.2.2.2.2.2.2.2.2.2.2.2.2.2.2.2.2.1)
    have k_xDE : xDE W := by
      rw [hW]
      exact (uxDE rfl hI.2.2.2.2.2.2.2.2.2.2.2.2.2.2.2.2.2.2.2.2.2.2.2.2.2.2.2.2.2.2.2.2.2.2.2.2.2.2.2.2.2.2.2.2.2.2.1)
    have k_xQ5 : xQ5 W := by
      rw [hW]
      exact (uxQ5 rfl hI.2.2.2.2.2.2.2.2.2.2.2.2.2.2.2.2.2.2.2.2.2.2.2.2.2.2.2.2.2.2.2.2.2.2.2.2.2.2.2.2.2.2.2.2.2.2.2.1)
    have k_xQL : xQL W := by
      rw [hW]
      exact (uxQL rfl hI.2.2.2.2.2.2.2.2.2.2.2.2.2.2.2.2.2.2.2.2.2.2.2.2.2.2.2.2.2.2.2.2.2.2.2.2.2.2.2.2.2.2.2.2.2.2.2.2.1)
    have k_xQW : xQW W := by
      rw [hW]
      exact (uxQW rfl hI.2.2.2.2.2.2.2.2.2.2.2.2.2.2.2.2.2.2.2.2.2.2.2.2.2.2.2.2.2.2.2.2.2.2.2.2.2.2.2.2.2.2.2.2.2.2.2.2.2.1)
    have k_xQM : xQM W := by
      rw [hW]
      exact (uxQM rfl hI.2.2.2.2.2.2.2.2.2.2.2.2.2.2.2.2.2.2.2.2.2.2.2.2.2.2.2.2.2.2.2.2.2.2.2.2.2.2.2.2.2.2.2.2.2.2.2.2.2.2.1)
    have k_xQH : xQH W := by
      rw [hW]
      exact (uxQH rfl hI.2.2.2.2.2.2.2.2.2.2.2.2.2.2.2.2.2.2.2.2.2.2.2.2.2.2.2.2.2.2.2.2.2.2.2.2.2.2.2.2.2.2.2.2.2.2.2.2.2.2.2)
    have k_XC : XC W := ⟨k_xS1, k_xS2, k_xS3, k_xS4, k_xS5, k_xS6, k_xS7, k_xS8, k_xS9, k_xSA, k_xSG, k_xSF, k_xSB, k_xSC, k_xSD, k_xSE, k_xSW, k_xST, k_xSP, k_xSL, k_xSM, k_xSI, k_xD3, k_xDV, k_xDP, k_xDE, k_xQ5, k_xQL, k_xQW, k_xQM, k_xQH⟩
    have kXB : XB W := ⟨k_xN1, k_xN2, k_xN3, k_xN4, k_xN5, k_xN6, k_xH1, k_xK1, k_xC1, k_xRW, k_xWT, k_xCU, k_xG2, k_xG3, k_xG4, k_xG5, k_xG6, k_XC⟩
    exact ⟨base, k2, k3, kXA, kXB⟩
-- langMissR10H
def xr_439 : qRu := (3, [[(-404455425, 0), (1, 2)]], [(4, 226, [(1, 0)]), (4, 227, [(10, 0)]), (4, 219, [(1, 2)])], [], [(4, 227, [(11, 0)])], [])
theorem xo_439 : qRok xr_439 := by
  intro ρ M h0 hf hm hI
  have f0 := hf [(-404455425, 0), (1, 2)] (by decide)
  simp only [qD, h0] at f0
  have m0 : M 4 226 = 1 * ρ 0 + 0 := hm (4, 226, [(1, 0)]) (by decide)
  have m1 : M 4 227 = 10 * ρ 0 + 0 := hm (4, 227, [(10, 0)]) (by decide)
  have m2 : M 4 219 = 1 * ρ 2 + 0 := hm (4, 219, [(1, 2)]) (by decide)
  simp only [h0] at m0 m1
  have qxSC := hI.2.2.2.2.2.2.2.2.2.2.2.2.2.2.2.2.2.2.2.2.2.2.2.2.2.2.2.2.2.2.2.2.2.2.1
  obtain ⟨l1, l2, l3⟩ := gx_xSC hI (by omega)
  refine ⟨ρ, fun _ _ => rfl, fun f h => ?_, ?_⟩
  · exact nomatch h
  · show sI (sU M 4 227 (11 * ρ 0 + 0))
    obtain ⟨W, hW⟩ : ∃ W, W = (sU M 4 227 (11 * ρ 0 + 0)) := ⟨_, rfl⟩
    rw [← hW]
    have base : sI0 W := by
      rw [hW]
      exact (si_u0 hI.1 (fun r hr => by cases hr))
    have k2 : XI2 W := by
      rw [hW]
      exact (xi2_u rfl hI.2.1)
    have k3 : XI3 W := by
      rw [hW]
      exact (xi3_u rfl hI.2.2.1)
    have kXA : XA W := by
      rw [hW]
      exact (uXA rfl hI.2.2.2.1)
    have k_xN1 : xN1 W := by
      rw [hW]
      exact (uxN1 rfl hI.2.2.2.2.1)
    have k_xN2 : xN2 W := by
      rw [hW]
      exact (uxN2 rfl hI.2.2.2.2.2.1)
    have k_xN3 : xN3 W := by
      rw [hW]
      exact (uxN3 rfl hI.2.2.2.2.2.2.1)
    have k_xN4 : xN4 W := by
      rw [hW]
      exact (uxN4 rfl hI.2.2.2.2.2.2.2.1)
    have k_xN5 : xN5 W := by
      rw [hW]
      exact (uxN5 rfl hI.2.2.2.2.2.2.2.2.1)
    have k_xN6 : xN6 W := by
      rw [hW]
      exact (uxN6 rfl hI.2.2.2.2.2.2.2.2.2.1)
    have k_xH1 : xH1 W := by
      rw [hW]
      exact (uxH1 rfl hI.2.2.2.2.2.2.2.2.2.2.1)
    have k_xK1 : xK1 W := by
      rw [hW]
      exact (uxK1 rfl hI.2.2.2.2.2.2.2.2.2.2.2.1)
    have k_xC1 : xC1 W := by
      rw [hW]
      exact (uxC1 rfl hI.2.2.2.2.2.2.2.2.2.2.2.2.1)
    have k_xRW : xRW W := by
      rw [hW]
      exact (uxRW rfl hI.2.2.2.2.2.2.2.2.2.2.2.2.2.1)
    have k_xWT : xWT W := by
      rw [hW]
      exact (uxWT rfl hI.2.2.2.2.2.2.2.2.2.2.2.2.2.2.1)
    have k_xCU : xCU W := by
      rw [hW]
      exact (uxCU rfl hI.2.2.2.2.2.2.2.2.2.2.2.2.2.2.2.1)
    have k_xG2 : xG2 W := by
      rw [hW]
      exact (uxG2 rfl hI.2.2.2.2.2.2.2.2.2.2.2.2.2.2.2.2.1)
    have k_xG3 : xG3 W := by
      rw [hW]
      exact (uxG3 rfl hI.2.2.2.2.2.2.2.2.2.2.2.2.2.2.2.2.2.1)
    have k_xG4 : xG4 W := by
      rw [hW]
      exact (uxG4 rfl hI.2.2.2.2.2.2.2.2.2.2.2.2.2.2.2.2.2.2.1)
    have k_xG5 : xG5 W := by
      rw [hW]
      exact (uxG5 rfl hI.2.2.2.2.2.2.2.2.2.2.2.2.2.2.2.2.2.2.2.1)
    have k_xG6 : xG6 W := by
      rw [hW]
      exact (uxG6 rfl hI.2.2.2.2.2.2.2.2.2.2.2.2.2.2.2.2.2.2.2.2.1)
    have k_xS1 : xS1 W := by
      rw [hW]
      exact (uxS1 rfl hI.2.2.2.2.2.2.2.2.2.2.2.2.2.2.2.2.2.2.2.2.2.1)
    have k_xS2 : xS2 W := by
      rw [hW]
      exact (uxS2 rfl hI.2.2.2.2.2.2.2.2.2.2.2.2.2.2.2.2.2.2.2.2.2.2.1)
    have k_xS3 : xS3 W := by
      rw [hW]
      exact (uxS3 rfl hI.2.2.2.2.2.2.2.2.2.2.2.2.2.2.2.2.2.2.2.2.2.2.2.1)
    have k_xS4 : xS4 W := by
      rw [hW]
      exact (uxS4 rfl hI.2.2.2.2.2.2.2.2.2.2.2.2.2.2.2.2.2.2.2.2.2.2.2.2.1)
    have k_xS5 : xS5 W := by
      rw [hW]
      exact (uxS5 rfl hI.2.2.2.2.2.2.2.2.2.2.2.2.2.2.2.2.2.2.2.2.2.2.2.2.2.1)
    have k_xS6 : xS6 W := by
      rw [hW]
      exact (uxS6 rfl hI.2.2.2.2.2.2.2.2.2.2.2.2.2.2.2.2.2.2.2.2.2.2.2.2.2.2.1)
    have k_xS7 : xS7 W := by
      rw [hW]
      exact (uxS7 rfl hI.2.2.2.2.2.2.2.2.2.2.2.2.2.2.2.2.2.2.2.2.2.2.2.2.2.2.2.1)
    have k_xS8 : xS8 W := by
      rw [hW]
      exact (uxS8 rfl hI.2.2.2.2.2.2.2.2.2.2.2.2.2.2.2.2.2.2.2.2.2.2.2.2.2.2.2.2.1)
    have k_xS9 : xS9 W := by
      rw [hW]
      exact (uxS9 rfl hI.2.2.2.2.2.2.2.2.2.2.2.2.2.2.2.2.2.2.2.2.2.2.2.2.2.2.2.2.2.1)
    have k_xSA : xSA W := by
      rw [hW]
      exact (uxSA rfl hI.2.2.2.2.2.2.2.2.2.2.2.2.2.2.2.2.2.2.2.2.2.2.2.2.2.2.2.2.2.2.1)
    have k_xSG : xSG W := by
      rw [hW]
      exact (uxSG rfl hI.2.2.2.2.2.2.2.2.2.2.2.2.2.2.2.2.2.2.2.2.2.2.2.2.2.2.2.2.2.2.2.1)
    have k_xSF : xSF W := by
      rw [hW]
      exact (uxSF rfl hI.2.2.2.2.2.2.2.2.2.2.2.2.2.2.2.2.2.2.2.2.2.2.2.2.2.2.2.2.2.2.2.2.1)
    have k_xSB : xSB W := by
      rw [hW]
      exact (uxSB rfl hI.2.2.2.2.2.2.2.2.2.2.2.2.2.2.2.2.2.2.2.2.2.2.2.2.2.2.2.2.2.2.2.2.2.1)
    have k_xSC : xSC W := by
      have r4_226 : W 4 226 = M 4 226 := by rw [hW, sU_ne (fun z => by omega)]
      have r4_227 : W 4 227 = 11 * ρ 0 + 0 := by rw [hW, sU_at]
      have r4_219 : W 4 219 = M 4 219 := by rw [hW, sU_ne (fun z => by omega)]
      intro h
      rw [r4_227, r4_219, h0]
      refine ⟨by omega, by omega, ?_⟩
      have e1 := tki_on (x := M 4 219) (w := 10) (show tLa[10]? = some (404455424 : Int) from rfl)
      rw [if_neg (by omega)] at e1
      rw [show M 4 227 = 10 by omega] at l3
      rw [← l3]
      exact e1.symm
    have k_xSD : xSD W := by
      rw [hW]
      exact (uxSD rfl hI.2.2.2.2.2.2.2.2.2.2.2.2.2.2.2.2.2.2.2.2.2.2.2.2.2.2.2.2.2.2.2.2.2.2.2.1)
    have k_xSE : xSE W := by
      rw [hW]
      exact (uxSE rfl hI.2.2.2.2.2.2.2.2.2.2.2.2.2.2.2.2.2.2.2.2.2.2.2.2.2.2.2.2.2.2.2.2.2.2.2.2.1)
    have k_xSW : xSW W := by
      rw [hW]
      exact (uxSW rfl hI.2.2.2.2.2.2.2.2.2.2.2.2.2.2.2.2.2.2.2.2.2.2.2.2.2.2.2.2.2.2.2.2.2.2.2.2.2.1)
    have k_xST : xST W := by
      rw [hW]
      exact (uxST rfl hI.2.2.2.2.2.2.2.2.2.2.2.2.2.2.2.2.2.2.2.2.2.2.2.2.2.2.2.2.2.2.2.2.2.2.2.2.2.2.1)
    have k_xSP : xSP W := by
      rw [hW]
      exact (uxSP rfl hI.2.2.2.2.2.2.2.2.2.2.2.2.2.2.2.2.2.2.2.2.2.2.2.2.2.2.2.2.2.2.2.2.2.2.2.2.2.2.2.1)
    have k_xSL : xSL W := by
      rw [hW]
      exact (uxSL rfl hI.2.2.2.2.2.2.2.2.2.2.2.2.2.2.2.2.2.2.2.2.2.2.2.2.2.2.2.2.2.2.2.2.2.2.2.2.2.2.2.2.1)
    have k_xSM : xSM W := by
      rw [hW]
      exact (uxSM rfl hI.2.2.2.2.2.2.2.2.2.2.2.2.2.2.2.2.2.2.2.2.2.2.2.2.2.2.2.2.2.2.2.2.2.2.2.2.2.2.2.2.2.1)
    have k_xSI : xSI W := by
      rw [hW]
      exact (uxSI rfl hI.2.2.2.2.2.2.2.2.2.2.2.2.2.2.2.2.2.2.2.2.2.2.2.2.2.2.2.2.2.2.2.2.2.2.2.2.2.2.2.2.2.2.1)
    have k_xD3 : xD3 W := by
      rw [hW]
      exact (uxD3 rfl hI.2.2.2.2.2.2.2.2.2.2.2.2.2.2.2.2.2.2.2.2.2.2.2.2.2.2.2.2.2.2.2.2.2.2.2.2.2.2.2.2.2.2.2.1)
    have k_xDV : xDV W := by
      rw [hW]
      exact (uxDV rfl hI.2.2.2.2.2.2.2.2.2.2.2.2.2.2.2.2.2.2.2.2.2.2.2.2.2.2.2.2.2.2.2.2.2.2.2.2.2.2.2.2.2.2.2.2.1)
    have k_xDP : xDP W := by
      rw [hW]
      exact (uxDP rfl hI.2.2.2.2.2.2.2.2.2.2.2.2.2.2.2.2.2.2.2.2.2.2.2.2.2.2.2.2.2.2.2.2.2.2.2.2.2.2.2.2.2.2.2.2.2.1)
    have k_xDE : xDE W := by
      rw [hW]
      exact (uxDE rfl hI.2.2.2.2.2.2.2.2.2.2.2.2.2.2.2.2.2.2.2.2.2.2.2.2.2.2.2.2.2.2.2.2.2.2.2.2.2.2.2.2.2.2.2.2.2.2.1)
    have k_xQ5 : xQ5 W := by
      rw [hW]
      exact (uxQ5 rfl hI.2.2.2.2.2.2.2.2.2.2.2.2.2.2.2.2.2.2.2.2.2.2.2.2.2.2.2.2.2.2.2.2.2.2.2.2.2.2.2.2.2.2.2.2.2.2.2.1)
    have k_xQL : xQL W := by
      rw [hW]
      exact (uxQL rfl hI.2.2.2.2.2.2.2.2.2.2.2.2.2.2.2.2.2.2.2.2.2.2.2.2.2.2.2.2.2.2.2.2.2.2.2.2.2.2.2.2.2.2.2.2.2.2.2.2.1)
    have k_xQW : xQW W := by
      rw [hW]
      exact (uxQW rfl hI.2.2.2.2.2.2.2.2.2.2.2.2.2.2.2.2.2.2.2.2.2.2.2.2.2.2.2.2.2.2.2.2.2.2.2.2.2.2.2.2.2.2.2.2.2.2.2.2.2.1)
    have k_xQM : xQM W := by
      rw [hW]
      exact (uxQM rfl hI.2.2.2.2.2.2.2.2.2.2.2.2.2.2.2.2.2.2.2.2.2.2.2.2.2.2.2.2.2.2.2.2.2.2.2.2.2.2.2.2.2.2.2.2.2.2.2.2.2.2.1)
    have k_xQH : xQH W := by
      rw [hW]
      exact (uxQH rfl hI.2.2.2.2.2.2.2.2.2.2.2.2.2.2.2.2.2.2.2.2.2.2.2.2.2.2.2.2.2.2.2.2.2.2.2.2.2.2.2.2.2.2.2.2.2.2.2.2.2.2.2)
    have k_XC : XC W := ⟨k_xS1, k_xS2, k_xS3, k_xS4, k_xS5, k_xS6, k_xS7, k_xS8, k_xS9, k_xSA, k_xSG, k_xSF, k_xSB, k_xSC, k_xSD, k_xSE, k_xSW, k_xST, k_xSP, k_xSL, k_xSM, k_xSI, k_xD3, k_xDV, k_xDP, k_xDE, k_xQ5, k_xQL, k_xQW, k_xQM, k_xQH⟩
    have kXB : XB W := ⟨k_xN1, k_xN2, k_xN3, k_xN4, k_xN5, k_xN6, k_xH1, k_xK1, k_xC1, k_xRW, k_xWT, k_xCU, k_xG2, k_xG3, k_xG4, k_xG5, k_xG6, k_XC⟩
    exact ⟨base, k2, k3, kXA, kXB⟩
-- wHitR11_c
def xr_440 : qRu := (13, [[(-1, 0), (1, 5)], [(1, 1)], [(-1, 1), (1, 9)], [(1, 1), (-1, 9)], [(-1, 0), (-1, 1), (1, 10)], [(6, 0), (1, 9), (-1, 10)], [(-781325312, 0), (1, 11)], [(781325312, 0), (-1, 11)]], [(4, 210, [(1, 0)]), (4, 211, [(1, 1)]), (4, 101, [(1, 2)]), (3, 46, [(1, 3)]), (3, 47, [(1, 4)]), (4, 100, [(1, 5)]), (3, 44, [(1, 6)]), (3, 45, [(1, 7)]), (4, 107, [(1, 8)]), (4, 214, [(1, 0)]), (4, 215, [(1, 9)]), (4, 217, [(1, 10)]), (4, 219, [(1, 11)]), (4, 216, [(1, 12)])], [], [], [[(-1, 1), (1, 3)], [(1, 1), (-1, 3)], [(1, 4), (-1, 10)], [(-1, 4), (1, 10)], [(-29, 0), (1, 6)], [(29, 0), (-1, 6)], [(1, 7), (-1, 11)], [(-1, 7), (1, 11)]])
theorem xo_440 : qRok xr_440 := by
  intro ρ M h0 hf hm hI
  have f0 := hf [(-1, 0), (1, 5)] (by decide)
  have f1 := hf [(1, 1)] (by decide)
  have f2 := hf [(-1, 1), (1, 9)] (by decide)
  have f3 := hf [(1, 1), (-1, 9)] (by decide)
  have f4 := hf [(-1, 0), (-1, 1), (1, 10)] (by decide)
  have f5 := hf [(6, 0), (1, 9), (-1, 10)] (by decide)
  have f6 := hf [(-781325312, 0), (1, 11)] (by decide)
  have f7 := hf [(781325312, 0), (-1, 11)] (by decide)
  simp only [qD, h0] at f0 f1 f2 f3 f4 f5 f6 f7
  have m0 : M 4 210 = 1 * ρ 0 + 0 := hm (4, 210, [(1, 0)]) (by decide)
  have m1 : M 4 211 = 1 * ρ 1 + 0 := hm (4, 211, [(1, 1)]) (by decide)
  have m2 : M 4 101 = 1 * ρ 2 + 0 := hm (4, 101, [(1, 2)]) (by decide)
  have m3 : M 3 46 = 1 * ρ 3 + 0 := hm (3, 46, [(1, 3)]) (by decide)
  have m4 : M 3 47 = 1 * ρ 4 + 0 := hm (3, 47, [(1, 4)]) (by decide)
  have m5 : M 4 100 = 1 * ρ 5 + 0 := hm (4, 100, [(1, 5)]) (by decide)
  have m6 : M 3 44 = 1 * ρ 6 + 0 := hm (3, 44, [(1, 6)]) (by decide)
  have m7 : M 3 45 = 1 * ρ 7 + 0 := hm (3, 45, [(1, 7)]) (by decide)
  have m8 : M 4 107 = 1 * ρ 8 + 0 := hm (4, 107, [(1, 8)]) (by decide)
  have m9 : M 4 214 = 1 * ρ 0 + 0 := hm (4, 214, [(1, 0)]) (by decide)
  have m10 : M 4 215 = 1 * ρ 9 + 0 := hm (4, 215, [(1, 9)]) (by decide)
  have m11 : M 4 217 = 1 * ρ 10 + 0 := hm (4, 217, [(1, 10)]) (by decide)
  have m12 : M 4 219 = 1 * ρ 11 + 0 := hm (4, 219, [(1, 11)]) (by decide)
  have m13 : M 4 216 = 1 * ρ 12 + 0 := hm (4, 216, [(1, 12)]) (by decide)
  simp only [h0] at m0 m9
  obtain ⟨u1, u2, _⟩ := gx_xS8 hI (by omega)

  obtain ⟨a1, a2, a3, a4, a5, a6, a7⟩ := gx_xSA hI (by omega)
  have eq1 : (M 4 215).toNat = (M 4 211).toNat := by omega
  rw [eq1] at a6 a7
  have hgt := ten_gt (g := M 92) (lo := 97) (hi := 122) (n := (M 4 101).toNat) (q := (M 4 211).toNat) (by omega)
  have el1 : (M 4 217 - M 4 215).toNat = tEn (M 92) 97 122 (M 4 101).toNat (M 4 211).toNat - (M 4 211).toNat := by omega
  rw [el1] at a7

  obtain ⟨t1, t2, t3, t4, t5, t6⟩ := tk_of hI (by omega) (by omega) (by omega) (show tAt (M 92) (M 4 101).toNat (M 4 211).toNat (M 4 107) (M 4 108) = (29, M 4 219, ((M 4 211).toNat : Int), M 4 217, 0, 11) from by
    unfold tAt
    rw [if_neg (by omega), if_pos hgt.2]
    unfold tWo
    rw [← a7, ← a6]
    have hk : tKi (M 4 219) 0 = 29 := by
      rw [show M 4 219 = 781325312 by omega]
      decide
    have h6 : ¬ (6 < tEn (M 92) 97 122 (M 4 101).toNat (M 4 211).toNat - (M 4 211).toNat) := by omega
    unfold tWk tWs tWv
    rw [if_neg h6, if_neg h6, if_neg h6, hk]
    rfl)
  refine ⟨ρ, fun _ _ => rfl, fun f h => ?_, ?_⟩
  · have h : f ∈ ([[(-1, 1), (1, 3)], [(1, 1), (-1, 3)], [(1, 4), (-1, 10)], [(-1, 4), (1, 10)], [(-29, 0), (1, 6)], [(29, 0), (-1, 6)], [(1, 7), (-1, 11)], [(-1, 7), (1, 11)]] : List qF) := h
    simp only [List.mem_cons, List.not_mem_nil, or_false] at h
    rcases h with rfl | rfl | rfl | rfl | rfl | rfl | rfl | rfl
    · show 0 ≤ -1 * ρ 1 + (1 * ρ 3 + 0)
      (try rw [h0]); omega
    · show 0 ≤ 1 * ρ 1 + (-1 * ρ 3 + 0)
      (try rw [h0]); omega
    · show 0 ≤ 1 * ρ 4 + (-1 * ρ 10 + 0)
      (try rw [h0]); omega
    · show 0 ≤ -1 * ρ 4 + (1 * ρ 10 + 0)
      (try rw [h0]); omega
    · show 0 ≤ -29 * ρ 0 + (1 * ρ 6 + 0)
      (try rw [h0]); omega
    · show 0 ≤ 29 * ρ 0 + (-1 * ρ 6 + 0)
      (try rw [h0]); omega
    · show 0 ≤ 1 * ρ 7 + (-1 * ρ 11 + 0)
      (try rw [h0]); omega
    · show 0 ≤ -1 * ρ 7 + (1 * ρ 11 + 0)
      (try rw [h0]); omega
  · show sI M
    exact hI
-- wHitR11_r
def xr_441 : qRu := (13, [[(-1, 0), (1, 5)], [(1, 1)], [(-1, 1), (1, 9)], [(1, 1), (-1, 9)], [(-1, 0), (-1, 1), (1, 10)], [(6, 0), (1, 9), (-1, 10)], [(-781325312, 0), (1, 11)], [(781325312, 0), (-1, 11)]], [(4, 210, [(1, 0)]), (4, 211, [(1, 1)]), (4, 101, [(1, 2)]), (3, 46, [(1, 3)]), (3, 47, [(1, 4)]), (4, 100, [(1, 5)]), (3, 50, [(1, 6)]), (3, 51, [(1, 7)]), (4, 108, [(1, 8)]), (4, 214, [(1, 0)]), (4, 215, [(1, 9)]), (4, 217, [(1, 10)]), (4, 219, [(1, 11)]), (4, 216, [(1, 12)])], [], [], [[(-1, 1), (1, 3)], [(1, 1), (-1, 3)], [(1, 4), (-1, 10)], [(-1, 4), (1, 10)], [(1, 6)], [(-1, 6)], [(-11, 0), (1, 7)], [(11, 0), (-1, 7)]])
theorem xo_441 : qRok xr_441 := by
  intro ρ M h0 hf hm hI
  have f0 := hf [(-1, 0), (1, 5)] (by decide)
  have f1 := hf [(1, 1)] (by decide)
  have f2 := hf [(-1, 1), (1, 9)] (by decide)
  have f3 := hf [(1, 1), (-1, 9)] (by decide)
  have f4 := hf [(-1, 0), (-1, 1), (1, 10)] (by decide)
  have f5 := hf [(6, 0), (1, 9), (-1, 10)] (by decide)
  have f6 := hf [(-781325312, 0), (1, 11)] (by decide)
  have f7 := hf [(781325312, 0), (-1, 11)] (by decide)
  simp only [qD, h0] at f0 f1 f2 f3 f4 f5 f6 f7
  have m0 : M 4 210 = 1 * ρ 0 + 0 := hm (4, 210, [(1, 0)]) (by decide)
  have m1 : M 4 211 = 1 * ρ 1 + 0 := hm (4, 211, [(1, 1)]) (by decide)
  have m2 : M 4 101 = 1 * ρ 2 + 0 := hm (4, 101, [(1, 2)]) (by decide)
  have m3 : M 3 46 = 1 * ρ 3 + 0 := hm (3, 46, [(1, 3)]) (by decide)
  have m4 : M 3 47 = 1 * ρ 4 + 0 := hm (3, 47, [(1, 4)]) (by decide)
  have m5 : M 4 100 = 1 * ρ 5 + 0 := hm (4, 100, [(1, 5)]) (by decide)
  have m6 : M 3 50 = 1 * ρ 6 + 0 := hm (3, 50, [(1, 6)]) (by decide)
  have m7 : M 3 51 = 1 * ρ 7 + 0 := hm (3, 51, [(1, 7)]) (by decide)
  have m8 : M 4 108 = 1 * ρ 8 + 0 := hm (4, 108, [(1, 8)]) (by decide)
  have m9 : M 4 214 = 1 * ρ 0 + 0 := hm (4, 214, [(1, 0)]) (by decide)
  have m10 : M 4 215 = 1 * ρ 9 + 0 := hm (4, 215, [(1, 9)]) (by decide)
  have m11 : M 4 217 = 1 * ρ 10 + 0 := hm (4, 217, [(1, 10)]) (by decide)
  have m12 : M 4 219 = 1 * ρ 11 + 0 := hm (4, 219, [(1, 11)]) (by decide)
  have m13 : M 4 216 = 1 * ρ 12 + 0 := hm (4, 216, [(1, 12)]) (by decide)
  simp only [h0] at m0 m9
  obtain ⟨u1, u2, _⟩ := gx_xS8 hI (by omega)

  obtain ⟨a1, a2, a3, a4, a5, a6, a7⟩ := gx_xSA hI (by omega)
  have eq1 : (M 4 215).toNat = (M 4 211).toNat := by omega
  rw [eq1] at a6 a7
  have hgt := ten_gt (g := M 92) (lo := 97) (hi := 122) (n := (M 4 101).toNat) (q := (M 4 211).toNat) (by omega)
  have el1 : (M 4 217 - M 4 215).toNat = tEn (M 92) 97 122 (M 4 101).toNat (M 4 211).toNat - (M 4 211).toNat := by omega
  rw [el1] at a7

  obtain ⟨t1, t2, t3, t4, t5, t6⟩ := tk_of hI (by omega) (by omega) (by omega) (show tAt (M 92) (M 4 101).toNat (M 4 211).toNat (M 4 107) (M 4 108) = (29, M 4 219, ((M 4 211).toNat : Int), M 4 217, 0, 11) from by
    unfold tAt
    rw [if_neg (by omega), if_pos hgt.2]
    unfold tWo
    rw [← a7, ← a6]
    have hk : tKi (M 4 219) 0 = 29 := by
      rw [show M 4 219 = 781325312 by omega]
      decide
    have h6 : ¬ (6 < tEn (M 92) 97 122 (M 4 101).toNat (M 4 211).toNat - (M 4 211).toNat) := by omega
    unfold tWk tWs tWv
    rw [if_neg h6, if_neg h6, if_neg h6, hk]
    rfl)
  refine ⟨ρ, fun _ _ => rfl, fun f h => ?_, ?_⟩
  · have h : f ∈ ([[(-1, 1), (1, 3)], [(1, 1), (-1, 3)], [(1, 4), (-1, 10)], [(-1, 4), (1, 10)], [(1, 6)], [(-1, 6)], [(-11, 0), (1, 7)], [(11, 0), (-1, 7)]] : List qF) := h
    simp only [List.mem_cons, List.not_mem_nil, or_false] at h
    rcases h with rfl | rfl | rfl | rfl | rfl | rfl | rfl | rfl
    · show 0 ≤ -1 * ρ 1 + (1 * ρ 3 + 0)
      (try rw [h0]); omega
    · show 0 ≤ 1 * ρ 1 + (-1 * ρ 3 + 0)
      (try rw [h0]); omega
    · show 0 ≤ 1 * ρ 4 + (-1 * ρ 10 + 0)
      (try rw [h0]); omega
    · show 0 ≤ -1 * ρ 4 + (1 * ρ 10 + 0)
      (try rw [h0]); omega
    · show 0 ≤ 1 * ρ 6 + 0
      (try rw [h0]); omega
    · show 0 ≤ -1 * ρ 6 + 0
      (try rw [h0]); omega
    · show 0 ≤ -11 * ρ 0 + (1 * ρ 7 + 0)
      (try rw [h0]); omega
    · show 0 ≤ 11 * ρ 0 + (-1 * ρ 7 + 0)
      (try rw [h0]); omega
  · show sI M
    exact hI
-- langMissR11L
def xr_442 : qRu := (3, [[(781325311, 0), (-1, 2)]], [(4, 226, [(1, 0)]), (4, 227, [(11, 0)]), (4, 219, [(1, 2)])], [], [(4, 227, [(12, 0)])], [])
theorem xo_442 : qRok xr_442 := by
  intro ρ M h0 hf hm hI
  have f0 := hf [(781325311, 0), (-1, 2)] (by decide)
  simp only [qD, h0] at f0
  have m0 : M 4 226 = 1 * ρ 0 + 0 := hm (4, 226, [(1, 0)]) (by decide)
  have m1 : M 4 227 = 11 * ρ 0 + 0 := hm (4, 227, [(11, 0)]) (by decide)
  have m2 : M 4 219 = 1 * ρ 2 + 0 := hm (4, 219, [(1, 2)]) (by decide)
  simp only [h0] at m0 m1
  have qxSC := hI.2.2.2.2.2.2.2.2.2.2.2.2.2.2.2.2.2.2.2.2.2.2.2.2.2.2.2.2.2.2.2.2.2.2.1
  obtain ⟨l1, l2, l3⟩ := gx_xSC hI (by omega)
  refine ⟨ρ, fun _ _ => rfl, fun f h => ?_, ?_⟩
  · exact nomatch h
  · show sI (sU M 4 227 (12 * ρ 0 + 0))
    obtain ⟨W, hW⟩ : ∃ W, W = (sU M 4 227 (12 * ρ 0 + 0)) := ⟨_, rfl⟩
    rw [← hW]
    have base : sI0 W := by
      rw [hW]
      exact (si_u0 hI.1 (fun r hr => by cases hr))
    have k2 : XI2 W := by
      rw [hW]
      exact (xi2_u rfl hI.2.1)
    have k3 : XI3 W := by
      rw [hW]
      exact (xi3_u rfl hI.2.2.1)
    have kXA : XA W := by
      rw [hW]
      exact (uXA rfl hI.2.2.2.1)
    have k_xN1 : xN1 W := by
      rw [hW]
      exact (uxN1 rfl hI.2.2.2.2.1)
    have k_xN2 : xN2 W := by
      rw [hW]
      exact (uxN2 rfl hI.2.2.2.2.2.1)
    have k_xN3 : xN3 W := by
      rw [hW]
      exact (uxN3 rfl hI.2.2.2.2.2.2.1)
    have k_xN4 : xN4 W := by
      rw [hW]
      exact (uxN4 rfl hI.2.2.2.2.2.2.2.1)
    have k_xN5 : xN5 W := by
      rw [hW]
      exact (uxN5 rfl hI.2.2.2.2.2.2.2.2.1)
    have k_xN6 : xN6 W := by
      rw [hW]
      exact (uxN6 rfl hI.2.2.2.2.2.2.2.2.2.1)
    have k_xH1 : xH1 W := by
      rw [hW]
      exact (uxH1 rfl hI.2.2.2.2.2.2.2.2.2.2.1)
    have k_xK1 : xK1 W := by
      rw [hW]
      exact (uxK1 rfl hI.2.2.2.2.2.2.2.2.2.2.2.1)
    have k_xC1 : xC1 W := by
      rw [hW]
      exact (uxC1 rfl hI.2.2.2.2.2.2.2.2.2.2.2.2.1)
    have k_xRW : xRW W := by
      rw [hW]
      exact (uxRW rfl hI.2.2.2.2.2.2.2.2.2.2.2.2.2.1)
    have k_xWT : xWT W := by
      rw [hW]
      exact (uxWT rfl hI.2.2.2.2.2.2.2.2.2.2.2.2.2.2.1)
    have k_xCU : xCU W := by
      rw [hW]
      exact (uxCU rfl hI.2.2.2.2.2.2.2.2.2.2.2.2.2.2.2.1)
    have k_xG2 : xG2 W := by
      rw [hW]
      exact (uxG2 rfl hI.2.2.2.2.2.2.2.2.2.2.2.2.2.2.2.2.1)
    have k_xG3 : xG3 W := by
      rw [hW]
      exact (uxG3 rfl hI.2.2.2.2.2.2.2.2.2.2.2.2.2.2.2.2.2.1)
    have k_xG4 : xG4 W := by
      rw [hW]
      exact (uxG4 rfl hI.2.2.2.2.2.2.2.2.2.2.2.2.2.2.2.2.2.2.1)
    have k_xG5 : xG5 W := by
      rw [hW]
      exact (uxG5 rfl hI.2.2.2.2.2.2.2.2.2.2.2.2.2.2.2.2.2.2.2.1)
    have k_xG6 : xG6 W := by
      rw [hW]
      exact (uxG6 rfl hI.2.2.2.2.2.2.2.2.2.2.2.2.2.2.2.2.2.2.2.2.1)
    have k_xS1 : xS1 W := by
      rw [hW]
      exact (uxS1 rfl hI.2.2.2.2.2.2.2.2.2.2.2.2.2.2.2.2.2.2.2.2.2.1)
    have k_xS2 : xS2 W := by
      rw [hW]
      exact (uxS2 rfl hI.2.2.2.2.2.2.2.2.2.2.2.2.2.2.2.2.2.2.2.2.2.2.1)
    have k_xS3 : xS3 W := by
      rw [hW]
      exact (uxS3 rfl hI.2.2.2.2.2.2.2.2.2.2.2.2.2.2.2.2.2.2.2.2.2.2.2.1)
    have k_xS4 : xS4 W := by
      rw [hW]
      exact (uxS4 rfl hI.2.2.2.2.2.2.2.2.2.2.2.2.2.2.2.2.2.2.2.2.2.2.2.2.1)
    have k_xS5 : xS5 W := by
      rw [hW]
      exact (uxS5 rfl hI.2.2.2.2.2.2.2.2.2.2.2.2.2.2.2.2.2.2.2.2.2.2.2.2.2.1)
    have k_xS6 : xS6 W := by
      rw [hW]
      exact (uxS6 rfl hI.2.2.2.2.2.2.2.2.2.2.2.2.2.2.2.2.2.2.2.2.2.2.2.2.2.2.1)
    have k_xS7 : xS7 W := by
      rw [hW]
      exact (uxS7 rfl hI.2.2.2.2.2.2.2.2.2.2.2.2.2.2.2.2.2.2.2.2.2.2.2.2.2.2.2.1)
    have k_xS8 : xS8 W := by
      rw [hW]
      exact (uxS8 rfl hI.2.2.2.2.2.2.2.2.2.2.2.2.2.2.2.2.2.2.2.2.2.2.2.2.2.2.2.2.1)
    have k_xS9 : xS9 W := by
      rw [hW]
      exact (uxS9 rfl hI.2.2.2.2.2.2.2.2.2.2.2.2.2.2.2.2.2.2.2.2.2.2.2.2.2.2.2.2.2.1)
    have k_xSA : xSA W := by
      rw [hW]
      exact (uxSA rfl hI.2.2.2.2.2.2.2.2.2.2.2.2.2.2.2.2.2.2.2.2.2.2.2.2.2.2.2.2.2.2.1)
    have k_xSG : xSG W := by
      rw [hW]
      exact (uxSG rfl hI.2.2.2.2.2.2.2.2.2.2.2.2.2.2.2.2.2.2.2.2.2.2.2.2.2.2.2.2.2.2.2.1)
    have k_xSF : xSF W := by
      rw [hW]
      exact (uxSF rfl hI.2.2.2.2.2.2.2.2.2.2.2.2.2.2.2.2.2.2.2.2.2.2.2.2.2.2.2.2.2.2.2.2.1)
    have k_xSB : xSB W := by
      rw [hW]
      exact (uxSB rfl hI.2.2.2.2.2.2.2.2.2.2.2.2.2.2.2.2.2.2.2.2.2.2.2.2.2.2.2.2.2.2.2.2.2.1)
    have k_xSC : xSC W := by
      have r4_226 : W 4 226 = M 4 226 := by rw [hW, sU_ne (fun z => by omega)]
      have r4_227 : W 4 227 = 12 * ρ 0 + 0 := by rw [hW, sU_at]
      have r4_219 : W 4 219 = M 4 219 := by rw [hW, sU_ne (fun z => by omega)]
      intro h
      rw [r4_227, r4_219, h0]
      refine ⟨by omega, by omega, ?_⟩
      have e1 := tki_on (x := M 4 219) (w := 11) (show tLa[11]? = some (781325312 : Int) from rfl)
      rw [if_neg (by omega)] at e1
      rw [show M 4 227 = 11 by omega] at l3
      rw [← l3]
      exact e1.symm
    have k_xSD : xSD W := by
      rw [hW]
      exact (uxSD rfl hI.2.2.2.2.2.2.2.2.2.2.2.2.2.2.2.2.2.2.2.2.2.2.2.2.2.2.2.2.2.2.2.2.2.2.2.1)
    have k_xSE : xSE W := by
      rw [hW]
      exact (uxSE rfl hI.2.2.2.2.2.2.2.2.2.2.2.2.2.2.2.2.2.2.2.2.2.2.2.2.2.2.2.2.2.2.2.2.2.2.2.2.1)
    have k_xSW : xSW W := by
      rw [hW]
      exact (uxSW rfl hI.2.2.2.2.2.2.2.2.2.2.2.2.2.2.2.2.2.2.2.2.2.2.2.2.2.2.2.2.2.2.2.2.2.2.2.2.2.1)
    have k_xST : xST W := by
      rw [hW]
      exact (uxST rfl hI.2.2.2.2.2.2.2.2.2.2.2.2.2.2.2.2.2.2.2.2.2.2.2.2.2.2.2.2.2.2.2.2.2.2.2.2.2.2.1)
    have k_xSP : xSP W := by
      rw [hW]
      exact (uxSP rfl hI.2.2.2.2.2.2.2.2.2.2.2.2.2.2.2.2.2.2.2.2.2.2.2.2.2.2.2.2.2.2.2.2.2.2.2.2.2.2.2.1)
    have k_xSL : xSL W := by
      rw [hW]
      exact (uxSL rfl hI.2.2.2.2.2.2.2.2.2.2.2.2.2.2.2.2.2.2.2.2.2.2.2.2.2.2.2.2.2.2.2.2.2.2.2.2.2.2.2.2.1)
    have k_xSM : xSM W := by
      rw [hW]
      exact (uxSM rfl hI.2.2.2.2.2.2.2.2.2.2.2.2.2.2.2.2.2.2.2.2.2.2.2.2.2.2.2.2.2.2.2.2.2.2.2.2.2.2.2.2.2.1)
    have k_xSI : xSI W := by
      rw [hW]
      exact (uxSI rfl hI.2.2.2.2.2.2.2.2.2.2.2.2.2.2.2.2.2.2.2.2.2.2.2.2.2.2.2.2.2.2.2.2.2.2.2.2.2.2.2.2.2.2.1)
    have k_xD3 : xD3 W := by
      rw [hW]
      exact (uxD3 rfl hI.2.2.2.2.2.2.2.2.2.2.2.2.2.2.2.2.2.2.2.2.2.2.2.2.2.2.2.2.2.2.2.2.2.2.2.2.2.2.2.2.2.2.2.1)
    have k_xDV : xDV W := by
      rw [hW]
      exact (uxDV rfl hI.2.2.2.2.2.2.2.2.2.2.2.2.2.2.2.2.2.2.2.2.2.2.2.2.2.2.2.2.2.2.2.2.2.2.2.2.2.2.2.2.2.2.2.2.1)
    have k_xDP : xDP W := by
      rw [hW]
      exact (uxDP rfl hI.2.2.2.2.2.2.2.2.2.2.2.2.2.2.2.2.2.2.2.2.2.2.2.2.2.2.2.2.2.2.2.2.2.2.2.2.2.2.2.2.2.2.2.2.2.1)
    have k_xDE : xDE W := by
      rw [hW]
      exact (uxDE rfl hI.2.2.2.2.2.2.2.2.2.2.2.2.2.2.2.2.2.2.2.2.2.2.2.2.2.2.2.2.2.2.2.2.2.2.2.2.2.2.2.2.2.2.2.2.2.2.1)
    have k_xQ5 : xQ5 W := by
      rw [hW]
      exact (uxQ5 rfl hI.2.2.2.2.2.2.2.2.2.2.2.2.2.2.2.2.2.2.2.2.2.2.2.2.2.2.2.2.2.2.2.2.2.2.2.2.2.2.2.2.2.2.2.2.2.2.2.1)
    have k_xQL : xQL W := by
      rw [hW]
      exact (uxQL rfl hI.2.2.2.2.2.2.2.2.2.2.2.2.2.2.2.2.2.2.2.2.2.2.2.2.2.2.2.2.2.2.2.2.2.2.2.2.2.2.2.2.2.2.2.2.2.2.2.2.1)
    have k_xQW : xQW W := by
      rw [hW]
      exact (uxQW rfl hI.2.2.2.2.2.2.2.2.2.2.2.2.2.2.2.2.2.2.2.2.2.2.2.2.2.2.2.2.2.2.2.2.2.2.2.2.2.2.2.2.2.2.2.2.2.2.2.2.2.1)
    have k_xQM : xQM W := by
      rw [hW]
      exact (uxQM rfl hI.2.2.2.2.2.2.2.2.2.2.2.2.2.2.2.2.2.2.2.2.2.2.2.2.2.2.2.2.2.2.2.2.2.2.2.2.2.2.2.2.2.2.2.2.2.2.2.2.2.2.1)
    have k_xQH : xQH W := by
      rw [hW]
      exact (uxQH rfl hI.2.2.2.2.2.2.2.2.2.2.2.2.2.2.2.2.2.2.2.2.2.2.2.2.2.2.2.2.2.2.2.2.2.2.2.2.2.2.2.2.2.2.2.2.2.2.2.2.2.2.2)
    have k_XC : XC W := ⟨k_xS1, k_xS2, k_xS3, k_xS4, k_xS5, k_xS6, k_xS7, k_xS8, k_xS9, k_xSA, k_xSG, k_xSF, k_xSB, k_xSC, k_xSD, k_xSE, k_xSW, k_xST, k_xSP, k_xSL, k_xSM, k_xSI, k_xD3, k_xDV, k_xDP, k_xDE, k_xQ5, k_xQL, k_xQW, k_xQM, k_xQH⟩
    have kXB : XB W := ⟨k_xN1, k_xN2, k_xN3, k_xN4, k_xN5, k_xN6, k_xH1, k_xK1, k_xC1, k_xRW, k_xWT, k_xCU, k_xG2, k_xG3, k_xG4, k_xG5, k_xG6, k_XC⟩
    exact ⟨base, k2, k3, kXA, kXB⟩
-- langMissR11H
def xr_443 : qRu := (3, [[(-781325313, 0), (1, 2)]], [(4, 226, [(1, 0)]), (4, 227, [(11, 0)]), (4, 219, [(1, 2)])], [], [(4, 227, [(12, 0)])], [])
theorem xo_443 : qRok xr_443 := by
  intro ρ M h0 hf hm hI
  have f0 := hf [(-781325313, 0), (1, 2)] (by decide)
  simp only [qD, h0] at f0
  have m0 : M 4 226 = 1 * ρ 0 + 0 := hm (4, 226, [(1, 0)]) (by decide)
  have m1 : M 4 227 = 11 * ρ 0 + 0 := hm (4, 227, [(11, 0)]) (by decide)
  have m2 : M 4 219 = 1 * ρ 2 + 0 := hm (4, 219, [(1, 2)]) (by decide)
  simp only [h0] at m0 m1
  have qxSC := hI.2.2.2.2.2.2.2.2.2.2.2.2.2.2.2.2.2.2.2.2.2.2.2.2.2.2.2.2.2.2.2.2.2.2.1
  obtain ⟨l1, l2, l3⟩ := gx_xSC hI (by omega)
  refine ⟨ρ, fun _ _ => rfl, fun f h => ?_, ?_⟩
  · exact nomatch h
  · show sI (sU M 4 227 (12 * ρ 0 + 0))
    obtain ⟨W, hW⟩ : ∃ W, W = (sU M 4 227 (12 * ρ 0 + 0)) := ⟨_, rfl⟩
    rw [← hW]
    have base : sI0 W := by
      rw [hW]
      exact (si_u0 hI.1 (fun r hr => by cases hr))
    have k2 : XI2 W := by
      rw [hW]
      exact (xi2_u rfl hI.2.1)
    have k3 : XI3 W := by
      rw [hW]
      exact (xi3_u rfl hI.2.2.1)
    have kXA : XA W := by
      rw [hW]
      exact (uXA rfl hI.2.2.2.1)
    have k_xN1 : xN1 W := by
      rw [hW]
      exact (uxN1 rfl hI.2.2.2.2.1)
    have k_xN2 : xN2 W := by
      rw [hW]
      exact (uxN2 rfl hI.2.2.2.2.2.1)
    have k_xN3 : xN3 W := by
      rw [hW]
      exact (uxN3 rfl hI.2.2.2.2.2.2.1)
    have k_xN4 : xN4 W := by
      rw [hW]
      exact (uxN4 rfl hI.2.2.2.2.2.2.2.1)
    have k_xN5 : xN5 W := by
      rw [hW]
      exact (uxN5 rfl hI.2.2.2.2.2.2.2.2.1)
    have k_xN6 : xN6 W := by
      rw [hW]
      exact (uxN6 rfl hI.2.2.2.2.2.2.2.2.2.1)
    have k_xH1 : xH1 W := by
      rw [hW]
      exact (uxH1 rfl hI.2.2.2.2.2.2.2.2.2.2.1)
    have k_xK1 : xK1 W := by
      rw [hW]
      exact (uxK1 rfl hI.2.2.2.2.2.2.2.2.2.2.2.1)
    have k_xC1 : xC1 W := by
      rw [hW]
      exact (uxC1 rfl hI.2.2.2.2.2.2.2.2.2.2.2.2.1)
    have k_xRW : xRW W := by
      rw [hW]
      exact (uxRW rfl hI.2.2.2.2.2.2.2.2.2.2.2.2.2.1)
    have k_xWT : xWT W := by
      rw [hW]
      exact (uxWT rfl hI.2.2.2.2.2.2.2.2.2.2.2.2.2.2.1)
    have k_xCU : xCU W := by
      rw [hW]
      exact (uxCU rfl hI.2.2.2.2.2.2.2.2.2.2.2.2.2.2.2.1)
    have k_xG2 : xG2 W := by
      rw [hW]
      exact (uxG2 rfl hI.2.2.2.2.2.2.2.2.2.2.2.2.2.2.2.2.1)
    have k_xG3 : xG3 W := by
      rw [hW]
      exact (uxG3 rfl hI.2.2.2.2.2.2.2.2.2.2.2.2.2.2.2.2.2.1)
    have k_xG4 : xG4 W := by
      rw [hW]
      exact (uxG4 rfl hI.2.2.2.2.2.2.2.2.2.2.2.2.2.2.2.2.2.2.1)
    have k_xG5 : xG5 W := by
      rw [hW]
      exact (uxG5 rfl hI.2.2.2.2.2.2.2.2.2.2.2.2.2.2.2.2.2.2.2.1)
    have k_xG6 : xG6 W := by
      rw [hW]
      exact (uxG6 rfl hI.2.2.2.2.2.2.2.2.2.2.2.2.2.2.2.2.2.2.2.2.1)
    have k_xS1 : xS1 W := by
      rw [hW]
      exact (uxS1 rfl hI.2.2.2.2.2.2.2.2.2.2.2.2.2.2.2.2.2.2.2.2.2.1)
    have k_xS2 : xS2 W := by
      rw [hW]
      exact (uxS2 rfl hI.2.2.2.2.2.2.2.2.2.2.2.2.2.2.2.2.2.2.2.2.2.2.1)
    have k_xS3 : xS3 W := by
      rw [hW]
      exact (uxS3 rfl hI.2.2.2.2.2.2.2.2.2.2.2.2.2.2.2.2.2.2.2.2.2.2.2.1)
    have k_xS4 : xS4 W := by
      rw [hW]
      exact (uxS4 rfl hI.2.2.2.2.2.2.2.2.2.2.2.2.2.2.2.2.2.2.2.2.2.2.2.2.1)
    have k_xS5 : xS5 W := by
      rw [hW]
      exact (uxS5 rfl hI.2.2.2.2.2.2.2.2.2.2.2.2.2.2.2.2.2.2.2.2.2.2.2.2.2.1)
    have k_xS6 : xS6 W := by
      rw [hW]
      exact (uxS6 rfl hI.2.2.2.2.2.2.2.2.2.2.2.2.2.2.2.2.2.2.2.2.2.2.2.2.2.2.1)
    have k_xS7 : xS7 W := by
      rw [hW]
      exact (uxS7 rfl hI.2.2.2.2.2.2.2.2.2.2.2.2.2.2.2.2.2.2.2.2.2.2.2.2.2.2.2.1)
    have k_xS8 : xS8 W := by
      rw [hW]
      exact (uxS8 rfl hI.2.2.2.2.2.2.2.2.2.2.2.2.2.2.2.2.2.2.2.2.2.2.2.2.2.2.2.2.1)
    have k_xS9 : xS9 W := by
      rw [hW]
      exact (uxS9 rfl hI.2.2.2.2.2.2.2.2.2.2.2.2.2.2.2.2.2.2.2.2.2.2.2.2.2.2.2.2.2.1)
    have k_xSA : xSA W := by
      rw [hW]
      exact (uxSA rfl hI.2.2.2.2.2.2.2.2.2.2.2.2.2.2.2.2.2.2.2.2.2.2.2.2.2.2.2.2.2.2.1)
    have k_xSG : xSG W := by
      rw [hW]
      exact (uxSG rfl hI.2.2.2.2.2.2.2.2.2.2.2.2.2.2.2.2.2.2.2.2.2.2.2.2.2.2.2.2.2.2.2.1)
    have k_xSF : xSF W := by
      rw [hW]
      exact (uxSF rfl hI.2.2.2.2.2.2.2.2.2.2.2.2.2.2.2.2.2.2.2.2.2.2.2.2.2.2.2.2.2.2.2.2.1)
    have k_xSB : xSB W := by
      rw [hW]
      exact (uxSB rfl hI.2.2.2.2.2.2.2.2.2.2.2.2.2.2.2.2.2.2.2.2.2.2.2.2.2.2.2.2.2.2.2.2.2.1)
    have k_xSC : xSC W := by
      have r4_226 : W 4 226 = M 4 226 := by rw [hW, sU_ne (fun z => by omega)]
      have r4_227 : W 4 227 = 12 * ρ 0 + 0 := by rw [hW, sU_at]
      have r4_219 : W 4 219 = M 4 219 := by rw [hW, sU_ne (fun z => by omega)]
      intro h
      rw [r4_227, r4_219, h0]
      refine ⟨by omega, by omega, ?_⟩
      have e1 := tki_on (x := M 4 219) (w := 11) (show tLa[11]? = some (781325312 : Int) from rfl)
      rw [if_neg (by omega)] at e1
      rw [show M 4 227 = 11 by omega] at l3
      rw [← l3]
      exact e1.symm
    have k_xSD : xSD W := by
      rw [hW]
      exact (uxSD rfl hI.2.2.2.2.2.2.2.2.2.2.2.2.2.2.2.2.2.2.2.2.2.2.2.2.2.2.2.2.2.2.2.2.2.2.2.1)
    have k_xSE : xSE W := by
      rw [hW]
      exact (uxSE rfl hI.2.2.2.2.2.2.2.2.2.2.2.2.2.2.2.2.2.2.2.2.2.2.2.2.2.2.2.2.2.2.2.2.2.2.2.2.1)
    have k_xSW : xSW W := by
      rw [hW]
      exact (uxSW rfl hI.2.2.2.2.2.2.2.2.2.2.2.2.2.2.2.2.2.2.2.2.2.2.2.2.2.2.2.2.2.2.2.2.2.2.2.2.2.1)
    have k_xST : xST W := by
      rw [hW]
      exact (uxST rfl hI.2.2.2.2.2.2.2.2.2.2.2.2.2.2.2.2.2.2.2.2.2.2.2.2.2.2.2.2.2.2.2.2.2.2.2.2.2.2.1)
    have k_xSP : xSP W := by
      rw [hW]
      exact (uxSP rfl hI.2.2.2.2.2.2.2.2.2.2.2.2.2.2.2.2.2.2.2.2.2.2.2.2.2.2.2.2.2.2.2.2.2.2.2.2.2.2.2.1)
    have k_xSL : xSL W := by
      rw [hW]
      exact (uxSL rfl hI.2.2.2.2.2.2.2.2.2.2.2.2.2.2.2.2.2.2.2.2.2.2.2.2.2.2.2.2.2.2.2.2.2.2.2.2.2.2.2.2.1)
    have k_xSM : xSM W := by
      rw [hW]
      exact (uxSM rfl hI.2.2.2.2.2.2.2.2.2.2.2.2.2.2.2.2.2.2.2.2.2.2.2.2.2.2.2.2.2.2.2.2.2.2.2.2.2.2.2.2.2.1)
    have k_xSI : xSI W := by
      rw [hW]
      exact (uxSI rfl hI.2.2.2.2.2.2.2.2.2.2.2.2.2.2.2.2.2.2.2.2.2.2.2.2.2.2.2.2.2.2.2.2.2.2.2.2.2.2.2.2.2.2.1)
    have k_xD3 : xD3 W := by
      rw [hW]
      exact (uxD3 rfl hI.2.2.2.2.2.2.2.2.2.2.2.2.2.2.2.2.2.2.2.2.2.2.2.2.2.2.2.2.2.2.2.2.2.2.2.2.2.2.2.2.2.2.2.1)
    have k_xDV : xDV W := by
      rw [hW]
      exact (uxDV rfl hI.2.2.2.2.2.2.2.2.2.2.2.2.2.2.2.2.2.2.2.2.2.2.2.2.2.2.2.2.2.2.2.2.2.2.2.2.2.2.2.2.2.2.2.2.1)
    have k_xDP : xDP W := by
      rw [hW]
      exact (uxDP rfl hI.2.2.2.2.2.2.2.2.2.2.2.2.2.2.2.2.2.2.2.2.2.2.2.2.2.2.2.2.2.2.2.2.2.2.2.2.2.2.2.2.2.2.2.2.2.1)
    have k_xDE : xDE W := by
      rw [hW]
      exact (uxDE rfl hI.2.2.2.2.2.2.2.2.2.2.2.2.2.2.2.2.2.2.2.2.2.2.2.2.2.2.2.2.2.2.2.2.2.2.2.2.2.2.2.2.2.2.2.2.2.2.1)
    have k_xQ5 : xQ5 W := by
      rw [hW]
      exact (uxQ5 rfl hI.2.2.2.2.2.2.2.2.2.2.2.2.2.2.2.2.2.2.2.2.2.2.2.2.2.2.2.2.2.2.2.2.2.2.2.2.2.2.2.2.2.2.2.2.2.2.2.1)
    have k_xQL : xQL W := by
      rw [hW]
      exact (uxQL rfl hI.2.2.2.2.2.2.2.2.2.2.2.2.2.2.2.2.2.2.2.2.2.2.2.2.2.2.2.2.2.2.2.2.2.2.2.2.2.2.2.2.2.2.2.2.2.2.2.2.1)
    have k_xQW : xQW W := by
      rw [hW]
      exact (uxQW rfl hI.2.2.2.2.2.2.2.2.2.2.2.2.2.2.2.2.2.2.2.2.2.2.2.2.2.2.2.2.2.2.2.2.2.2.2.2.2.2.2.2.2.2.2.2.2.2.2.2.2.1)
    have k_xQM : xQM W := by
      rw [hW]
      exact (uxQM rfl hI.2.2.2.2.2.2.2.2.2.2.2.2.2.2.2.2.2.2.2.2.2.2.2.2.2.2.2.2.2.2.2.2.2.2.2.2.2.2.2.2.2.2.2.2.2.2.2.2.2.2.1)
    have k_xQH : xQH W := by
      rw [hW]
      exact (uxQH rfl hI.2.2.2.2.2.2.2.2.2.2.2.2.2.2.2.2.2.2.2.2.2.2.2.2.2.2.2.2.2.2.2.2.2.2.2.2.2.2.2.2.2.2.2.2.2.2.2.2.2.2.2)
    have k_XC : XC W := ⟨k_xS1, k_xS2, k_xS3, k_xS4, k_xS5, k_xS6, k_xS7, k_xS8, k_xS9, k_xSA, k_xSG, k_xSF, k_xSB, k_xSC, k_xSD, k_xSE, k_xSW, k_xST, k_xSP, k_xSL, k_xSM, k_xSI, k_xD3, k_xDV, k_xDP, k_xDE, k_xQ5, k_xQL, k_xQW, k_xQM, k_xQH⟩
    have kXB : XB W := ⟨k_xN1, k_xN2, k_xN3, k_xN4, k_xN5, k_xN6, k_xH1, k_xK1, k_xC1, k_xRW, k_xWT, k_xCU, k_xG2, k_xG3, k_xG4, k_xG5, k_xG6, k_XC⟩
    exact ⟨base, k2, k3, kXA, kXB⟩
-- wHitR12_c
def xr_444 : qRu := (13, [[(-1, 0), (1, 5)], [(1, 1)], [(-1, 1), (1, 9)], [(1, 1), (-1, 9)], [(-1, 0), (-1, 1), (1, 10)], [(6, 0), (1, 9), (-1, 10)], [(-781651968, 0), (1, 11)], [(781651968, 0), (-1, 11)]], [(4, 210, [(1, 0)]), (4, 211, [(1, 1)]), (4, 101, [(1, 2)]), (3, 46, [(1, 3)]), (3, 47, [(1, 4)]), (4, 100, [(1, 5)]), (3, 44, [(1, 6)]), (3, 45, [(1, 7)]), (4, 107, [(1, 8)]), (4, 214, [(1, 0)]), (4, 215, [(1, 9)]), (4, 217, [(1, 10)]), (4, 219, [(1, 11)]), (4, 216, [(1, 12)])], [], [], [[(-1, 1), (1, 3)], [(1, 1), (-1, 3)], [(1, 4), (-1, 10)], [(-1, 4), (1, 10)], [(-30, 0), (1, 6)], [(30, 0), (-1, 6)], [(1, 7), (-1, 11)], [(-1, 7), (1, 11)]])
theorem xo_444 : qRok xr_444 := by
  intro ρ M h0 hf hm hI
  have f0 := hf [(-1, 0), (1, 5)] (by decide)
  have f1 := hf [(1, 1)] (by decide)
  have f2 := hf [(-1, 1), (1, 9)] (by decide)
  have f3 := hf [(1, 1), (-1, 9)] (by decide)
  have f4 := hf [(-1, 0), (-1, 1), (1, 10)] (by decide)
  have f5 := hf [(6, 0), (1, 9), (-1, 10)] (by decide)
  have f6 := hf [(-781651968, 0), (1, 11)] (by decide)
  have f7 := hf [(781651968, 0), (-1, 11)] (by decide)
  simp only [qD, h0] at f0 f1 f2 f3 f4 f5 f6 f7
  have m0 : M 4 210 = 1 * ρ 0 + 0 := hm (4, 210, [(1, 0)]) (by decide)
  have m1 : M 4 211 = 1 * ρ 1 + 0 := hm (4, 211, [(1, 1)]) (by decide)
  have m2 : M 4 101 = 1 * ρ 2 + 0 := hm (4, 101, [(1, 2)]) (by decide)
  have m3 : M 3 46 = 1 * ρ 3 + 0 := hm (3, 46, [(1, 3)]) (by decide)
  have m4 : M 3 47 = 1 * ρ 4 + 0 := hm (3, 47, [(1, 4)]) (by decide)
  have m5 : M 4 100 = 1 * ρ 5 + 0 := hm (4, 100, [(1, 5)]) (by decide)
  have m6 : M 3 44 = 1 * ρ 6 + 0 := hm (3, 44, [(1, 6)]) (by decide)
  have m7 : M 3 45 = 1 * ρ 7 + 0 := hm (3, 45, [(1, 7)]) (by decide)
  have m8 : M 4 107 = 1 * ρ 8 + 0 := hm (4, 107, [(1, 8)]) (by decide)
  have m9 : M 4 214 = 1 * ρ 0 + 0 := hm (4, 214, [(1, 0)]) (by decide)
  have m10 : M 4 215 = 1 * ρ 9 + 0 := hm (4, 215, [(1, 9)]) (by decide)
  have m11 : M 4 217 = 1 * ρ 10 + 0 := hm (4, 217, [(1, 10)]) (by decide)
  have m12 : M 4 219 = 1 * ρ 11 + 0 := hm (4, 219, [(1, 11)]) (by decide)
  have m13 : M 4 216 = 1 * ρ 12 + 0 := hm (4, 216, [(1, 12)]) (by decide)
  simp only [h0] at m0 m9
  obtain ⟨u1, u2, _⟩ := gx_xS8 hI (by omega)

  obtain ⟨a1, a2, a3, a4, a5, a6, a7⟩ := gx_xSA hI (by omega)
  have eq1 : (M 4 215).toNat = (M 4 211).toNat := by omega
  rw [eq1] at a6 a7
  have hgt := ten_gt (g := M 92) (lo := 97) (hi := 122) (n := (M 4 101).toNat) (q := (M 4 211).toNat) (by omega)
  have el1 : (M 4 217 - M 4 215).toNat = tEn (M 92) 97 122 (M 4 101).toNat (M 4 211).toNat - (M 4 211).toNat := by omega
  rw [el1] at a7

  obtain ⟨t1, t2, t3, t4, t5, t6⟩ := tk_of hI (by omega) (by omega) (by omega) (show tAt (M 92) (M 4 101).toNat (M 4 211).toNat (M 4 107) (M 4 108) = (30, M 4 219, ((M 4 211).toNat : Int), M 4 217, 0, 12) from by
    unfold tAt
    rw [if_neg (by omega), if_pos hgt.2]
    unfold tWo
    rw [← a7, ← a6]
    have hk : tKi (M 4 219) 0 = 30 := by
      rw [show M 4 219 = 781651968 by omega]
      decide
    have h6 : ¬ (6 < tEn (M 92) 97 122 (M 4 101).toNat (M 4 211).toNat - (M 4 211).toNat) := by omega
    unfold tWk tWs tWv
    rw [if_neg h6, if_neg h6, if_neg h6, hk]
    rfl)
  refine ⟨ρ, fun _ _ => rfl, fun f h => ?_, ?_⟩
  · have h : f ∈ ([[(-1, 1), (1, 3)], [(1, 1), (-1, 3)], [(1, 4), (-1, 10)], [(-1, 4), (1, 10)], [(-30, 0), (1, 6)], [(30, 0), (-1, 6)], [(1, 7), (-1, 11)], [(-1, 7), (1, 11)]] : List qF) := h
    simp only [List.mem_cons, List.not_mem_nil, or_false] at h
    rcases h with rfl | rfl | rfl | rfl | rfl | rfl | rfl | rfl
    · show 0 ≤ -1 * ρ 1 + (1 * ρ 3 + 0)
      (try rw [h0]); omega
    · show 0 ≤ 1 * ρ 1 + (-1 * ρ 3 + 0)
      (try rw [h0]); omega
    · show 0 ≤ 1 * ρ 4 + (-1 * ρ 10 + 0)
      (try rw [h0]); omega
    · show 0 ≤ -1 * ρ 4 + (1 * ρ 10 + 0)
      (try rw [h0]); omega
    · show 0 ≤ -30 * ρ 0 + (1 * ρ 6 + 0)
      (try rw [h0]); omega
    · show 0 ≤ 30 * ρ 0 + (-1 * ρ 6 + 0)
      (try rw [h0]); omega
    · show 0 ≤ 1 * ρ 7 + (-1 * ρ 11 + 0)
      (try rw [h0]); omega
    · show 0 ≤ -1 * ρ 7 + (1 * ρ 11 + 0)
      (try rw [h0]); omega
  · show sI M
    exact hI
-- wHitR12_r
def xr_445 : qRu := (13, [[(-1, 0), (1, 5)], [(1, 1)], [(-1, 1), (1, 9)], [(1, 1), (-1, 9)], [(-1, 0), (-1, 1), (1, 10)], [(6, 0), (1, 9), (-1, 10)], [(-781651968, 0), (1, 11)], [(781651968, 0), (-1, 11)]], [(4, 210, [(1, 0)]), (4, 211, [(1, 1)]), (4, 101, [(1, 2)]), (3, 46, [(1, 3)]), (3, 47, [(1, 4)]), (4, 100, [(1, 5)]), (3, 50, [(1, 6)]), (3, 51, [(1, 7)]), (4, 108, [(1, 8)]), (4, 214, [(1, 0)]), (4, 215, [(1, 9)]), (4, 217, [(1, 10)]), (4, 219, [(1, 11)]), (4, 216, [(1, 12)])], [], [], [[(-1, 1), (1, 3)], [(1, 1), (-1, 3)], [(1, 4), (-1, 10)], [(-1, 4), (1, 10)], [(1, 6)], [(-1, 6)], [(-12, 0), (1, 7)], [(12, 0), (-1, 7)]])
theorem xo_445 : qRok xr_445 := by
  intro ρ M h0 hf hm hI
  have f0 := hf [(-1, 0), (1, 5)] (by decide)
  have f1 := hf [(1, 1)] (by decide)
  have f2 := hf [(-1, 1), (1, 9)] (by decide)
  have f3 := hf [(1, 1), (-1, 9)] (by decide)
  have f4 := hf [(-1, 0), (-1, 1), (1, 10)] (by decide)
  have f5 := hf [(6, 0), (1, 9), (-1, 10)] (by decide)
  have f6 := hf [(-781651968, 0), (1, 11)] (by decide)
  have f7 := hf [(781651968, 0), (-1, 11)] (by decide)
  simp only [qD, h0] at f0 f1 f2 f3 f4 f5 f6 f7
  have m0 : M 4 210 = 1 * ρ 0 + 0 := hm (4, 210, [(1, 0)]) (by decide)
  have m1 : M 4 211 = 1 * ρ 1 + 0 := hm (4, 211, [(1, 1)]) (by decide)
  have m2 : M 4 101 = 1 * ρ 2 + 0 := hm (4, 101, [(1, 2)]) (by decide)
  have m3 : M 3 46 = 1 * ρ 3 + 0 := hm (3, 46, [(1, 3)]) (by decide)
  have m4 : M 3 47 = 1 * ρ 4 + 0 := hm (3, 47, [(1, 4)]) (by decide)
  have m5 : M 4 100 = 1 * ρ 5 + 0 := hm (4, 100, [(1, 5)]) (by decide)
  have m6 : M 3 50 = 1 * ρ 6 + 0 := hm (3, 50, [(1, 6)]) (by decide)
  have m7 : M 3 51 = 1 * ρ 7 + 0 := hm (3, 51, [(1, 7)]) (by decide)
  have m8 : M 4 108 = 1 * ρ 8 + 0 := hm (4, 108, [(1, 8)]) (by decide)
  have m9 : M 4 214 = 1 * ρ 0 + 0 := hm (4, 214, [(1, 0)]) (by decide)
  have m10 : M 4 215 = 1 * ρ 9 + 0 := hm (4, 215, [(1, 9)]) (by decide)
  have m11 : M 4 217 = 1 * ρ 10 + 0 := hm (4, 217, [(1, 10)]) (by decide)
  have m12 : M 4 219 = 1 * ρ 11 + 0 := hm (4, 219, [(1, 11)]) (by decide)
  have m13 : M 4 216 = 1 * ρ 12 + 0 := hm (4, 216, [(1, 12)]) (by decide)
  simp only [h0] at m0 m9
  obtain ⟨u1, u2, _⟩ := gx_xS8 hI (by omega)

  obtain ⟨a1, a2, a3, a4, a5, a6, a7⟩ := gx_xSA hI (by omega)
  have eq1 : (M 4 215).toNat = (M 4 211).toNat := by omega
  rw [eq1] at a6 a7
  have hgt := ten_gt (g := M 92) (lo := 97) (hi := 122) (n := (M 4 101).toNat) (q := (M 4 211).toNat) (by omega)
  have el1 : (M 4 217 - M 4 215).toNat = tEn (M 92) 97 122 (M 4 101).toNat (M 4 211).toNat - (M 4 211).toNat := by omega
  rw [el1] at a7

  obtain ⟨t1, t2, t3, t4, t5, t6⟩ := tk_of hI (by omega) (by omega) (by omega) (show tAt (M 92) (M 4 101).toNat (M 4 211).toNat (M 4 107) (M 4 108) = (30, M 4 219, ((M 4 211).toNat : Int), M 4 217, 0, 12) from by
    unfold tAt
    rw [if_neg (by omega), if_pos hgt.2]
    unfold tWo
    rw [← a7, ← a6]
    have hk : tKi (M 4 219) 0 = 30 := by
      rw [show M 4 219 = 781651968 by omega]
      decide
    have h6 : ¬ (6 < tEn (M 92) 97 122 (M 4 101).toNat (M 4 211).toNat - (M 4 211).toNat) := by omega
    unfold tWk tWs tWv
    rw [if_neg h6, if_neg h6, if_neg h6, hk]
    rfl)
  refine ⟨ρ, fun _ _ => rfl, fun f h => ?_, ?_⟩
  · have h : f ∈ ([[(-1, 1), (1, 3)], [(1, 1), (-1, 3)], [(1, 4), (-1, 10)], [(-1, 4), (1, 10)], [(1, 6)], [(-1, 6)], [(-12, 0), (1, 7)], [(12, 0), (-1, 7)]] : List qF) := h
    simp only [List.mem_cons, List.not_mem_nil, or_false] at h
    rcases h with rfl | rfl | rfl | rfl | rfl | rfl | rfl | rfl
    · show 0 ≤ -1 * ρ 1 + (1 * ρ 3 + 0)
      (try rw [h0]); omega
    · show 0 ≤ 1 * ρ 1 + (-1 * ρ 3 + 0)
      (try rw [h0]); omega
    · show 0 ≤ 1 * ρ 4 + (-1 * ρ 10 + 0)
      (try rw [h0]); omega
    · show 0 ≤ -1 * ρ 4 + (1 * ρ 10 + 0)
      (try rw [h0]); omega
    · show 0 ≤ 1 * ρ 6 + 0
      (try rw [h0]); omega
    · show 0 ≤ -1 * ρ 6 + 0
      (try rw [h0]); omega
    · show 0 ≤ -12 * ρ 0 + (1 * ρ 7 + 0)
      (try rw [h0]); omega
    · show 0 ≤ 12 * ρ 0 + (-1 * ρ 7 + 0)
      (try rw [h0]); omega
  · show sI M
    exact hI
-- langMissR12L
def xr_446 : qRu := (3, [[(781651967, 0), (-1, 2)]], [(4, 226, [(1, 0)]), (4, 227, [(12, 0)]), (4, 219, [(1, 2)])], [], [(4, 227, [(13, 0)])], [])
theorem xo_446 : qRok xr_446 := by
  intro ρ M h0 hf hm hI
  have f0 := hf [(781651967, 0), (-1, 2)] (by decide)
  simp only [qD, h0] at f0
  have m0 : M 4 226 = 1 * ρ 0 + 0 := hm (4, 226, [(1, 0)]) (by decide)
  have m1 : M 4 227 = 12 * ρ 0 + 0 := hm (4, 227, [(12, 0)]) (by decide)
  have m2 : M 4 219 = 1 * ρ 2 + 0 := hm (4, 219, [(1, 2)]) (by decide)
  simp only [h0] at m0 m1
  have qxSC := hI.2.2.2.2.2.2.2.2.2.2.2.2.2.2.2.2.2.2.2.2.2.2.2.2.2.2.2.2.2.2.2.2.2.2.1
  obtain ⟨l1, l2, l3⟩ := gx_xSC hI (by omega)
  refine ⟨ρ, fun _ _ => rfl, fun f h => ?_, ?_⟩
  · exact nomatch h
  · show sI (sU M 4 227 (13 * ρ 0 + 0))
    obtain ⟨W, hW⟩ : ∃ W, W = (sU M 4 227 (13 * ρ 0 + 0)) := ⟨_, rfl⟩
    rw [← hW]
    have base : sI0 W := by
      rw [hW]
      exact (si_u0 hI.1 (fun r hr => by cases hr))
    have k2 : XI2 W := by
      rw [hW]
      exact (xi2_u rfl hI.2.1)
    have k3 : XI3 W := by
      rw [hW]
      exact (xi3_u rfl hI.2.2.1)
    have kXA : XA W := by
      rw [hW]
      exact (uXA rfl hI.2.2.2.1)
    have k_xN1 : xN1 W := by
      rw [hW]
      exact (uxN1 rfl hI.2.2.2.2.1)
    have k_xN2 : xN2 W := by
      rw [hW]
      exact (uxN2 rfl hI.2.2.2.2.2.1)
    have k_xN3 : xN3 W := by
      rw [hW]
      exact (uxN3 rfl hI.2.2.2.2.2.2.1)
    have k_xN4 : xN4 W := by
      rw [hW]
      exact (uxN4 rfl hI.2.2.2.2.2.2.2.1)
    have k_xN5 : xN5 W := by
      rw [hW]
      exact (uxN5 rfl hI.2.2.2.2.2.2.2.2.1)
    have k_xN6 : xN6 W := by
      rw [hW]
      exact (uxN6 rfl hI.2.2.2.2.2.2.2.2.2.1)
    have k_xH1 : xH1 W := by
      rw [hW]
      exact (uxH1 rfl hI.2.2.2.2.2.2.2.2.2.2.1)
    have k_xK1 : xK1 W := by
      rw [hW]
      exact (uxK1 rfl hI.2.2.2.2.2.2.2.2.2.2.2.1)
    have k_xC1 : xC1 W := by
      rw [hW]
      exact (uxC1 rfl hI.2.2.2.2.2.2.2.2.2.2.2.2.1)
    have k_xRW : xRW W := by
      rw [hW]
      exact (uxRW rfl hI.2.2.2.2.2.2.2.2.2.2.2.2.2.1)
    have k_xWT : xWT W := by
      rw [hW]
      exact (uxWT rfl hI.2.2.2.2.2.2.2.2.2.2.2.2.2.2.1)
    have k_xCU : xCU W := by
      rw [hW]
      exact (uxCU rfl hI.2.2.2.2.2.2.2.2.2.2.2.2.2.2.2.1)
    have k_xG2 : xG2 W := by
      rw [hW]
      exact (uxG2 rfl hI.2.2.2.2.2.2.2.2.2.2.2.2.2.2.2.2.1)
    have k_xG3 : xG3 W := by
      rw [hW]
      exact (uxG3 rfl hI.2.2.2.2.2.2.2.2.2.2.2.2.2.2.2.2.2.1)
    have k_xG4 : xG4 W := by
      rw [hW]
      exact (uxG4 rfl hI.2.2.2.2.2.2.2.2.2.2.2.2.2.2.2.2.2.2.1)
    have k_xG5 : xG5 W := by
      rw [hW]
      exact (uxG5 rfl hI.2.2.2.2.2.2.2.2.2.2.2.2.2.2.2.2.2.2.2.1)
    have k_xG6 : xG6 W := by
      rw [hW]
      exact (uxG6 rfl hI.2.2.2.2.2.2.2.2.2.2.2.2.2.2.2.2.2.2.2.2.1)
    have k_xS1 : xS1 W := by
      rw [hW]
      exact (uxS1 rfl hI.2.2.2.2.2.2.2.2.2.2.2.2.2.2.2.2.2.2.2.2.2.1)
    have k_xS2 : xS2 W := by
      rw [hW]
      exact (uxS2 rfl hI.2.2.2.2.2.2.2.2.2.2.2.2.2.2.2.2.2.2.2.2.2.2.1)
    have k_xS3 : xS3 W := by
      rw [hW]
      exact (uxS3 rfl hI.2.2.2.2.2.2.2.2.2.2.2.2.2.2.2.2.2.2.2.2.2.2.2.1)
    have k_xS4 : xS4 W := by
      rw [hW]
      exact (uxS4 rfl hI.2.2.2.2.2.2.2.2.2.2.2.2.2.2.2.2.2.2.2.2.2.2.2.2.1)
    have k_xS5 : xS5 W := by
      rw [hW]
      exact (uxS5 rfl hI.2.2.2.2.2.2.2.2.2.2.2.2.2.2.2.2.2.2.2.2.2.2.2.2.2.1)
    have k_xS6 : xS6 W := by
      rw [hW]
      exact (uxS6 rfl hI.2.2.2.2.2.2.2.2.2.2.2.2.2.2.2.2.2.2.2.2.2.2.2.2.2.2.1)
    have k_xS7 : xS7 W := by
      rw [hW]
      exact (uxS7 rfl hI.2.2.2.2.2.2.2.2.2.2.2.2.2.2.2.2.2.2.2.2.2.2.2.2.2.2.2.1)
    have k_xS8 : xS8 W := by
      rw [hW]
      exact (uxS8 rfl hI.2.2.2.2.2.2.2.2.2.2.2.2.2.2.2.2.2.2.2.2.2.2.2.2.2.2.2.2.1)
    have k_xS9 : xS9 W := by
      rw [hW]
      exact (uxS9 rfl hI.2.2.2.2.2.2.2.2.2.2.2.2.2.2.2.2.2.2.2.2.2.2.2.2.2.2.2.2.2.1)
    have k_xSA : xSA W := by
      rw [hW]
      exact (uxSA rfl hI.2.2.2.2.2.2.2.2.2.2.2.2.2.2.2.2.2.2.2.2.2.2.2.2.2.2.2.2.2.2.1)
    have k_xSG : xSG W := by
      rw [hW]
      exact (uxSG rfl hI.2.2.2.2.2.2.2.2.2.2.2.2.2.2.2.2.2.2.2.2.2.2.2.2.2.2.2.2.2.2.2.1)
    have k_xSF : xSF W := by
      rw [hW]
      exact (uxSF rfl hI.2.2.2.2.2.2.2.2.2.2.2.2.2.2.2.2.2.2.2.2.2.2.2.2.2.2.2.2.2.2.2.2.1)
    have k_xSB : xSB W := by
      rw [hW]
      exact (uxSB rfl hI.2.2.2.2.2.2.2.2.2.2.2.2.2.2.2.2.2.2.2.2.2.2.2.2.2.2.2.2.2.2.2.2.2.1)
    have k_xSC : xSC W := by
      have r4_226 : W 4 226 = M 4 226 := by rw [hW, sU_ne (fun z => by omega)]
      have r4_227 : W 4 227 = 13 * ρ 0 + 0 := by rw [hW, sU_at]
      have r4_219 : W 4 219 = M 4 219 := by rw [hW, sU_ne (fun z => by omega)]
      intro h
      rw [r4_227, r4_219, h0]
      refine ⟨by omega, by omega, ?_⟩
      have e1 := tki_on (x := M 4 219) (w := 12) (show tLa[12]? = some (781651968 : Int) from rfl)
      rw [if_neg (by omega)] at e1
      rw [show M 4 227 = 12 by omega] at l3
      rw [← l3]
      exact e1.symm
    have k_xSD : xSD W := by
      rw [hW]
      exact (uxSD rfl hI.2.2.2.2.2.2.2.2.2.2.2.2.2.2.2.2.2.2.2.2.2.2.2.2.2.2.2.2.2.2.2.2.2.2.2.1)
    have k_xSE : xSE W := by
      rw [hW]
      exact (uxSE rfl hI.2.2.2.2.2.2.2.2.2.2.2.2.2.2.2.2.2.2.2.2.2.2.2.2.2.2.2.2.2.2.2.2.2.2.2.2.1)
    have k_xSW : xSW W := by
      rw [hW]
      exact (uxSW rfl hI.2.2.2.2.2.2.2.2.2.2.2.2.2.2.2.2.2.2.2.2.2.2.2.2.2.2.2.2.2.2.2.2.2.2.2.2.2.1)
    have k_xST : xST W := by
      rw [hW]
      exact (uxST rfl hI.2.2.2.2.2.2.2.2.2.2.2.2.2.2.2.2.2.2.2.2.2.2.2.2.2.2.2.2.2.2.2.2.2.2.2.2.2.2.1)
    have k_xSP : xSP W := by
      rw [hW]
      exact (uxSP rfl hI.2.2.2.2.2.2.2.2.2.2.2.2.2.2.2.2.2.2.2.2.2.2.2.2.2.2.2.2.2.2.2.2.2.2.2.2.2.2.2.1)
    have k_xSL : xSL W := by
      rw [hW]
      exact (uxSL rfl hI.2.2.2.2.2.2.2.2.2.2.2.2.2.2.2.2.2.2.2.2.2.2.2.2.2.2.2.2.2.2.2.2.2.2.2.2.2.2.2.2.1)
    have k_xSM : xSM W := by
      rw [hW]
      exact (uxSM rfl hI.2.2.2.2.2.2.2.2.2.2.2.2.2.2.2.2.2.2.2.2.2.2.2.2.2.2.2.2.2.2.2.2.2.2.2.2.2.2.2.2.2.1)
    have k_xSI : xSI W := by
      rw [hW]
      exact (uxSI rfl hI.2.2.2.2.2.2.2.2.2.2.2.2.2.2.2.2.2.2.2.2.2.2.2.2.2.2.2.2.2.2.2.2.2.2.2.2.2.2.2.2.2.2.1)
    have k_xD3 : xD3 W := by
      rw [hW]
      exact (uxD3 rfl hI.2.2.2.2.2.2.2.2.2.2.2.2.2.2.2.2.2.2.2.2.2.2.2.2.2.2.2.2.2.2.2.2.2.2.2.2.2.2.2.2.2.2.2.1)
    have k_xDV : xDV W := by
      rw [hW]
      exact (uxDV rfl hI.2.2.2.2.2.2.2.2.2.2.2.2.2.2.2.2.2.2.2.2.2.2.2.2.2.2.2.2.2.2.2.2.2.2.2.2.2.2.2.2.2.2.2.2.1)
    have k_xDP : xDP W := by
      rw [hW]
      exact (uxDP rfl hI.2.2.2.2.2.2.2.2.2.2.2.2.2.2.2.2.2.2.2.2.2.2.2.2.2.2.2.2.2.2.2.2.2.2.2.2.2.2.2.2.2.2.2.2.2.1)
    have k_xDE : xDE W := by
      rw [hW]
      exact (uxDE rfl hI.2.2.2.2.2.2.2.2.2.2.2.2.2.2.2.2.2.2.2.2.2.2.2.2.2.2.2.2.2.2.2.2.2.2.2.2.2.2.2.2.2.2.2.2.2.2.1)
    have k_xQ5 : xQ5 W := by
      rw [hW]
      exact (uxQ5 rfl hI.2.2.2.2.2.2.2.2.2.2.2.2.2.2.2.2.2.2.2.2.2.2.2.2.2.2.2.2.2.2.2.2.2.2.2.2.2.2.2.2.2.2.2.2.2.2.2.1)
    have k_xQL : xQL W := by
      rw [hW]
      exact (uxQL rfl hI.2.2.2.2.2.2.2.2.2.2.2.2.2.2.2.2.2.2.2.2.2.2.2.2.2.2.2.2.2.2.2.2.2.2.2.2.2.2.2.2.2.2.2.2.2.2.2.2.1)
    have k_xQW : xQW W := by
      rw [hW]
      exact (uxQW rfl hI.2.2.2.2.2.2.2.2.2.2.2.2.2.2.2.2.2.2.2.2.2.2.2.2.2.2.2.2.2.2.2.2.2.2.2.2.2.2.2.2.2.2.2.2.2.2.2.2.2.1)
    have k_xQM : xQM W := by
      rw [hW]
      exact (uxQM rfl hI.2.2.2.2.2.2.2.2.2.2.2.2.2.2.2.2.2.2.2.2.2.2.2.2.2.2.2.2.2.2.2.2.2.2.2.2.2.2.2.2.2.2.2.2.2.2.2.2.2.2.1)
    have k_xQH : xQH W := by
      rw [hW]
      exact (uxQH rfl hI.2.2.2.2.2.2.2.2.2.2.2.2.2.2.2.2.2.2.2.2.2.2.2.2.2.2.2.2.2.2.2.2.2.2.2.2.2.2.2.2.2.2.2.2.2.2.2.2.2.2.2)
    have k_XC : XC W := ⟨k_xS1, k_xS2, k_xS3, k_xS4, k_xS5, k_xS6, k_xS7, k_xS8, k_xS9, k_xSA, k_xSG, k_xSF, k_xSB, k_xSC, k_xSD, k_xSE, k_xSW, k_xST, k_xSP, k_xSL, k_xSM, k_xSI, k_xD3, k_xDV, k_xDP, k_xDE, k_xQ5, k_xQL, k_xQW, k_xQM, k_xQH⟩
    have kXB : XB W := ⟨k_xN1, k_xN2, k_xN3, k_xN4, k_xN5, k_xN6, k_xH1, k_xK1, k_xC1, k_xRW, k_xWT, k_xCU, k_xG2, k_xG3, k_xG4, k_xG5, k_xG6, k_XC⟩
    exact ⟨base, k2, k3, kXA, kXB⟩
-- langMissR12H
def xr_447 : qRu := (3, [[(-781651969, 0), (1, 2)]], [(4, 226, [(1, 0)]), (4, 227, [(12, 0)]), (4, 219, [(1, 2)])], [], [(4, 227, [(13, 0)])], [])
theorem xo_447 : qRok xr_447 := by
  intro ρ M h0 hf hm hI
  have f0 := hf [(-781651969, 0), (1, 2)] (by decide)
  simp only [qD, h0] at f0
  have m0 : M 4 226 = 1 * ρ 0 + 0 := hm (4, 226, [(1, 0)]) (by decide)
  have m1 : M 4 227 = 12 * ρ 0 + 0 := hm (4, 227, [(12, 0)]) (by decide)
  have m2 : M 4 219 = 1 * ρ 2 + 0 := hm (4, 219, [(1, 2)]) (by decide)
  simp only [h0] at m0 m1
  have qxSC := hI.2.2.2.2.2.2.2.2.2.2.2.2.2.2.2.2.2.2.2.2.2.2.2.2.2.2.2.2.2.2.2.2.2.2.1
  obtain ⟨l1, l2, l3⟩ := gx_xSC hI (by omega)
  refine ⟨ρ, fun _ _ => rfl, fun f h => ?_, ?_⟩
  · exact nomatch h
  · show sI (sU M 4 227 (13 * ρ 0 + 0))
    obtain ⟨W, hW⟩ : ∃ W, W = (sU M 4 227 (13 * ρ 0 + 0)) := ⟨_, rfl⟩
    rw [← hW]
    have base : sI0 W := by
      rw [hW]
      exact (si_u0 hI.1 (fun r hr => by cases hr))
    have k2 : XI2 W := by
      rw [hW]
      exact (xi2_u rfl hI.2.1)
    have k3 : XI3 W := by
      rw [hW]
      exact (xi3_u rfl hI.2.2.1)
    have kXA : XA W := by
      rw [hW]
      exact (uXA rfl hI.2.2.2.1)
    have k_xN1 : xN1 W := by
      rw [hW]
      exact (uxN1 rfl hI.2.2.2.2.1)
    have k_xN2 : xN2 W := by
      rw [hW]
      exact (uxN2 rfl hI.2.2.2.2.2.1)
    have k_xN3 : xN3 W := by
      rw [hW]
      exact (uxN3 rfl hI.2.2.2.2.2.2.1)
    have k_xN4 : xN4 W := by
      rw [hW]
      exact (uxN4 rfl hI.2.2.2.2.2.2.2.1)
    have k_xN5 : xN5 W := by
      rw [hW]
      exact (uxN5 rfl hI.2.2.2.2.2.2.2.2.1)
    have k_xN6 : xN6 W := by
      rw [hW]
      exact (uxN6 rfl hI.2.2.2.2.2.2.2.2.2.1)
    have k_xH1 : xH1 W := by
      rw [hW]
      exact (uxH1 rfl hI.2.2.2.2.2.2.2.2.2.2.1)
    have k_xK1 : xK1 W := by
      rw [hW]
      exact (uxK1 rfl hI.2.2.2.2.2.2.2.2.2.2.2.1)
    have k_xC1 : xC1 W := by
      rw [hW]
      exact (uxC1 rfl hI.2.2.2.2.2.2.2.2.2.2.2.2.1)
    have k_xRW : xRW W := by
      rw [hW]
      exact (uxRW rfl hI.2.2.2.2.2.2.2.2.2.2.2.2.2.1)
    have k_xWT : xWT W := by
      rw [hW]
      exact (uxWT rfl hI.2.2.2.2.2.2.2.2.2.2.2.2.2.2.1)
    have k_xCU : xCU W := by
      rw [hW]
      exact (uxCU rfl hI.2.2.2.2.2.2.2.2.2.2.2.2.2.2.2.1)
    have k_xG2 : xG2 W := by
      rw [hW]
      exact (uxG2 rfl hI.2.2.2.2.2.2.2.2.2.2.2.2.2.2.2.2.1)
    have k_xG3 : xG3 W := by
      rw [hW]
      exact (uxG3 rfl hI.2.2.2.2.2.2.2.2.2.2.2.2.2.2.2.2.2.1)
    have k_xG4 : xG4 W := by
      rw [hW]
      exact (uxG4 rfl hI.2.2.2.2.2.2.2.2.2.2.2.2.2.2.2.2.2.2.1)
    have k_xG5 : xG5 W := by
      rw [hW]
      exact (uxG5 rfl hI.2.2.2.2.2.2.2.2.2.2.2.2.2.2.2.2.2.2.2.1)
    have k_xG6 : xG6 W := by
      rw [hW]
      exact (uxG6 rfl hI.2.2.2.2.2.2.2.2.2.2.2.2.2.2.2.2.2.2.2.2.1)
    have k_xS1 : xS1 W := by
      rw [hW]
      exact (uxS1 rfl hI.2.2.2.2.2.2.2.2.2.2.2.2.2.2.2.2.2.2.2.2.2.1)
    have k_xS2 : xS2 W := by
      rw [hW]
      exact (uxS2 rfl hI.2.2.2.2.2.2.2.2.2.2.2.2.2.2.2.2.2.2.2.2.2.2.1)
    have k_xS3 : xS3 W := by
      rw [hW]
      exact (uxS3 rfl hI.2.2.2.2.2.2.2.2.2.2.2.2.2.2.2.2.2.2.2.2.2.2.2.1)
    have k_xS4 : xS4 W := by
      rw [hW]
      exact (uxS4 rfl hI.2.2.2.2.2.2.2.2.2.2.2.2.2.2.2.2.2.2.2.2.2.2.2.2.1)
    have k_xS5 : xS5 W := by
      rw [hW]
      exact (uxS5 rfl hI.2.2.2.2.2.2.2.2.2.2.2.2.2.2.2.2.2.2.2.2.2.2.2.2.2.1)
    have k_xS6 : xS6 W := by
      rw [hW]
      exact (uxS6 rfl hI.2.2.2.2.2.2.2.2.2.2.2.2.2.2.2.2.2.2.2.2.2.2.2.2.2.2.1)
    have k_xS7 : xS7 W := by
      rw [hW]
      exact (uxS7 rfl hI.2.2.2.2.2.2.2.2.2.2.2.2.2.2.2.2.2.2.2.2.2.2.2.2.2.2.2.1)
    have k_xS8 : xS8 W := by
      rw [hW]
      exact (uxS8 rfl hI.2.2.2.2.2.2.2.2.2.2.2.2.2.2.2.2.2.2.2.2.2.2.2.2.2.2.2.2.1)
    have k_xS9 : xS9 W := by
      rw [hW]
      exact (uxS9 rfl hI.2.2.2.2.2.2.2.2.2.2.2.2.2.2.2.2.2.2.2.2.2.2.2.2.2.2.2.2.2.1)
    have k_xSA : xSA W := by
      rw [hW]
      exact (uxSA rfl hI.2.2.2.2.2.2.2.2.2.2.2.2.2.2.2.2.2.2.2.2.2.2.2.2.2.2.2.2.2.2.1)
    have k_xSG : xSG W := by
      rw [hW]
      exact (uxSG rfl hI.2.2.2.2.2.2.2.2.2.2.2.2.2.2.2.2.2.2.2.2.2.2.2.2.2.2.2.2.2.2.2.1)
    have k_xSF : xSF W := by
      rw [hW]
      exact (uxSF rfl hI.2.2.2.2.2.2.2.2.2.2.2.2.2.2.2.2.2.2.2.2.2.2.2.2.2.2.2.2.2.2.2.2.1)
    have k_xSB : xSB W := by
      rw [hW]
      exact (uxSB rfl hI.2.2.2.2.2.2.2.2.2.2.2.2.2.2.2.2.2.2.2.2.2.2.2.2.2.2.2.2.2.2.2.2.2.1)
    have k_xSC : xSC W := by
      have r4_226 : W 4 226 = M 4 226 := by rw [hW, sU_ne (fun z => by omega)]
      have r4_227 : W 4 227 = 13 * ρ 0 + 0 := by rw [hW, sU_at]
      have r4_219 : W 4 219 = M 4 219 := by rw [hW, sU_ne (fun z => by omega)]
      intro h
      rw [r4_227, r4_219, h0]
      refine ⟨by omega, by omega, ?_⟩
      have e1 := tki_on (x := M 4 219) (w := 12) (show tLa[12]? = some (781651968 : Int) from rfl)
      rw [if_neg (by omega)] at e1
      rw [show M 4 227 = 12 by omega] at l3
      rw [← l3]
      exact e1.symm
    have k_xSD : xSD W := by
      rw [hW]
      exact (uxSD rfl hI.2.2.2.2.2.2.2.2.2.2.2.2.2.2.2.2.2.2.2.2.2.2.2.2.2.2.2.2.2.2.2.2.2.2.2.1)
    have k_xSE : xSE W := by
      rw [hW]
      exact (uxSE rfl hI.2.2.2.2.2.2.2.2.2.2.2.2.2.2.2.2.2.2.2.2.2.2.2.2.2.2.2.2.2.2.2.2.2.2.2.2.1)
    have k_xSW : xSW W := by
      rw [hW]
      exact (uxSW rfl hI.2.2.2.2.2.2.2.2.2.2.2.2.2.2.2.2.2.2.2.2.2.2.2.2.2.2.2.2.2.2.2.2.2.2.2.2.2.1)
    have k_xST : xST W := by
      rw [hW]
      exact (uxST rfl hI.2.2.2.2.2.2.2.2.2.2.2.2.2.2.2.2.2.2.2.2.2.2.2.2.2.2.2.2.2.2.2.2.2.2.2.2.2.2.1)
    have k_xSP : xSP W := by
      rw [hW]
      exact (uxSP rfl hI.2.2.2.2.2.2.2.2.2.2.2.2.2.2.2.2.2.2.2.2.2.2.2.2.2.2.2.2.2.2.2.2.2.2.2.2.2.2.2.1)
    have k_xSL : xSL W := by
      rw [hW]
      exact (uxSL rfl hI.2.2.2.2.2.2.2.2.2.2.2.2.2.2.2.2.2.2.2.2.2.2.2.2.2.2.2.2.2.2.2.2.2.2.2.2.2.2.2.2.1)
    have k_xSM : xSM W := by
      rw [hW]
      exact (uxSM rfl hI.2.2.2.2.2.2.2.2.2.2.2.2.2.2.2.2.2.2.2.2.2.2.2.2.2.2.2.2.2.2.2.2.2.2.2.2.2.2.2.2.2.1)
    have k_xSI : xSI W := by
      rw [hW]
      exact (uxSI rfl hI.2.2.2.2.2.2.2.2.2.2.2.2.2.2.2.2.2.2.2.2.2.2.2.2.2.2.2.2.2.2.2.2.2.2.2.2.2.2.2.2.2.2.1)
    have k_xD3 : xD3 W := by
      rw [hW]
      exact (uxD3 rfl hI.2.2.2.2.2.2.2.2.2.2.2.2.2.2.2.2.2.2.2.2.2.2.2.2.2.2.2.2.2.2.2.2.2.2.2.2.2.2.2.2.2.2.2.1)
    have k_xDV : xDV W := by
      rw [hW]
      exact (uxDV rfl hI.2.2.2.2.2.2.2.2.2.2.2.2.2.2.2.2.2.2.2.2.2.2.2.2.2.2.2.2.2.2.2.2.2.2.2.2.2.2.2.2.2.2.2.2.1)
    have k_xDP : xDP W := by
      rw [hW]
      exact (uxDP rfl hI.2.2.2.2.2.2.2.2.2.2.2.2.2.2.2.2.2.2.2.2.2.2.2.2.2.2.2.2.2.2.2.2.2.2.2.2.2.2.2.2.2.2.2.2.2.1)
    have k_xDE : xDE W := by
      rw [hW]
      exact (uxDE rfl hI.2.2.2.2.2.2.2.2.2.2.2.2.2.2.2.2.2.2.2.2.2.2.2.2.2.2.2.2.2.2.2.2.2.2.2.2.2.2.2.2.2.2.2.2.2.2.1)
    have k_xQ5 : xQ5 W := by
      rw [hW]
      exact (uxQ5 rfl hI.2.2.2.2.2.2.2.2.2.2.2.2.2.2.2.2.2.2.2.2.2.2.2.2.2.2.2.2.2.2.2.2.2.2.2.2.2.2.2.2.2.2.2.2.2.2.2.1)
    have k_xQL : xQL W := by
      rw [hW]
      exact (uxQL rfl hI.2.2.2.2.2.2.2.2.2.2.2.2.2.2.2.2.2.2.2.2.2.2.2.2.2.2.2.2.2.2.2.2.2.2.2.2.2.2.2.2.2.2.2.2.2.2.2.2.1)
    have k_xQW : xQW W := by
      rw [hW]
      exact (uxQW rfl hI.2.2.2.2.2.2.2.2.2.2.2.2.2.2.2.2.2.2.2.2.2.2.2.2.2.2.2.2.2.2.2.2.2.2.2.2.2.2.2.2.2.2.2.2.2.2.2.2.2.1)
    have k_xQM : xQM W := by
      rw [hW]
      exact (uxQM rfl hI.2.2.2.2.2.2.2.2.2.2.2.2.2.2.2.2.2.2.2.2.2.2.2.2.2.2.2.2.2.2.2.2.2.2.2.2.2.2.2.2.2.2.2.2.2.2.2.2.2.2.1)
    have k_xQH : xQH W := by
      rw [hW]
      exact (uxQH rfl hI.2.2.2.2.2.2.2.2.2.2.2.2.2.2.2.2.2.2.2.2.2.2.2.2.2.2.2.2.2.2.2.2.2.2.2.2.2.2.2.2.2.2.2.2.2.2.2.2.2.2.2)
    have k_XC : XC W := ⟨k_xS1, k_xS2, k_xS3, k_xS4, k_xS5, k_xS6, k_xS7, k_xS8, k_xS9, k_xSA, k_xSG, k_xSF, k_xSB, k_xSC, k_xSD, k_xSE, k_xSW, k_xST, k_xSP, k_xSL, k_xSM, k_xSI, k_xD3, k_xDV, k_xDP, k_xDE, k_xQ5, k_xQL, k_xQW, k_xQM, k_xQH⟩
    have kXB : XB W := ⟨k_xN1, k_xN2, k_xN3, k_xN4, k_xN5, k_xN6, k_xH1, k_xK1, k_xC1, k_xRW, k_xWT, k_xCU, k_xG2, k_xG3, k_xG4, k_xG5, k_xG6, k_XC⟩
    exact ⟨base, k2, k3, kXA, kXB⟩
-- wHitR13_c
def xr_448 : qRu := (13, [[(-1, 0), (1, 5)], [(1, 1)], [(-1, 1), (1, 9)], [(1, 1), (-1, 9)], [(-1, 0), (-1, 1), (1, 10)], [(6, 0), (1, 9), (-1, 10)], [(-412307456, 0), (1, 11)], [(412307456, 0), (-1, 11)]], [(4, 210, [(1, 0)]), (4, 211, [(1, 1)]), (4, 101, [(1, 2)]), (3, 46, [(1, 3)]), (3, 47, [(1, 4)]), (4, 100, [(1, 5)]), (3, 44, [(1, 6)]), (3, 45, [(1, 7)]), (4, 107, [(1, 8)]), (4, 214, [(1, 0)]), (4, 215, [(1, 9)]), (4, 217, [(1, 10)]), (4, 219, [(1, 11)]), (4, 216, [(1, 12)])], [], [], [[(-1, 1), (1, 3)], [(1, 1), (-1, 3)], [(1, 4), (-1, 10)], [(-1, 4), (1, 10)], [(-31, 0), (1, 6)], [(31, 0), (-1, 6)], [(1, 7), (-1, 11)], [(-1, 7), (1, 11)]])
theorem xo_448 : qRok xr_448 := by
  intro ρ M h0 hf hm hI
  have f0 := hf [(-1, 0), (1, 5)] (by decide)
  have f1 := hf [(1, 1)] (by decide)
  have f2 := hf [(-1, 1), (1, 9)] (by decide)
  have f3 := hf [(1, 1), (-1, 9)] (by decide)
  have f4 := hf [(-1, 0), (-1, 1), (1, 10)] (by decide)
  have f5 := hf [(6, 0), (1, 9), (-1, 10)] (by decide)
  have f6 := hf [(-412307456, 0), (1, 11)] (by decide)
  have f7 := hf [(412307456, 0), (-1, 11)] (by decide)
  simp only [qD, h0] at f0 f1 f2 f3 f4 f5 f6 f7
  have m0 : M 4 210 = 1 * ρ 0 + 0 := hm (4, 210, [(1, 0)]) (by decide)
  have m1 : M 4 211 = 1 * ρ 1 + 0 := hm (4, 211, [(1, 1)]) (by decide)
  have m2 : M 4 101 = 1 * ρ 2 + 0 := hm (4, 101, [(1, 2)]) (by decide)
  have m3 : M 3 46 = 1 * ρ 3 + 0 := hm (3, 46, [(1, 3)]) (by decide)
  have m4 : M 3 47 = 1 * ρ 4 + 0 := hm (3, 47, [(1, 4)]) (by decide)
  have m5 : M 4 100 = 1 * ρ 5 + 0 := hm (4, 100, [(1, 5)]) (by decide)
  have m6 : M 3 44 = 1 * ρ 6 + 0 := hm (3, 44, [(1, 6)]) (by decide)
  have m7 : M 3 45 = 1 * ρ 7 + 0 := hm (3, 45, [(1, 7)]) (by decide)
  have m8 : M 4 107 = 1 * ρ 8 + 0 := hm (4, 107, [(1, 8)]) (by decide)
  have m9 : M 4 214 = 1 * ρ 0 + 0 := hm (4, 214, [(1, 0)]) (by decide)
  have m10 : M 4 215 = 1 * ρ 9 + 0 := hm (4, 215, [(1, 9)]) (by decide)
  have m11 : M 4 217 = 1 * ρ 10 + 0 := hm (4, 217, [(1, 10)]) (by decide)
  have m12 : M 4 219 = 1 * ρ 11 + 0 := hm (4, 219, [(1, 11)]) (by decide)
  have m13 : M 4 216 = 1 * ρ 12 + 0 := hm (4, 216, [(1, 12)]) (by decide)
  simp only [h0] at m0 m9
  obtain ⟨u1, u2, _⟩ := gx_xS8 hI (by omega)

  obtain ⟨a1, a2, a3, a4, a5, a6, a7⟩ := gx_xSA hI (by omega)
  have eq1 : (M 4 215).toNat = (M 4 211).toNat := by omega
  rw [eq1] at a6 a7
  have hgt := ten_gt (g := M 92) (lo := 97) (hi := 122) (n := (M 4 101).toNat) (q := (M 4 211).toNat) (by omega)
  have el1 : (M 4 217 - M 4 215).toNat = tEn (M 92) 97 122 (M 4 101).toNat (M 4 211).toNat - (M 4 211).toNat := by omega
  rw [el1] at a7

  obtain ⟨t1, t2, t3, t4, t5, t6⟩ := tk_of hI (by omega) (by omega) (by omega) (show tAt (M 92) (M 4 101).toNat (M 4 211).toNat (M 4 107) (M 4 108) = (31, M 4 219, ((M 4 211).toNat : Int), M 4 217, 0, 13) from by
    unfold tAt
    rw [if_neg (by omega), if_pos hgt.2]
    unfold tWo
    rw [← a7, ← a6]
    have hk : tKi (M 4 219) 0 = 31 := by
      rw [show M 4 219 = 412307456 by omega]
      decide
    have h6 : ¬ (6 < tEn (M 92) 97 122 (M 4 101).toNat (M 4 211).toNat - (M 4 211).toNat) := by omega
    unfold tWk tWs tWv
    rw [if_neg h6, if_neg h6, if_neg h6, hk]
    rfl)
  refine ⟨ρ, fun _ _ => rfl, fun f h => ?_, ?_⟩
  · have h : f ∈ ([[(-1, 1), (1, 3)], [(1, 1), (-1, 3)], [(1, 4), (-1, 10)], [(-1, 4), (1, 10)], [(-31, 0), (1, 6)], [(31, 0), (-1, 6)], [(1, 7), (-1, 11)], [(-1, 7), (1, 11)]] : List qF) := h
    simp only [List.mem_cons, List.not_mem_nil, or_false] at h
    rcases h with rfl | rfl | rfl | rfl | rfl | rfl | rfl | rfl
    · show 0 ≤ -1 * ρ 1 + (1 * ρ 3 + 0)
      (try rw [h0]); omega
    · show 0 ≤ 1 * ρ 1 + (-1 * ρ 3 + 0)
      (try rw [h0]); omega
    · show 0 ≤ 1 * ρ 4 + (-1 * ρ 10 + 0)
      (try rw [h0]); omega
    · show 0 ≤ -1 * ρ 4 + (1 * ρ 10 + 0)
      (try rw [h0]); omega
    · show 0 ≤ -31 * ρ 0 + (1 * ρ 6 + 0)
      (try rw [h0]); omega
    · show 0 ≤ 31 * ρ 0 + (-1 * ρ 6 + 0)
      (try rw [h0]); omega
    · show 0 ≤ 1 * ρ 7 + (-1 * ρ 11 + 0)
      (try rw [h0]); omega
    · show 0 ≤ -1 * ρ 7 + (1 * ρ 11 + 0)
      (try rw [h0]); omega
  · show sI M
    exact hI
-- wHitR13_r
def xr_449 : qRu := (13, [[(-1, 0), (1, 5)], [(1, 1)], [(-1, 1), (1, 9)], [(1, 1), (-1, 9)], [(-1, 0), (-1, 1), (1, 10)], [(6, 0), (1, 9), (-1, 10)], [(-412307456, 0), (1, 11)], [(412307456, 0), (-1, 11)]], [(4, 210, [(1, 0)]), (4, 211, [(1, 1)]), (4, 101, [(1, 2)]), (3, 46, [(1, 3)]), (3, 47, [(1, 4)]), (4, 100, [(1, 5)]), (3, 50, [(1, 6)]), (3, 51, [(1, 7)]), (4, 108, [(1, 8)]), (4, 214, [(1, 0)]), (4, 215, [(1, 9)]), (4, 217, [(1, 10)]), (4, 219, [(1, 11)]), (4, 216, [(1, 12)])], [], [], [[(-1, 1), (1, 3)], [(1, 1), (-1, 3)], [(1, 4), (-1, 10)], [(-1, 4), (1, 10)], [(1, 6)], [(-1, 6)], [(-13, 0), (1, 7)], [(13, 0), (-1, 7)]])
theorem xo_449 : qRok xr_449 := by
  intro ρ M h0 hf hm hI
  have f0 := hf [(-1, 0), (1, 5)] (by decide)
  have f1 := hf [(1, 1)] (by decide)
  have f2 := hf [(-1, 1), (1, 9)] (by decide)
  have f3 := hf [(1, 1), (-1, 9)] (by decide)
  have f4 := hf [(-1, 0), (-1, 1), (1, 10)] (by decide)
  have f5 := hf [(6, 0), (1, 9), (-1, 10)] (by decide)
  have f6 := hf [(-412307456, 0), (1, 11)] (by decide)
  have f7 := hf [(412307456, 0), (-1, 11)] (by decide)
  simp only [qD, h0] at f0 f1 f2 f3 f4 f5 f6 f7
  have m0 : M 4 210 = 1 * ρ 0 + 0 := hm (4, 210, [(1, 0)]) (by decide)
  have m1 : M 4 211 = 1 * ρ 1 + 0 := hm (4, 211, [(1, 1)]) (by decide)
  have m2 : M 4 101 = 1 * ρ 2 + 0 := hm (4, 101, [(1, 2)]) (by decide)
  have m3 : M 3 46 = 1 * ρ 3 + 0 := hm (3, 46, [(1, 3)]) (by decide)
  have m4 : M 3 47 = 1 * ρ 4 + 0 := hm (3, 47, [(1, 4)]) (by decide)
  have m5 : M 4 100 = 1 * ρ 5 + 0 := hm (4, 100, [(1, 5)]) (by decide)
  have m6 : M 3 50 = 1 * ρ 6 + 0 := hm (3, 50, [(1, 6)]) (by decide)
  have m7 : M 3 51 = 1 * ρ 7 + 0 := hm (3, 51, [(1, 7)]) (by decide)
  have m8 : M 4 108 = 1 * ρ 8 + 0 := hm (4, 108, [(1, 8)]) (by decide)
  have m9 : M 4 214 = 1 * ρ 0 + 0 := hm (4, 214, [(1, 0)]) (by decide)
  have m10 : M 4 215 = 1 * ρ 9 + 0 := hm (4, 215, [(1, 9)]) (by decide)
  have m11 : M 4 217 = 1 * ρ 10 + 0 := hm (4, 217, [(1, 10)]) (by decide)
  have m12 : M 4 219 = 1 * ρ 11 + 0 := hm (4, 219, [(1, 11)]) (by decide)
  have m13 : M 4 216 = 1 * ρ 12 + 0 := hm (4, 216, [(1, 12)]) (by decide)
  simp only [h0] at m0 m9
  obtain ⟨u1, u2, _⟩ := gx_xS8 hI (by omega)

  obtain ⟨a1, a2, a3, a4, a5, a6, a7⟩ := gx_xSA hI (by omega)
  have eq1 : (M 4 215).toNat = (M 4 211).toNat := by omega
  rw [eq1] at a6 a7
  have hgt := ten_gt (g := M 92) (lo := 97) (hi := 122) (n := (M 4 101).toNat) (q := (M 4 211).toNat) (by omega)
  have el1 : (M 4 217 - M 4 215).toNat = tEn (M 92) 97 122 (M 4 101).toNat (M 4 211).toNat - (M 4 211).toNat := by omega
  rw [el1] at a7

  obtain ⟨t1, t2, t3, t4, t5, t6⟩ := tk_of hI (by omega) (by omega) (by omega) (show tAt (M 92) (M 4 101).toNat (M 4 211).toNat (M 4 107) (M 4 108) = (31, M 4 219, ((M 4 211).toNat : Int), M 4 217, 0, 13) from by
    unfold tAt
    rw [if_neg (by omega), if_pos hgt.2]
    unfold tWo
    rw [← a7, ← a6]
    have hk : tKi (M 4 219) 0 = 31 := by
      rw [show M 4 219 = 412307456 by omega]
      decide
    have h6 : ¬ (6 < tEn (M 92) 97 122 (M 4 101).toNat (M 4 211).toNat - (M 4 211).toNat) := by omega
    unfold tWk tWs tWv
    rw [if_neg h6, if_neg h6, if_neg h6, hk]
    rfl)
  refine ⟨ρ, fun _ _ => rfl, fun f h => ?_, ?_⟩
  · have h : f ∈ ([[(-1, 1), (1, 3)], [(1, 1), (-1, 3)], [(1, 4), (-1, 10)], [(-1, 4), (1, 10)], [(1, 6)], [(-1, 6)], [(-13, 0), (1, 7)], [(13, 0), (-1, 7)]] : List qF) := h
    simp only [List.mem_cons, List.not_mem_nil, or_false] at h
    rcases h with rfl | rfl | rfl | rfl | rfl | rfl | rfl | rfl
    · show 0 ≤ -1 * ρ 1 + (1 * ρ 3 + 0)
      (try rw [h0]); omega
    · show 0 ≤ 1 * ρ 1 + (-1 * ρ 3 + 0)
      (try rw [h0]); omega
    · show 0 ≤ 1 * ρ 4 + (-1 * ρ 10 + 0)
      (try rw [h0]); omega
    · show 0 ≤ -1 * ρ 4 + (1 * ρ 10 + 0)
      (try rw [h0]); omega
    · show 0 ≤ 1 * ρ 6 + 0
      (try rw [h0]); omega
    · show 0 ≤ -1 * ρ 6 + 0
      (try rw [h0]); omega
    · show 0 ≤ -13 * ρ 0 + (1 * ρ 7 + 0)
      (try rw [h0]); omega
    · show 0 ≤ 13 * ρ 0 + (-1 * ρ 7 + 0)
      (try rw [h0]); omega
  · show sI M
    exact hI
-- langMissR13L
def xr_450 : qRu := (3, [[(412307455, 0), (-1, 2)]], [(4, 226, [(1, 0)]), (4, 227, [(13, 0)]), (4, 219, [(1, 2)])], [], [(4, 227, [(14, 0)])], [])
theorem xo_450 : qRok xr_450 := by
  intro ρ M h0 hf hm hI
  have f0 := hf [(412307455, 0), (-1, 2)] (by decide)
  simp only [qD, h0] at f0
  have m0 : M 4 226 = 1 * ρ 0 + 0 := hm (4, 226, [(1, 0)]) (by decide)
  have m1 : M 4 227 = 13 * ρ 0 + 0 := hm (4, 227, [(13, 0)]) (by decide)
  have m2 : M 4 219 = 1 * ρ 2 + 0 := hm (4, 219, [(1, 2)]) (by decide)
  simp only [h0] at m0 m1
  have qxSC := hI.2.2.2.2.2.2.2.2.2.2.2.2.2.2.2.2.2.2.2.2.2.2.2.2.2.2.2.2.2.2.2.2.2.2.1
  obtain ⟨l1, l2, l3⟩ := gx_xSC hI (by omega)
  refine ⟨ρ, fun _ _ => rfl, fun f h => ?_, ?_⟩
  · exact nomatch h
  · show sI (sU M 4 227 (14 * ρ 0 + 0))
    obtain ⟨W, hW⟩ : ∃ W, W = (sU M 4 227 (14 * ρ 0 + 0)) := ⟨_, rfl⟩
    rw [← hW]
    have base : sI0 W := by
      rw [hW]
      exact (si_u0 hI.1 (fun r hr => by cases hr))
    have k2 : XI2 W := by
      rw [hW]
      exact (xi2_u rfl hI.2.1)
    have k3 : XI3 W := by
      rw [hW]
      exact (xi3_u rfl hI.2.2.1)
    have kXA : XA W := by
      rw [hW]
      exact (uXA rfl hI.2.2.2.1)
    have k_xN1 : xN1 W := by
      rw [hW]
      exact (uxN1 rfl hI.2.2.2.2.1)
    have k_xN2 : xN2 W := by
      rw [hW]
      exact (uxN2 rfl hI.2.2.2.2.2.1)
    have k_xN3 : xN3 W := by
      rw [hW]
      exact (uxN3 rfl hI.2.2.2.2.2.2.1)
    have k_xN4 : xN4 W := by
      rw [hW]
      exact (uxN4 rfl hI.2.2.2.2.2.2.2.1)
    have k_xN5 : xN5 W := by
      rw [hW]
      exact (uxN5 rfl hI.2.2.2.2.2.2.2.2.1)
    have k_xN6 : xN6 W := by
      rw [hW]
      exact (uxN6 rfl hI.2.2.2.2.2.2.2.2.2.1)
    have k_xH1 : xH1 W := by
      rw [hW]
      exact (uxH1 rfl hI.2.2.2.2.2.2.2.2.2.2.1)
    have k_xK1 : xK1 W := by
      rw [hW]
      exact (uxK1 rfl hI.2.2.2.2.2.2.2.2.2.2.2.1)
    have k_xC1 : xC1 W := by
      rw [hW]
      exact (uxC1 rfl hI.2.2.2.2.2.2.2.2.2.2.2.2.1)
    have k_xRW : xRW W := by
      rw [hW]
      exact (uxRW rfl hI.2.2.2.2.2.2.2.2.2.2.2.2.2.1)
    have k_xWT : xWT W := by
      rw [hW]
      exact (uxWT rfl hI.2.2.2.2.2.2.2.2.2.2.2.2.2.2.1)
    have k_xCU : xCU W := by
      rw [hW]
      exact (uxCU rfl hI.2.2.2.2.2.2.2.2.2.2.2.2.2.2.2.1)
    have k_xG2 : xG2 W := by
      rw [hW]
      exact (uxG2 rfl hI.2.2.2.2.2.2.2.2.2.2.2.2.2.2.2.2.1)
    have k_xG3 : xG3 W := by
      rw [hW]
      exact (uxG3 rfl hI.2.2.2.2.2.2.2.2.2.2.2.2.2.2.2.2.2.1)
    have k_xG4 : xG4 W := by
      rw [hW]
      exact (uxG4 rfl hI.2.2.2.2.2.2.2.2.2.2.2.2.2.2.2.2.2.2.1)
    have k_xG5 : xG5 W := by
      rw [hW]
      exact (uxG5 rfl hI.2.2.2.2.2.2.2.2.2.2.2.2.2.2.2.2.2.2.2.1)
    have k_xG6 : xG6 W := by
      rw [hW]
      exact (uxG6 rfl hI.2.2.2.2.2.2.2.2.2.2.2.2.2.2.2.2.2.2.2.2.1)
    have k_xS1 : xS1 W := by
      rw [hW]
      exact (uxS1 rfl hI.2.2.2.2.2.2.2.2.2.2.2.2.2.2.2.2.2.2.2.2.2.1)
    have k_xS2 : xS2 W := by
      rw [hW]
      exact (uxS2 rfl hI.2.2.2.2.2.2.2.2.2.2.2.2.2.2.2.2.2.2.2.2.2.2.1)
    have k_xS3 : xS3 W := by
      rw [hW]
      exact (uxS3 rfl hI.2.2.2.2.2.2.2.2.2.2.2.2.2.2.2.2.2.2.2.2.2.2.2.1)
    have k_xS4 : xS4 W := by
      rw [hW]
      exact (uxS4 rfl hI.2.2.2.2.2.2.2.2.2.2.2.2.2.2.2.2.2.2.2.2.2.2.2.2.1)
    have k_xS5 : xS5 W := by
      rw [hW]
      exact (uxS5 rfl hI.2.2.2.2.2.2.2.2.2.2.2.2.2.2.2.2.2.2.2.2.2.2.2.2.2.1)
    have k_xS6 : xS6 W := by
      rw [hW]
      exact (uxS6 rfl hI.2.2.2.2.2.2.2.2.2.2.2.2.2.2.2.2.2.2.2.2.2.2.2.2.2.2.1)
    have k_xS7 : xS7 W := by
      rw [hW]
      exact (uxS7 rfl hI.2.2.2.2.2.2.2.2.2.2.2.2.2.2.2.2.2.2.2.2.2.2.2.2.2.2.2.1)
    have k_xS8 : xS8 W := by
      rw [hW]
      exact (uxS8 rfl hI.2.2.2.2.2.2.2.2.2.2.2.2.2.2.2.2.2.2.2.2.2.2.2.2.2.2.2.2.1)
    have k_xS9 : xS9 W := by
      rw [hW]
      exact (uxS9 rfl hI.2.2.2.2.2.2.2.2.2.2.2.2.2.2.2.2.2.2.2.2.2.2.2.2.2.2.2.2.2.1)
    have k_xSA : xSA W := by
      rw [hW]
      exact (uxSA rfl hI.2.2.2.2.2.2.2.2.2.2.2.2.2.2.2.2.2.2.2.2.2.2.2.2.2.2.2.2.2.2.1)
    have k_xSG : xSG W := by
      rw [hW]
      exact (uxSG rfl hI.2.2.2.2.2.2.2.2.2.2.2.2.2.2.2.2.2.2.2.2.2.2.2.2.2.2.2.2.2.2.2.1)
    have k_xSF : xSF W := by
      rw [hW]
      exact (uxSF rfl hI.2.2.2.2.2.2.2.2.2.2.2.2.2.2.2.2.2.2.2.2.2.2.2.2.2.2.2.2.2.2.2.2.1)
    have k_xSB : xSB W := by
      rw [hW]
      exact (uxSB rfl hI.2.2.2.2.2.2.2.2.2.2.2.2.2.2.2.2.2.2.2.2.2.2.2.2.2.2.2.2.2.2.2.2.2.1)
    have k_xSC : xSC W := by
      have r4_226 : W 4 226 = M 4 226 := by rw [hW, sU_ne (fun z => by omega)]
      have r4_227 : W 4 227 = 14 * ρ 0 + 0 := by rw [hW, sU_at]
      have r4_219 : W 4 219 = M 4 219 := by rw [hW, sU_ne (fun z => by omega)]
      intro h
      rw [r4_227, r4_219, h0]
      refine ⟨by omega, by omega, ?_⟩
      have e1 := tki_on (x := M 4 219) (w := 13) (show tLa[13]? = some (412307456 : Int) from rfl)
      rw [if_neg (by omega)] at e1
      rw [show M 4 227 = 13 by omega] at l3
      rw [← l3]
      exact e1.symm
    have k_xSD : xSD W := by
      rw [hW]
      exact (uxSD rfl hI.2.2.2.2.2.2.2.2.2.2.2.2.2.2.2.2.2.2.2.2.2.2.2.2.2.2.2.2.2.2.2.2.2.2.2.1)
    have k_xSE : xSE W := by
      rw [hW]
      exact (uxSE rfl hI.2.2.2.2.2.2.2.2.2.2.2.2.2.2.2.2.2.2.2.2.2.2.2.2.2.2.2.2.2.2.2.2.2.2.2.2.1)
    have k_xSW : xSW W := by
      rw [hW]
      exact (uxSW rfl hI.2.2.2.2.2.2.2.2.2.2.2.2.2.2.2.2.2.2.2.2.2.2.2.2.2.2.2.2.2.2.2.2.2.2.2.2.2.1)
    have k_xST : xST W := by
      rw [hW]
      exact (uxST rfl hI.2.2.2.2.2.2.2.2.2.2.2.2.2.2.2.2.2.2.2.2.2.2.2.2.2.2.2.2.2.2.2.2.2.2.2.2.2.2.1)
    have k_xSP : xSP W := by
      rw [hW]
      exact (uxSP rfl hI.2.2.2.2.2.2.2.2.2.2.2.2.2.2.2.2.2.2.2.2.2.2.2.2.2.2.2.2.2.2.2.2.2.2.2.2.2.2.2.1)
    have k_xSL : xSL W := by
      rw [hW]
      exact (uxSL rfl hI.2.2.2.2.2.2.2.2.2.2.2.2.2.2.2.2.2.2.2.2.2.2.2.2.2.2.2.2.2.2.2.2.2.2.2.2.2.2.2.2.1)
    have k_xSM : xSM W := by
      rw [hW]
      exact (uxSM rfl hI.2.2.2.2.2.2.2.2.2.2.2.2.2.2.2.2.2.2.2.2.2.2.2.2.2.2.2.2.2.2.2.2.2.2.2.2.2.2.2.2.2.1)
    have k_xSI : xSI W := by
      rw [hW]
      exact (uxSI rfl hI.2.2.2.2.2.2.2.2.2.2.2.2.2.2.2.2.2.2.2.2.2.2.2.2.2.2.2.2.2.2.2.2.2.2.2.2.2.2.2.2.2.2.1)
    have k_xD3 : xD3 W := by
      rw [hW]
      exact (uxD3 rfl hI.2.2.2.2.2.2.2.2.2.2.2.2.2.2.2.2.2.2.2.2.2.2.2.2.2.2.2.2.2.2.2.2.2.2.2.2.2.2.2.2.2.2.2.1)
    have k_xDV : xDV W := by
      rw [hW]
      exact (uxDV rfl hI.2.2.2.2.2.2.2.2.2.2.2.2.2.2.2.2.2.2.2.2.2.2.2.2.2.2.2.2.2.2.2.2.2.2.2.2.2.2.2.2.2.2.2.2.1)
    have k_xDP : xDP W := by
      rw [hW]
      exact (uxDP rfl hI.2.2.2.2.2.2.2.2.2.2.2.2.2.2.2.2.2.2.2.2.2.2.2.2.2.2.2.2.2.2.2.2.2.2.2.2.2.2.2.2.2.2.2.2.2.1)
    have k_xDE : xDE W := by
      rw [hW]
      exact (uxDE rfl hI.2.2.2.2.2.2.2.2.2.2.2.2.2.2.2.2.2.2.2.2.2.2.2.2.2.2.2.2.2.2.2.2.2.2.2.2.2.2.2.2.2.2.2.2.2.2.1)
    have k_xQ5 : xQ5 W := by
      rw [hW]
      exact (uxQ5 rfl hI.2.2.2.2.2.2.2.2.2.2.2.2.2.2.2.2.2.2.2.2.2.2.2.2.2.2.2.2.2.2.2.2.2.2.2.2.2.2.2.2.2.2.2.2.2.2.2.1)
    have k_xQL : xQL W := by
      rw [hW]
      exact (uxQL rfl hI.2.2.2.2.2.2.2.2.2.2.2.2.2.2.2.2.2.2.2.2.2.2.2.2.2.2.2.2.2.2.2.2.2.2.2.2.2.2.2.2.2.2.2.2.2.2.2.2.1)
    have k_xQW : xQW W := by
      rw [hW]
      exact (uxQW rfl hI.2.2.2.2.2.2.2.2.2.2.2.2.2.2.2.2.2.2.2.2.2.2.2.2.2.2.2.2.2.2.2.2.2.2.2.2.2.2.2.2.2.2.2.2.2.2.2.2.2.1)
    have k_xQM : xQM W := by
      rw [hW]
      exact (uxQM rfl hI.2.2.2.2.2.2.2.2.2.2.2.2.2.2.2.2.2.2.2.2.2.2.2.2.2.2.2.2.2.2.2.2.2.2.2.2.2.2.2.2.2.2.2.2.2.2.2.2.2.2.1)
    have k_xQH : xQH W := by
      rw [hW]
      exact (uxQH rfl hI.2.2.2.2.2.2.2.2.2.2.2.2.2.2.2.2.2.2.2.2.2.2.2.2.2.2.2.2.2.2.2.2.2.2.2.2.2.2.2.2.2.2.2.2.2.2.2.2.2.2.2)
    have k_XC : XC W := ⟨k_xS1, k_xS2, k_xS3, k_xS4, k_xS5, k_xS6, k_xS7, k_xS8, k_xS9, k_xSA, k_xSG, k_xSF, k_xSB, k_xSC, k_xSD, k_xSE, k_xSW, k_xST, k_xSP, k_xSL, k_xSM, k_xSI, k_xD3, k_xDV, k_xDP, k_xDE, k_xQ5, k_xQL, k_xQW, k_xQM, k_xQH⟩
    have kXB : XB W := ⟨k_xN1, k_xN2, k_xN3, k_xN4, k_xN5, k_xN6, k_xH1, k_xK1, k_xC1, k_xRW, k_xWT, k_xCU, k_xG2, k_xG3, k_xG4, k_xG5, k_xG6, k_XC⟩
    exact ⟨base, k2, k3, kXA, kXB⟩
-- langMissR13H
def xr_451 : qRu := (3, [[(-412307457, 0), (1, 2)]], [(4, 226, [(1, 0)]), (4, 227, [(13, 0)]), (4, 219, [(1, 2)])], [], [(4, 227, [(14, 0)])], [])
theorem xo_451 : qRok xr_451 := by
  intro ρ M h0 hf hm hI
  have f0 := hf [(-412307457, 0), (1, 2)] (by decide)
  simp only [qD, h0] at f0
  have m0 : M 4 226 = 1 * ρ 0 + 0 := hm (4, 226, [(1, 0)]) (by decide)
  have m1 : M 4 227 = 13 * ρ 0 + 0 := hm (4, 227, [(13, 0)]) (by decide)
  have m2 : M 4 219 = 1 * ρ 2 + 0 := hm (4, 219, [(1, 2)]) (by decide)
  simp only [h0] at m0 m1
  have qxSC := hI.2.2.2.2.2.2.2.2.2.2.2.2.2.2.2.2.2.2.2.2.2.2.2.2.2.2.2.2.2.2.2.2.2.2.1
  obtain ⟨l1, l2, l3⟩ := gx_xSC hI (by omega)
  refine ⟨ρ, fun _ _ => rfl, fun f h => ?_, ?_⟩
  · exact nomatch h
  · show sI (sU M 4 227 (14 * ρ 0 + 0))
    obtain ⟨W, hW⟩ : ∃ W, W = (sU M 4 227 (14 * ρ 0 + 0)) := ⟨_, rfl⟩
    rw [← hW]
    have base : sI0 W := by
      rw [hW]
      exact (si_u0 hI.1 (fun r hr => by cases hr))
    have k2 : XI2 W := by
      rw [hW]
      exact (xi2_u rfl hI.2.1)
    have k3 : XI3 W := by
      rw [hW]
      exact (xi3_u rfl hI.2.2.1)
    have kXA : XA W := by
      rw [hW]
      exact (uXA rfl hI.2.2.2.1)
    have k_xN1 : xN1 W := by
      rw [hW]
      exact (uxN1 rfl hI.2.2.2.2.1)
    have k_xN2 : xN2 W := by
      rw [hW]
      exact (uxN2 rfl hI.2.2.2.2.2.1)
    have k_xN3 : xN3 W := by
      rw [hW]
      exact (uxN3 rfl hI.2.2.2.2.2.2.1)
    have k_xN4 : xN4 W := by
      rw [hW]
      exact (uxN4 rfl hI.2.2.2.2.2.2.2.1)
    have k_xN5 : xN5 W := by
      rw [hW]
      exact (uxN5 rfl hI.2.2.2.2.2.2.2.2.1)
    have k_xN6 : xN6 W := by
      rw [hW]
      exact (uxN6 rfl hI.2.2.2.2.2.2.2.2.2.1)
    have k_xH1 : xH1 W := by
      rw [hW]
      exact (uxH1 rfl hI.2.2.2.2.2.2.2.2.2.2.1)
    have k_xK1 : xK1 W := by
      rw [hW]
      exact (uxK1 rfl hI.2.2.2.2.2.2.2.2.2.2.2.1)
    have k_xC1 : xC1 W := by
      rw [hW]
      exact (uxC1 rfl hI.2.2.2.2.2.2.2.2.2.2.2.2.1)
    have k_xRW : xRW W := by
      rw [hW]
      exact (uxRW rfl hI.2.2.2.2.2.2.2.2.2.2.2.2.2.1)
    have k_xWT : xWT W := by
      rw [hW]
      exact (uxWT rfl hI.2.2.2.2.2.2.2.2.2.2.2.2.2.2.1)
    have k_xCU : xCU W := by
      rw [hW]
      exact (uxCU rfl hI.2.2.2.2.2.2.2.2.2.2.2.2.2.2.2.1)
    have k_xG2 : xG2 W := by
      rw [hW]
      exact (uxG2 rfl hI.2.2.2.2.2.2.2.2.2.2.2.2.2.2.2.2.1)
    have k_xG3 : xG3 W := by
      rw [hW]
      exact (uxG3 rfl hI.2.2.2.2.2.2.2.2.2.2.2.2.2.2.2.2.2.1)
    have k_xG4 : xG4 W := by
      rw [hW]
      exact (uxG4 rfl hI.2.2.2.2.2.2.2.2.2.2.2.2.2.2.2.2.2.2.1)
    have k_xG5 : xG5 W := by
      rw [hW]
      exact (uxG5 rfl hI.2.2.2.2.2.2.2.2.2.2.2.2.2.2.2.2.2.2.2.1)
    have k_xG6 : xG6 W := by
      rw [hW]
      exact (uxG6 rfl hI.2.2.2.2.2.2.2.2.2.2.2.2.2.2.2.2.2.2.2.2.1)
    have k_xS1 : xS1 W := by
      rw [hW]
      exact (uxS1 rfl hI.2.2.2.2.2.2.2.2.2.2.2.2.2.2.2.2.2.2.2.2.2.1)
    have k_xS2 : xS2 W := by
      rw [hW]
      exact (uxS2 rfl hI.2.2.2.2.2.2.2.2.2.2.2.2.2.2.2.2.2.2.2.2.2.2.1)
    have k_xS3 : xS3 W := by
      rw [hW]
      exact (uxS3 rfl hI.2.2.2.2.2.2.2.2.2.2.2.2.2.2.2.2.2.2.2.2.2.2.2.1)
    have k_xS4 : xS4 W := by
      rw [hW]
      exact (uxS4 rfl hI.2.2.2.2.2.2.2.2.2.2.2.2.2.2.2.2.2.2.2.2.2.2.2.2.1)
    have k_xS5 : xS5 W := by
      rw [hW]
      exact (uxS5 rfl hI.2.2.2.2.2.2.2.2.2.2.2.2.2.2.2.2.2.2.2.2.2.2.2.2.2.1)
    have k_xS6 : xS6 W := by
      rw [hW]
      exact (uxS6 rfl hI.2.2.2.2.2.2.2.2.2.2.2.2.2.2.2.2.2.2.2.2.2.2.2.2.2.2.1)
    have k_xS7 : xS7 W := by
      rw [hW]
      exact (uxS7 rfl hI.2.2.2.2.2.2.2.2.2.2.2.2.2.2.2.2.2.2.2.2.2.2.2.2.2.2.2.1)
    have k_xS8 : xS8 W := by
      rw [hW]
      exact (uxS8 rfl hI.2.2.2.2.2.2.2.2.2.2.2.2.2.2.2.2.2.2.2.2.2.2.2.2.2.2.2.2.1)
    have k_xS9 : xS9 W := by
      rw [hW]
      exact (uxS9 rfl hI.2.2.2.2.2.2.2.2.2.2.2.2.2.2.2.2.2.2.2.2.2.2.2.2.2.2.2.2.2.1)
    have k_xSA : xSA W := by
      rw [hW]
      exact (uxSA rfl hI.2.2.2.2.2.2.2.2.2.2.2.2.2.2.2.2.2.2.2.2.2.2.2.2.2.2.2.2.2.2.1)
    have k_xSG : xSG W := by
      rw [hW]
      exact (uxSG rfl hI.2.2.2.2.2.2.2.2.2.2.2.2.2.2.2.2.2.2.2.2.2.2.2.2.2.2.2.2.2.2.2.1)
    have k_xSF : xSF W := by
      rw [hW]
      exact (uxSF rfl hI.2.2.2.2.2.2.2.2.2.2.2.2.2.2.2.2.2.2.2.2.2.2.2.2.2.2.2.2.2.2.2.2.1)
    have k_xSB : xSB W := by
      rw [hW]
      exact (uxSB rfl hI.2.2.2.2.2.2.2.2.2.2.2.2.2.2.2.2.2.2.2.2.2.2.2.2.2.2.2.2.2.2.2.2.2.1)
    have k_xSC : xSC W := by
      have r4_226 : W 4 226 = M 4 226 := by rw [hW, sU_ne (fun z => by omega)]
      have r4_227 : W 4 227 = 14 * ρ 0 + 0 := by rw [hW, sU_at]
      have r4_219 : W 4 219 = M 4 219 := by rw [hW, sU_ne (fun z => by omega)]
      intro h
      rw [r4_227, r4_219, h0]
      refine ⟨by omega, by omega, ?_⟩
      have e1 := tki_on (x := M 4 219) (w := 13) (show tLa[13]? = some (412307456 : Int) from rfl)
      rw [if_neg (by omega)] at e1
      rw [show M 4 227 = 13 by omega] at l3
      rw [← l3]
      exact e1.symm
    have k_xSD : xSD W := by
      rw [hW]
      exact (uxSD rfl hI.2.2.2.2.2.2.2.2.2.2.2.2.2.2.2.2.2.2.2.2.2.2.2.2.2.2.2.2.2.2.2.2.2.2.2.1)
    have k_xSE : xSE W := by
      rw [hW]
      exact (uxSE rfl hI.2.2.2.2.2.2.2.2.2.2.2.2.2.2.2.2.2.2.2.2.2.2.2.2.2.2.2.2.2.2.2.2.2.2.2.2.1)
    have k_xSW : xSW W := by
      rw [hW]
      exact (uxSW rfl hI.2.2.2.2.2.2.2.2.2.2.2.2.2.2.2.2.2.2.2.2.2.2.2.2.2.2.2.2.2.2.2.2.2.2.2.2.2.1)
    have k_xST : xST W := by
      rw [hW]
      exact (uxST rfl hI.2.2.2.2.2.2.2.2.2.2.2.2.2.2.2.2.2.2.2.2.2.2.2.2.2.2.2.2.2.2.2.2.2.2.2.2.2.2.1)
    have k_xSP : xSP W := by
      rw [hW]
      exact (uxSP rfl hI.2.2.2.2.2.2.2.2.2.2.2.2.2.2.2.2.2.2.2.2.2.2.2.2.2.2.2.2.2.2.2.2.2.2.2.2.2.2.2.1)
    have k_xSL : xSL W := by
      rw [hW]
      exact (uxSL rfl hI.2.2.2.2.2.2.2.2.2.2.2.2.2.2.2.2.2.2.2.2.2.2.2.2.2.2.2.2.2.2.2.2.2.2.2.2.2.2.2.2.1)
    have k_xSM : xSM W := by
      rw [hW]
      exact (uxSM rfl hI.2.2.2.2.2.2.2.2.2.2.2.2.2.2.2.2.2.2.2.2.2.2.2.2.2.2.2.2.2.2.2.2.2.2.2.2.2.2.2.2.2.1)
    have k_xSI : xSI W := by
      rw [hW]
      exact (uxSI rfl hI.2.2.2.2.2.2.2.2.2.2.2.2.2.2.2.2.2.2.2.2.2.2.2.2.2.2.2.2.2.2.2.2.2.2.2.2.2.2.2.2.2.2.1)
    have k_xD3 : xD3 W := by
      rw [hW]
      exact (uxD3 rfl hI.2.2.2.2.2.2.2.2.2.2.2.2.2.2.2.2.2.2.2.2.2.2.2.2.2.2.2.2.2.2.2.2.2.2.2.2.2.2.2.2.2.2.2.1)
    have k_xDV : xDV W := by
      rw [hW]
      exact (uxDV rfl hI.2.2.2.2.2.2.2.2.2.2.2.2.2.2.2.2.2.2.2.2.2.2.2.2.2.2.2.2.2.2.2.2.2.2.2.2.2.2.2.2.2.2.2.2.1)
    have k_xDP : xDP W := by
      rw [hW]
      exact (uxDP rfl hI.2.2.2.2.2.2.2.2.2.2.2.2.2.2.2.2.2.2.2.2.2.2.2.2.2.2.2.2.2.2.2.2.2.2.2.2.2.2.2.2.2.2.2.2.2.1)
    have k_xDE : xDE W := by
      rw [hW]
      exact (uxDE rfl hI.2.2.2.2.2.2.2.2.2.2.2.2.2.2.2.2.2.2.2.2.2.2.2.2.2.2.2.2.2.2.2.2.2.2.2.2.2.2.2.2.2.2.2.2.2.2.1)
    have k_xQ5 : xQ5 W := by
      rw [hW]
      exact (uxQ5 rfl hI.2.2.2.2.2.2.2.2.2.2.2.2.2.2.2.2.2.2.2.2.2.2.2.2.2.2.2.2.2.2.2.2.2.2.2.2.2.2.2.2.2.2.2.2.2.2.2.1)
    have k_xQL : xQL W := by
      rw [hW]
      exact (uxQL rfl hI.2.2.2.2.2.2.2.2.2.2.2.2.2.2.2.2.2.2.2.2.2.2.2.2.2.2.2.2.2.2.2.2.2.2.2.2.2.2.2.2.2.2.2.2.2.2.2.2.1)
    have k_xQW : xQW W := by
      rw [hW]
      exact (uxQW rfl hI.2.2.2.2.2.2.2.2.2.2.2.2.2.2.2.2.2.2.2.2.2.2.2.2.2.2.2.2.2.2.2.2.2.2.2.2.2.2.2.2.2.2.2.2.2.2.2.2.2.1)
    have k_xQM : xQM W := by
      rw [hW]
      exact (uxQM rfl hI.2.2.2.2.2.2.2.2.2.2.2.2.2.2.2.2.2.2.2.2.2.2.2.2.2.2.2.2.2.2.2.2.2.2.2.2.2.2.2.2.2.2.2.2.2.2.2.2.2.2.1)
    have k_xQH : xQH W := by
      rw [hW]
      exact (uxQH rfl hI.2.2.2.2.2.2.2.2.2.2.2.2.2.2.2.2.2.2.2.2.2.2.2.2.2.2.2.2.2.2.2.2.2.2.2.2.2.2.2.2.2.2.2.2.2.2.2.2.2.2.2)
    have k_XC : XC W := ⟨k_xS1, k_xS2, k_xS3, k_xS4, k_xS5, k_xS6, k_xS7, k_xS8, k_xS9, k_xSA, k_xSG, k_xSF, k_xSB, k_xSC, k_xSD, k_xSE, k_xSW, k_xST, k_xSP, k_xSL, k_xSM, k_xSI, k_xD3, k_xDV, k_xDP, k_xDE, k_xQ5, k_xQL, k_xQW, k_xQM, k_xQH⟩
    have kXB : XB W := ⟨k_xN1, k_xN2, k_xN3, k_xN4, k_xN5, k_xN6, k_xH1, k_xK1, k_xC1, k_xRW, k_xWT, k_xCU, k_xG2, k_xG3, k_xG4, k_xG5, k_xG6, k_XC⟩
    exact ⟨base, k2, k3, kXA, kXB⟩
-- wHitR14_c
def xr_452 : qRu := (13, [[(-1, 0), (1, 5)], [(1, 1)], [(-1, 1), (1, 9)], [(1, 1), (-1, 9)], [(-1, 0), (-1, 1), (1, 10)], [(6, 0), (1, 9), (-1, 10)], [(-559296512, 0), (1, 11)], [(559296512, 0), (-1, 11)]], [(4, 210, [(1, 0)]), (4, 211, [(1, 1)]), (4, 101, [(1, 2)]), (3, 46, [(1, 3)]), (3, 47, [(1, 4)]), (4, 100, [(1, 5)]), (3, 44, [(1, 6)]), (3, 45, [(1, 7)]), (4, 107, [(1, 8)]), (4, 214, [(1, 0)]), (4, 215, [(1, 9)]), (4, 217, [(1, 10)]), (4, 219, [(1, 11)]), (4, 216, [(1, 12)])], [], [], [[(-1, 1), (1, 3)], [(1, 1), (-1, 3)], [(1, 4), (-1, 10)], [(-1, 4), (1, 10)], [(-32, 0), (1, 6)], [(32, 0), (-1, 6)], [(1, 7), (-1, 11)], [(-1, 7), (1, 11)]])
theorem xo_452 : qRok xr_452 := by
  intro ρ M h0 hf hm hI
  have f0 := hf [(-1, 0), (1, 5)] (by decide)
  have f1 := hf [(1, 1)] (by decide)
  have f2 := hf [(-1, 1), (1, 9)] (by decide)
  have f3 := hf [(1, 1), (-1, 9)] (by decide)
  have f4 := hf [(-1, 0), (-1, 1), (1, 10)] (by decide)
  have f5 := hf [(6, 0), (1, 9), (-1, 10)] (by decide)
  have f6 := hf [(-559296512, 0), (1, 11)] (by decide)
  have f7 := hf [(559296512, 0), (-1, 11)] (by decide)
  simp only [qD, h0] at f0 f1 f2 f3 f4 f5 f6 f7
  have m0 : M 4 210 = 1 * ρ 0 + 0 := hm (4, 210, [(1, 0)]) (by decide)
  have m1 : M 4 211 = 1 * ρ 1 + 0 := hm (4, 211, [(1, 1)]) (by decide)
  have m2 : M 4 101 = 1 * ρ 2 + 0 := hm (4, 101, [(1, 2)]) (by decide)
  have m3 : M 3 46 = 1 * ρ 3 + 0 := hm (3, 46, [(1, 3)]) (by decide)
  have m4 : M 3 47 = 1 * ρ 4 + 0 := hm (3, 47, [(1, 4)]) (by decide)
  have m5 : M 4 100 = 1 * ρ 5 + 0 := hm (4, 100, [(1, 5)]) (by decide)
  have m6 : M 3 44 = 1 * ρ 6 + 0 := hm (3, 44, [(1, 6)]) (by decide)
  have m7 : M 3 45 = 1 * ρ 7 + 0 := hm (3, 45, [(1, 7)]) (by decide)
  have m8 : M 4 107 = 1 * ρ 8 + 0 := hm (4, 107, [(1, 8)]) (by decide)
  have m9 : M 4 214 = 1 * ρ 0 + 0 := hm (4, 214, [(1, 0)]) (by decide)
  have m10 : M 4 215 = 1 * ρ 9 + 0 := hm (4, 215, [(1, 9)]) (by decide)
  have m11 : M 4 217 = 1 * ρ 10 + 0 := hm (4, 217, [(1, 10)]) (by decide)
  have m12 : M 4 219 = 1 * ρ 11 + 0 := hm (4, 219, [(1, 11)]) (by decide)
  have m13 : M 4 216 = 1 * ρ 12 + 0 := hm (4, 216, [(1, 12)]) (by decide)
  simp only [h0] at m0 m9
  obtain ⟨u1, u2, _⟩ := gx_xS8 hI (by omega)

  obtain ⟨a1, a2, a3, a4, a5, a6, a7⟩ := gx_xSA hI (by omega)
  have eq1 : (M 4 215).toNat = (M 4 211).toNat := by omega
  rw [eq1] at a6 a7
  have hgt := ten_gt (g := M 92) (lo := 97) (hi := 122) (n := (M 4 101).toNat) (q := (M 4 211).toNat) (by omega)
  have el1 : (M 4 217 - M 4 215).toNat = tEn (M 92) 97 122 (M 4 101).toNat (M 4 211).toNat - (M 4 211).toNat := by omega
  rw [el1] at a7

  obtain ⟨t1, t2, t3, t4, t5, t6⟩ := tk_of hI (by omega) (by omega) (by omega) (show tAt (M 92) (M 4 101).toNat (M 4 211).toNat (M 4 107) (M 4 108) = (32, M 4 219, ((M 4 211).toNat : Int), M 4 217, 0, 14) from by
    unfold tAt
    rw [if_neg (by omega), if_pos hgt.2]
    unfold tWo
    rw [← a7, ← a6]
    have hk : tKi (M 4 219) 0 = 32 := by
      rw [show M 4 219 = 559296512 by omega]
      decide
    have h6 : ¬ (6 < tEn (M 92) 97 122 (M 4 101).toNat (M 4 211).toNat - (M 4 211).toNat) := by omega
    unfold tWk tWs tWv
    rw [if_neg h6, if_neg h6, if_neg h6, hk]
    rfl)
  refine ⟨ρ, fun _ _ => rfl, fun f h => ?_, ?_⟩
  · have h : f ∈ ([[(-1, 1), (1, 3)], [(1, 1), (-1, 3)], [(1, 4), (-1, 10)], [(-1, 4), (1, 10)], [(-32, 0), (1, 6)], [(32, 0), (-1, 6)], [(1, 7), (-1, 11)], [(-1, 7), (1, 11)]] : List qF) := h
    simp only [List.mem_cons, List.not_mem_nil, or_false] at h
    rcases h with rfl | rfl | rfl | rfl | rfl | rfl | rfl | rfl
    · show 0 ≤ -1 * ρ 1 + (1 * ρ 3 + 0)
      (try rw [h0]); omega
    · show 0 ≤ 1 * ρ 1 + (-1 * ρ 3 + 0)
      (try rw [h0]); omega
    · show 0 ≤ 1 * ρ 4 + (-1 * ρ 10 + 0)
      (try rw [h0]); omega
    · show 0 ≤ -1 * ρ 4 + (1 * ρ 10 + 0)
      (try rw [h0]); omega
    · show 0 ≤ -32 * ρ 0 + (1 * ρ 6 + 0)
      (try rw [h0]); omega
    · show 0 ≤ 32 * ρ 0 + (-1 * ρ 6 + 0)
      (try rw [h0]); omega
    · show 0 ≤ 1 * ρ 7 + (-1 * ρ 11 + 0)
      (try rw [h0]); omega
    · show 0 ≤ -1 * ρ 7 + (1 * ρ 11 + 0)
      (try rw [h0]); omega
  · show sI M
    exact hI
-- wHitR14_r
def xr_453 : qRu := (13, [[(-1, 0), (1, 5)], [(1, 1)], [(-1, 1), (1, 9)], [(1, 1), (-1, 9)], [(-1, 0), (-1, 1), (1, 10)], [(6, 0), (1, 9), (-1, 10)], [(-559296512, 0), (1, 11)], [(559296512, 0), (-1, 11)]], [(4, 210, [(1, 0)]), (4, 211, [(1, 1)]), (4, 101, [(1, 2)]), (3, 46, [(1, 3)]), (3, 47, [(1, 4)]), (4, 100, [(1, 5)]), (3, 50, [(1, 6)]), (3, 51, [(1, 7)]), (4, 108, [(1, 8)]), (4, 214, [(1, 0)]), (4, 215, [(1, 9)]), (4, 217, [(1, 10)]), (4, 219, [(1, 11)]), (4, 216, [(1, 12)])], [], [], [[(-1, 1), (1, 3)], [(1, 1), (-1, 3)], [(1, 4), (-1, 10)], [(-1, 4), (1, 10)], [(1, 6)], [(-1, 6)], [(-14, 0), (1, 7)], [(14, 0), (-1, 7)]])
theorem xo_453 : qRok xr_453 := by
  intro ρ M h0 hf hm hI
  have f0 := hf [(-1, 0), (1, 5)] (by decide)
  have f1 := hf [(1, 1)] (by decide)
  have f2 := hf [(-1, 1), (1, 9)] (by decide)
  have f3 := hf [(1, 1), (-1, 9)] (by decide)
  have f4 := hf [(-1, 0), (-1, 1), (1, 10)] (by decide)
  have f5 := hf [(6, 0), (1, 9), (-1, 10)] (by decide)
  have f6 := hf [(-559296512, 0), (1, 11)] (by decide)
  have f7 := hf [(559296512, 0), (-1, 11)] (by decide)
  simp only [qD, h0] at f0 f1 f2 f3 f4 f5 f6 f7
  have m0 : M 4 210 = 1 * ρ 0 + 0 := hm (4, 210, [(1, 0)]) (by decide)
  have m1 : M 4 211 = 1 * ρ 1 + 0 := hm (4, 211, [(1, 1)]) (by decide)
  have m2 : M 4 101 = 1 * ρ 2 + 0 := hm (4, 101, [(1, 2)]) (by decide)
  have m3 : M 3 46 = 1 * ρ 3 + 0 := hm (3, 46, [(1, 3)]) (by decide)
  have m4 : M 3 47 = 1 * ρ 4 + 0 := hm (3, 47, [(1, 4)]) (by decide)
  have m5 : M 4 100 = 1 * ρ 5 + 0 := hm (4, 100, [(1, 5)]) (by decide)
  have m6 : M 3 50 = 1 * ρ 6 + 0 := hm (3, 50, [(1, 6)]) (by decide)
  have m7 : M 3 51 = 1 * ρ 7 + 0 := hm (3, 51, [(1, 7)]) (by decide)
  have m8 : M 4 108 = 1 * ρ 8 + 0 := hm (4, 108, [(1, 8)]) (by decide)
  have m9 : M 4 214 = 1 * ρ 0 + 0 := hm (4, 214, [(1, 0)]) (by decide)
  have m10 : M 4 215 = 1 * ρ 9 + 0 := hm (4, 215, [(1, 9)]) (by decide)
  have m11 : M 4 217 = 1 * ρ 10 + 0 := hm (4, 217, [(1, 10)]) (by decide)
  have m12 : M 4 219 = 1 * ρ 11 + 0 := hm (4, 219, [(1, 11)]) (by decide)
  have m13 : M 4 216 = 1 * ρ 12 + 0 := hm (4, 216, [(1, 12)]) (by decide)
  simp only [h0] at m0 m9
  obtain ⟨u1, u2, _⟩ := gx_xS8 hI (by omega)

  obtain ⟨a1, a2, a3, a4, a5, a6, a7⟩ := gx_xSA hI (by omega)
  have eq1 : (M 4 215).toNat = (M 4 211).toNat := by omega
  rw [eq1] at a6 a7
  have hgt := ten_gt (g := M 92) (lo := 97) (hi := 122) (n := (M 4 101).toNat) (q := (M 4 211).toNat) (by omega)
  have el1 : (M 4 217 - M 4 215).toNat = tEn (M 92) 97 122 (M 4 101).toNat (M 4 211).toNat - (M 4 211).toNat := by omega
  rw [el1] at a7

  obtain ⟨t1, t2, t3, t4, t5, t6⟩ := tk_of hI (by omega) (by omega) (by omega) (show tAt (M 92) (M 4 101).toNat (M 4 211).toNat (M 4 107) (M 4 108) = (32, M 4 219, ((M 4 211).toNat : Int), M 4 217, 0, 14) from by
    unfold tAt
    rw [if_neg (by omega), if_pos hgt.2]
    unfold tWo
    rw [← a7, ← a6]
    have hk : tKi (M 4 219) 0 = 32 := by
      rw [show M 4 219 = 559296512 by omega]
      decide
    have h6 : ¬ (6 < tEn (M 92) 97 122 (M 4 101).toNat (M 4 211).toNat - (M 4 211).toNat) := by omega
    unfold tWk tWs tWv
    rw [if_neg h6, if_neg h6, if_neg h6, hk]
    rfl)
  refine ⟨ρ, fun _ _ => rfl, fun f h => ?_, ?_⟩
  · have h : f ∈ ([[(-1, 1), (1, 3)], [(1, 1), (-1, 3)], [(1, 4), (-1, 10)], [(-1, 4), (1, 10)], [(1, 6)], [(-1, 6)], [(-14, 0), (1, 7)], [(14, 0), (-1, 7)]] : List qF) := h
    simp only [List.mem_cons, List.not_mem_nil, or_false] at h
    rcases h with rfl | rfl | rfl | rfl | rfl | rfl | rfl | rfl
    · show 0 ≤ -1 * ρ 1 + (1 * ρ 3 + 0)
      (try rw [h0]); omega
    · show 0 ≤ 1 * ρ 1 + (-1 * ρ 3 + 0)
      (try rw [h0]); omega
    · show 0 ≤ 1 * ρ 4 + (-1 * ρ 10 + 0)
      (try rw [h0]); omega
    · show 0 ≤ -1 * ρ 4 + (1 * ρ 10 + 0)
      (try rw [h0]); omega
    · show 0 ≤ 1 * ρ 6 + 0
      (try rw [h0]); omega
    · show 0 ≤ -1 * ρ 6 + 0
      (try rw [h0]); omega
    · show 0 ≤ -14 * ρ 0 + (1 * ρ 7 + 0)
      (try rw [h0]); omega
    · show 0 ≤ 14 * ρ 0 + (-1 * ρ 7 + 0)
      (try rw [h0]); omega
  · show sI M
    exact hI
-- langMissR14L
def xr_454 : qRu := (3, [[(559296511, 0), (-1, 2)]], [(4, 226, [(1, 0)]), (4, 227, [(14, 0)]), (4, 219, [(1, 2)])], [], [(4, 227, [(15, 0)])], [])
theorem xo_454 : qRok xr_454 := by
  intro ρ M h0 hf hm hI
  have f0 := hf [(559296511, 0), (-1, 2)] (by decide)
  simp only [qD, h0] at f0
  have m0 : M 4 226 = 1 * ρ 0 + 0 := hm (4, 226, [(1, 0)]) (by decide)
  have m1 : M 4 227 = 14 * ρ 0 + 0 := hm (4, 227, [(14, 0)]) (by decide)
  have m2 : M 4 219 = 1 * ρ 2 + 0 := hm (4, 219, [(1, 2)]) (by decide)
  simp only [h0] at m0 m1
  have qxSC := hI.2.2.2.2.2.2.2.2.2.2.2.2.2.2.2.2.2.2.2.2.2.2.2.2.2.2.2.2.2.2.2.2.2.2.1
  obtain ⟨l1, l2, l3⟩ := gx_xSC hI (by omega)
  refine ⟨ρ, fun _ _ => rfl, fun f h => ?_, ?_⟩
  · exact nomatch h
  · show sI (sU M 4 227 (15 * ρ 0 + 0))
    obtain ⟨W, hW⟩ : ∃ W, W = (sU M 4 227 (15 * ρ 0 + 0)) := ⟨_, rfl⟩
    rw [← hW]
    have base : sI0 W := by
      rw [hW]
      exact (si_u0 hI.1 (fun r hr => by cases hr))
    have k2 : XI2 W := by
      rw [hW]
      exact (xi2_u rfl hI.2.1)
    have k3 : XI3 W := by
      rw [hW]
      exact (xi3_u rfl hI.2.2.1)
    have kXA : XA W := by
      rw [hW]
      exact (uXA rfl hI.2.2.2.1)
    have k_xN1 : xN1 W := by
      rw [hW]
      exact (uxN1 rfl hI.2.2.2.2.1)
    have k_xN2 : xN2 W := by
      rw [hW]
      exact (uxN2 rfl hI.2.2.2.2.2.1)
    have k_xN3 : xN3 W := by
      rw [hW]
      exact (uxN3 rfl hI.2.2.2.2.2.2.1)
    have k_xN4 : xN4 W := by
      rw [hW]
      exact (uxN4 rfl hI.2.2.2.2.2.2.2.1)
    have k_xN5 : xN5 W := by
      rw [hW]
      exact (uxN5 rfl hI.2.2.2.2.2.2.2.2.1)
    have k_xN6 : xN6 W := by
      rw [hW]
      exact (uxN6 rfl hI.2.2.2.2.2.2.2.2.2.1)
    have k_xH1 : xH1 W := by
      rw [hW]
      exact (uxH1 rfl hI.2.2.2.2.2.2.2.2.2.2.1)
    have k_xK1 : xK1 W := by
      rw [hW]
      exact (uxK1 rfl hI.2.2.2.2.2.2.2.2.2.2.2.1)
    have k_xC1 : xC1 W := by
      rw [hW]
      exact (uxC1 rfl hI.2.2.2.2.2.2.2.2.2.2.2.2.1)
    have k_xRW : xRW W := by
      rw [hW]
      exact (uxRW rfl hI.2.2.2.2.2.2.2.2.2.2.2.2.2.1)
    have k_xWT : xWT W := by
      rw [hW]
      exact (uxWT rfl hI.2.2.2.2.2.2.2.2.2.2.2.2.2.2.1)
    have k_xCU : xCU W := by
      rw [hW]
      exact (uxCU rfl hI.2.2.2.2.2.2.2.2.2.2.2.2.2.2.2.1)
    have k_xG2 : xG2 W := by
      rw [hW]
      exact (uxG2 rfl hI.2.2.2.2.2.2.2.2.2.2.2.2.2.2.2.2.1)
    have k_xG3 : xG3 W := by
      rw [hW]
      exact (uxG3 rfl hI.2.2.2.2.2.2.2.2.2.2.2.2.2.2.2.2.2.1)
    have k_xG4 : xG4 W := by
      rw [hW]
      exact (uxG4 rfl hI.2.2.2.2.2.2.2.2.2.2.2.2.2.2.2.2.2.2.1)
    have k_xG5 : xG5 W := by
      rw [hW]
      exact (uxG5 rfl hI.2.2.2.2.2.2.2.2.2.2.2.2.2.2.2.2.2.2.2.1)
    have k_xG6 : xG6 W := by
      rw [hW]
      exact (uxG6 rfl hI.2.2.2.2.2.2.2.2.2.2.2.2.2.2.2.2.2.2.2.2.1)
    have k_xS1 : xS1 W := by
      rw [hW]
      exact (uxS1 rfl hI.2.2.2.2.2.2.2.2.2.2.2.2.2.2.2.2.2.2.2.2.2.1)
    have k_xS2 : xS2 W := by
      rw [hW]
      exact (uxS2 rfl hI.2.2.2.2.2.2.2.2.2.2.2.2.2.2.2.2.2.2.2.2.2.2.1)
    have k_xS3 : xS3 W := by
      rw [hW]
      exact (uxS3 rfl hI.2.2.2.2.2.2.2.2.2.2.2.2.2.2.2.2.2.2.2.2.2.2.2.1)
    have k_xS4 : xS4 W := by
      rw [hW]
      exact (uxS4 rfl hI.2.2.2.2.2.2.2.2.2.2.2.2.2.2.2.2.2.2.2.2.2.2.2.2.1)
    have k_xS5 : xS5 W := by
      rw [hW]
      exact (uxS5 rfl hI.2.2.2.2.2.2.2.2.2.2.2.2.2.2.2.2.2.2.2.2.2.2.2.2.2.1)
    have k_xS6 : xS6 W := by
      rw [hW]
      exact (uxS6 rfl hI.2.2.2.2.2.2.2.2.2.2.2.2.2.2.2.2.2.2.2.2.2.2.2.2.2.2.1)
    have k_xS7 : xS7 W := by
      rw [hW]
      exact (uxS7 rfl hI.2.2.2.2.2.2.2.2.2.2.2.2.2.2.2.2.2.2.2.2.2.2.2.2.2.2.2.1)
    have k_xS8 : xS8 W := by
      rw [hW]
      exact (uxS8 rfl hI.2.2.2.2.2.2.2.2.2.2.2.2.2.2.2.2.2.2.2.2.2.2.2.2.2.2.2.2.1)
    have k_xS9 : xS9 W := by
      rw [hW]
      exact (uxS9 rfl hI.2.2.2.2.2.2.2.2.2.2.2.2.2.2.2.2.2.2.2.2.2.2.2.2.2.2.2.2.2.1)
    have k_xSA : xSA W := by
      rw [hW]
      exact (uxSA rfl hI.2.2.2.2.2.2.2.2.2.2.2.2.2.2.2.2.2.2.2.2.2.2.2.2.2.2.2.2.2.2.1)
    have k_xSG : xSG W := by
      rw [hW]
      exact (uxSG rfl hI.2.2.2.2.2.2.2.2.2.2.2.2.2.2.2.2.2.2.2.2.2.2.2.2.2.2.2.2.2.2.2.1)
    have k_xSF : xSF W := by
      rw [hW]
      exact (uxSF rfl hI.2.2.2.2.2.2.2.2.2.2.2.2.2.2.2.2.2.2.2.2.2.2.2.2.2.2.2.2.2.2.2.2.1)
    have k_xSB : xSB W := by
      rw [hW]
      exact (uxSB rfl hI.2.2.2.2.2.2.2.2.2.2.2.2.2.2.2.2.2.2.2.2.2.2.2.2.2.2.2.2.2.2.2.2.2.1)
    have k_xSC : xSC W := by
      have r4_226 : W 4 226 = M 4 226 := by rw [hW, sU_ne (fun z => by omega)]
      have r4_227 : W 4 227 = 15 * ρ 0 + 0 := by rw [hW, sU_at]
      have r4_219 : W 4 219 = M 4 219 := by rw [hW, sU_ne (fun z => by omega)]
      intro h
      rw [r4_227, r4_219, h0]
      refine ⟨by omega, by omega, ?_⟩
      have e1 := tki_on (x := M 4 219) (w := 14) (show tLa[14]? = some (559296512 : Int) from rfl)
      rw [if_neg (by omega)] at e1
      rw [show M 4 227 = 14 by omega] at l3
      rw [← l3]
      exact e1.symm
    have k_xSD : xSD W := by
      rw [hW]
      exact (uxSD rfl hI.2.2.2.2.2.2.2.2.2.2.2.2.2.2.2.2.2.2.2.2.2.2.2.2.2.2.2.2.2.2.2.2.2.2.2.1)
    have k_xSE : xSE W := by
      rw [hW]
      exact (uxSE rfl hI.2.2.2.2.2.2.2.2.2.2.2.2.2.2.2.2.2.2.2.2.2.2.2.2.2.2.2.2.2.2.2.2.2.2.2.2.1)
    have k_xSW : xSW W := by
      rw [hW]
      exact (uxSW rfl hI.2.2.2.2.2.2.2.2.2.2.2.2.2.2.2.2.2.2.2.2.2.2.2.2.2.2.2.2.2.2.2.2.2.2.2.2.2.1)
    have k_xST : xST W := by
      rw [hW]
      exact (uxST rfl hI.2.2.2.2.2.2.2.2.2.2.2.2.2.2.2.2.2.2.2.2.2.2.2.2.2.2.2.2.2.2.2.2.2.2.2.2.2.2.1)
    have k_xSP : xSP W := by
      rw [hW]
      exact (uxSP rfl hI.2.2.2.2.2.2.2.2.2.2.2.2.2.2.2.2.2.2.2.2.2.2.2.2.2.2.2.2.2.2.2.2.2.2.2.2.2.2.2.1)
    have k_xSL : xSL W := by
      rw [hW]
      exact (uxSL rfl hI.2.2.2.2.2.2.2.2.2.2.2.2.2.2.2.2.2.2.2.2.2.2.2.2.2.2.2.2.2.2.2.2.2.2.2.2.2.2.2.2.1)
    have k_xSM : xSM W := by
      rw [hW]
      exact (uxSM rfl hI.2.2.2.2.2.2.2.2.2.2.2.2.2.2.2.2.2.2.2.2.2.2.2.2.2.2.2.2.2.2.2.2.2.2.2.2.2.2.2.2.2.1)
    have k_xSI : xSI W := by
      rw [hW]
      exact (uxSI rfl hI.2.2.2.2.2.2.2.2.2.2.2.2.2.2.2.2.2.2.2.2.2.2.2.2.2.2.2.2.2.2.2.2.2.2.2.2.2.2.2.2.2.2.1)
    have k_xD3 : xD3 W := by
      rw [hW]
      exact (uxD3 rfl hI.2.2.2.2.2.2.2.2.2.2.2.2.2.2.2.2.2.2.2.2.2.2.2.2.2.2.2.2.2.2.2.2.2.2.2.2.2.2.2.2.2.2.2.1)
    have k_xDV : xDV W := by
      rw [hW]
      exact (uxDV rfl hI.2.2.2.2.2.2.2.2.2.2.2.2.2.2.2.2.2.2.2.2.2.2.2.2.2.2.2.2.2.2.2.2.2.2.2.2.2.2.2.2.2.2.2.2.1)
    have k_xDP : xDP W := by
      rw [hW]
      exact (uxDP rfl hI.2.2.2.2.2.2.2.2.2.2.2.2.2.2.2.2.2.2.2.2.2.2.2.2.2.2.2.2.2.2.2.2.2.2.2.2.2.2.2.2.2.2.2.2.2.1)
    have k_xDE : xDE W := by
      rw [hW]
      exact (uxDE rfl hI.2.2.2.2.2.2.2.2.2.2.2.2.2.2.2.2.2.2.2.2.2.2.2.2.2.2.2.2.2.2.2.2.2.2.2.2.2.2.2.2.2.2.2.2.2.2.1)
    have k_xQ5 : xQ5 W := by
      rw [hW]
      exact (uxQ5 rfl hI.2.2.2.2.2.2.2.2.2.2.2.2.2.2.2.2.2.2.2.2.2.2.2.2.2.2.2.2.2.2.2.2.2.2.2.2.2.2.2.2.2.2.2.2.2.2.2.1)
    have k_xQL : xQL W := by
      rw [hW]
      exact (uxQL rfl hI.2.2.2.2.2.2.2.2.2.2.2.2.2.2.2.2.2.2.2.2.2.2.2.2.2.2.2.2.2.2.2.2.2.2.2.2.2.2.2.2.2.2.2.2.2.2.2.2.1)
    have k_xQW : xQW W := by
      rw [hW]
      exact (uxQW rfl hI.2.2.2.2.2.2.2.2.2.2.2.2.2.2.2.2.2.2.2.2.2.2.2.2.2.2.2.2.2.2.2.2.2.2.2.2.2.2.2.2.2.2.2.2.2.2.2.2.2.1)
    have k_xQM : xQM W := by
      rw [hW]
      exact (uxQM rfl hI.2.2.2.2.2.2.2.2.2.2.2.2.2.2.2.2.2.2.2.2.2.2.2.2.2.2.2.2.2.2.2.2.2.2.2.2.2.2.2.2.2.2.2.2.2.2.2.2.2.2.1)
    have k_xQH : xQH W := by
      rw [hW]
      exact (uxQH rfl hI.2.2.2.2.2.2.2.2.2.2.2.2.2.2.2.2.2.2.2.2.2.2.2.2.2.2.2.2.2.2.2.2.2.2.2.2.2.2.2.2.2.2.2.2.2.2.2.2.2.2.2)
    have k_XC : XC W := ⟨k_xS1, k_xS2, k_xS3, k_xS4, k_xS5, k_xS6, k_xS7, k_xS8, k_xS9, k_xSA, k_xSG, k_xSF, k_xSB, k_xSC, k_xSD, k_xSE, k_xSW, k_xST, k_xSP, k_xSL, k_xSM, k_xSI, k_xD3, k_xDV, k_xDP, k_xDE, k_xQ5, k_xQL, k_xQW, k_xQM, k_xQH⟩
    have kXB : XB W := ⟨k_xN1, k_xN2, k_xN3, k_xN4, k_xN5, k_xN6, k_xH1, k_xK1, k_xC1, k_xRW, k_xWT, k_xCU, k_xG2, k_xG3, k_xG4, k_xG5, k_xG6, k_XC⟩
    exact ⟨base, k2, k3, kXA, kXB⟩
-- langMissR14H
def xr_455 : qRu := (3, [[(-559296513, 0), (1, 2)]], [(4, 226, [(1, 0)]), (4, 227, [(14, 0)]), (4, 219, [(1, 2)])], [], [(4, 227, [(15, 0)])], [])
theorem xo_455 : qRok xr_455 := by
  intro ρ M h0 hf hm hI
  have f0 := hf [(-559296513, 0), (1, 2)] (by decide)
  simp only [qD, h0] at f0
  have m0 : M 4 226 = 1 * ρ 0 + 0 := hm (4, 226, [(1, 0)]) (by decide)
  have m1 : M 4 227 = 14 * ρ 0 + 0 := hm (4, 227, [(14, 0)]) (by decide)
  have m2 : M 4 219 = 1 * ρ 2 + 0 := hm (4, 219, [(1, 2)]) (by decide)
  simp only [h0] at m0 m1
  have qxSC := hI.2.2.2.2.2.2.2.2.2.2.2.2.2.2.2.2.2.2.2.2.2.2.2.2.2.2.2.2.2.2.2.2.2.2.1
  obtain ⟨l1, l2, l3⟩ := gx_xSC hI (by omega)
  refine ⟨ρ, fun _ _ => rfl, fun f h => ?_, ?_⟩
  · exact nomatch h
  · show sI (sU M 4 227 (15 * ρ 0 + 0))
    obtain ⟨W, hW⟩ : ∃ W, W = (sU M 4 227 (15 * ρ 0 + 0)) := ⟨_, rfl⟩
    rw [← hW]
    have base : sI0 W := by
      rw [hW]
      exact (si_u0 hI.1 (fun r hr => by cases hr))
    have k2 : XI2 W := by
      rw [hW]
      exact (xi2_u rfl hI.2.1)
    have k3 : XI3 W := by
      rw [hW]
      exact (xi3_u rfl hI.2.2.1)
    have kXA : XA W := by
      rw [hW]
      exact (uXA rfl hI.2.2.2.1)
    have k_xN1 : xN1 W := by
      rw [hW]
      exact (uxN1 rfl hI.2.2.2.2.1)
    have k_xN2 : xN2 W := by
      rw [hW]
      exact (uxN2 rfl hI.2.2.2.2.2.1)
    have k_xN3 : xN3 W := by
      rw [hW]
      exact (uxN3 rfl hI.2.2.2.2.2.2.1)
    have k_xN4 : xN4 W := by
      rw [hW]
      exact (uxN4 rfl hI.2.2.2.2.2.2.2.1)
    have k_xN5 : xN5 W := by
      rw [hW]
      exact (uxN5 rfl hI.2.2.2.2.2.2.2.2.1)
    have k_xN6 : xN6 W := by
      rw [hW]
      exact (uxN6 rfl hI.2.2.2.2.2.2.2.2.2.1)
    have k_xH1 : xH1 W := by
      rw [hW]
      exact (uxH1 rfl hI.2.2.2.2.2.2.2.2.2.2.1)
    have k_xK1 : xK1 W := by
      rw [hW]
      exact (uxK1 rfl hI.2.2.2.2.2.2.2.2.2.2.2.1)
    have k_xC1 : xC1 W := by
      rw [hW]
      exact (uxC1 rfl hI.2.2.2.2.2.2.2.2.2.2.2.2.1)
    have k_xRW : xRW W := by
      rw [hW]
      exact (uxRW rfl hI.2.2.2.2.2.2.2.2.2.2.2.2.2.1)
    have k_xWT : xWT W := by
      rw [hW]
      exact (uxWT rfl hI.2.2.2.2.2.2.2.2.2.2.2.2.2.2.1)
    have k_xCU : xCU W := by
      rw [hW]
      exact (uxCU rfl hI.2.2.2.2.2.2.2.2.2.2.2.2.2.2.2.1)
    have k_xG2 : xG2 W := by
      rw [hW]
      exact (uxG2 rfl hI.2.2.2.2.2.2.2.2.2.2.2.2.2.2.2.2.1)
    have k_xG3 : xG3 W := by
      rw [hW]
      exact (uxG3 rfl hI.2.2.2.2.2.2.2.2.2.2.2.2.2.2.2.2.2.1)
    have k_xG4 : xG4 W := by
      rw [hW]
      exact (uxG4 rfl hI.2.2.2.2.2.2.2.2.2.2.2.2.2.2.2.2.2.2.1)
    have k_xG5 : xG5 W := by
      rw [hW]
      exact (uxG5 rfl hI.2.2.2.2.2.2.2.2.2.2.2.2.2.2.2.2.2.2.2.1)
    have k_xG6 : xG6 W := by
      rw [hW]
      exact (uxG6 rfl hI.2.2.2.2.2.2.2.2.2.2.2.2.2.2.2.2.2.2.2.2.1)
    have k_xS1 : xS1 W := by
      rw [hW]
      exact (uxS1 rfl hI.2.2.2.2.2.2.2.2.2.2.2.2.2.2.2.2.2.2.2.2.2.1)
    have k_xS2 : xS2 W := by
      rw [hW]
      exact (uxS2 rfl hI.2.2.2.2.2.2.2.2.2.2.2.2.2.2.2.2.2.2.2.2.2.2.1)
    have k_xS3 : xS3 W := by
      rw [hW]
      exact (uxS3 rfl hI.2.2.2.2.2.2.2.2.2.2.2.2.2.2.2.2.2.2.2.2.2.2.2.1)
    have k_xS4 : xS4 W := by
      rw [hW]
      exact (uxS4 rfl hI.2.2.2.2.2.2.2.2.2.2.2.2.2.2.2.2.2.2.2.2.2.2.2.2.1)
    have k_xS5 : xS5 W := by
      rw [hW]
      exact (uxS5 rfl hI.2.2.2.2.2.2.2.2.2.2.2.2.2.2.2.2.2.2.2.2.2.2.2.2.2.1)
    have k_xS6 : xS6 W := by
      rw [hW]
      exact (uxS6 rfl hI.2.2.2.2.2.2.2.2.2.2.2.2.2.2.2.2.2.2.2.2.2.2.2.2.2.2.1)
    have k_xS7 : xS7 W := by
      rw [hW]
      exact (uxS7 rfl hI.2.2.2.2.2.2.2.2.2.2.2.2.2.2.2.2.2.2.2.2.2.2.2.2.2.2.2.1)
    have k_xS8 : xS8 W := by
      rw [hW]
      exact (uxS8 rfl hI.2.2.2.2.2.2.2.2.2.2.2.2.2.2.2.2.2.2.2.2.2.2.2.2.2.2.2.2.1)
    have k_xS9 : xS9 W := by
      rw [hW]
      exact (uxS9 rfl hI.2.2.2.2.2.2.2.2.2.2.2.2.2.2.2.2.2.2.2.2.2.2.2.2.2.2.2.2.2.1)
    have k_xSA : xSA W := by
      rw [hW]
      exact (uxSA rfl hI.2.2.2.2.2.2.2.2.2.2.2.2.2.2.2.2.2.2.2.2.2.2.2.2.2.2.2.2.2.2.1)
    have k_xSG : xSG W := by
      rw [hW]
      exact (uxSG rfl hI.2.2.2.2.2.2.2.2.2.2.2.2.2.2.2.2.2.2.2.2.2.2.2.2.2.2.2.2.2.2.2.1)
    have k_xSF : xSF W := by
      rw [hW]
      exact (uxSF rfl hI.2.2.2.2.2.2.2.2.2.2.2.2.2.2.2.2.2.2.2.2.2.2.2.2.2.2.2.2.2.2.2.2.1)
    have k_xSB : xSB W := by
      rw [hW]
      exact (uxSB rfl hI.2.2.2.2.2.2.2.2.2.2.2.2.2.2.2.2.2.2.2.2.2.2.2.2.2.2.2.2.2.2.2.2.2.1)
    have k_xSC : xSC W := by
      have r4_226 : W 4 226 = M 4 226 := by rw [hW, sU_ne (fun z => by omega)]
      have r4_227 : W 4 227 = 15 * ρ 0 + 0 := by rw [hW, sU_at]
      have r4_219 : W 4 219 = M 4 219 := by rw [hW, sU_ne (fun z => by omega)]
      intro h
      rw [r4_227, r4_219, h0]
      refine ⟨by omega, by omega, ?_⟩
      have e1 := tki_on (x := M 4 219) (w := 14) (show tLa[14]? = some (559296512 : Int) from rfl)
      rw [if_neg (by omega)] at e1
      rw [show M 4 227 = 14 by omega] at l3
      rw [← l3]
      exact e1.symm
    have k_xSD : xSD W := by
      rw [hW]
      exact (uxSD rfl hI.2.2.2.2.2.2.2.2.2.2.2.2.2.2.2.2.2.2.2.2.2.2.2.2.2.2.2.2.2.2.2.2.2.2.2.1)
    have k_xSE : xSE W := by
      rw [hW]
      exact (uxSE rfl hI.2.2.2.2.2.2.2.2.2.2.2.2.2.2.2.2.2.2.2.2.2.2.2.2.2.2.2.2.2.2.2.2.2.2.2.2.1)
    have k_xSW : xSW W := by
      rw [hW]
      exact (uxSW rfl hI.2.2.2.2.2.2.2.2.2.2.2.2.2.2.2.2.2.2.2.2.2.2.2.2.2.2.2.2.2.2.2.2.2.2.2.2.2.1)
    have k_xST : xST W := by
      rw [hW]
      exact (uxST rfl hI.2.2.2.2.2.2.2.2.2.2.2.2.2.2.2.2.2.2.2.2.2.2.2.2.2.2.2.2.2.2.2.2.2.2.2.2.2.2.1)
    have k_xSP : xSP W := by
      rw [hW]
      exact (uxSP rfl hI.2.2.2.2.2.2.2.2.2.2.2.2.2.2.2.2.2.2.2.2.2.2.2.2.2.2.2.2.2.2.2.2.2.2.2.2.2.2.2.1)
    have k_xSL : xSL W := by
      rw [hW]
      exact (uxSL rfl hI.2.2.2.2.2.2.2.2.2.2.2.2.2.2.2.2.2.2.2.2.2.2.2.2.2.2.2.2.2.2.2.2.2.2.2.2.2.2.2.2.1)
    have k_xSM : xSM W := by
      rw [hW]
      exact (uxSM rfl hI.2.2.2.2.2.2.2.2.2.2.2.2.2.2.2.2.2.2.2.2.2.2.2.2.2.2.2.2.2.2.2.2.2.2.2.2.2.2.2.2.2.1)
    have k_xSI : xSI W := by
      rw [hW]
      exact (uxSI rfl hI.2.2.2.2.2.2.2.2.2.2.2.2.2.2.2.2.2.2.2.2.2.2.2.2.2.2.2.2.2.2.2.2.2.2.2.2.2.2.2.2.2.2.1)
    have k_xD3 : xD3 W := by
      rw [hW]
      exact (uxD3 rfl hI.2.2.2.2.2.2.2.2.2.2.2.2.2.2.2.2.2.2.2.2.2.2.2.2.2.2.2.2.2.2.2.2.2.2.2.2.2.2.2.2.2.2.2.1)
    have k_xDV : xDV W := by
      rw [hW]
      exact (uxDV rfl hI.2.2.2.2.2.2.2.2.2.2.2.2.2.2.2.2.2.2.2.2.2.2.2.2.2.2.2.2.2.2.2.2.2.2.2.2.2.2.2.2.2.2.2.2.1)
    have k_xDP : xDP W := by
      rw [hW]
      exact (uxDP rfl hI.2.2.2.2.2.2.2.2.2.2.2.2.2.2.2.2.2.2.2.2.2.2.2.2.2.2.2.2.2.2.2.2.2.2.2.2.2.2.2.2.2.2.2.2.2.1)
    have k_xDE : xDE W := by
      rw [hW]
      exact (uxDE rfl hI.2.2.2.2.2.2.2.2.2.2.2.2.2.2.2.2.2.2.2.2.2.2.2.2.2.2.2.2.2.2.2.2.2.2.2.2.2.2.2.2.2.2.2.2.2.2.1)
    have k_xQ5 : xQ5 W := by
      rw [hW]
      exact (uxQ5 rfl hI.2.2.2.2.2.2.2.2.2.2.2.2.2.2.2.2.2.2.2.2.2.2.2.2.2.2.2.2.2.2.2.2.2.2.2.2.2.2.2.2.2.2.2.2.2.2.2.1)
    have k_xQL : xQL W := by
      rw [hW]
      exact (uxQL rfl hI.2.2.2.2.2.2.2.2.2.2.2.2.2.2.2.2.2.2.2.2.2.2.2.2.2.2.2.2.2.2.2.2.2.2.2.2.2.2.2.2.2.2.2.2.2.2.2.2.1)
    have k_xQW : xQW W := by
      rw [hW]
      exact (uxQW rfl hI.2.2.2.2.2.2.2.2.2.2.2.2.2.2.2.2.2.2.2.2.2.2.2.2.2.2.2.2.2.2.2.2.2.2.2.2.2.2.2.2.2.2.2.2.2.2.2.2.2.1)
    have k_xQM : xQM W := by
      rw [hW]
      exact (uxQM rfl hI.2.2.2.2.2.2.2.2.2.2.2.2.2.2.2.2.2.2.2.2.2.2.2.2.2.2.2.2.2.2.2.2.2.2.2.2.2.2.2.2.2.2.2.2.2.2.2.2.2.2.1)
    have k_xQH : xQH W := by
      rw [hW]
      exact (uxQH rfl hI.2.2.2.2.2.2.2.2.2.2.2.2.2.2.2.2.2.2.2.2.2.2.2.2.2.2.2.2.2.2.2.2.2.2.2.2.2.2.2.2.2.2.2.2.2.2.2.2.2.2.2)
    have k_XC : XC W := ⟨k_xS1, k_xS2, k_xS3, k_xS4, k_xS5, k_xS6, k_xS7, k_xS8, k_xS9, k_xSA, k_xSG, k_xSF, k_xSB, k_xSC, k_xSD, k_xSE, k_xSW, k_xST, k_xSP, k_xSL, k_xSM, k_xSI, k_xD3, k_xDV, k_xDP, k_xDE, k_xQ5, k_xQL, k_xQW, k_xQM, k_xQH⟩
    have kXB : XB W := ⟨k_xN1, k_xN2, k_xN3, k_xN4, k_xN5, k_xN6, k_xH1, k_xK1, k_xC1, k_xRW, k_xWT, k_xCU, k_xG2, k_xG3, k_xG4, k_xG5, k_xG6, k_XC⟩
    exact ⟨base, k2, k3, kXA, kXB⟩
-- wHitR15_c
def xr_456 : qRu := (13, [[(-1, 0), (1, 5)], [(1, 1)], [(-1, 1), (1, 9)], [(1, 1), (-1, 9)], [(-1, 0), (-1, 1), (1, 10)], [(6, 0), (1, 9), (-1, 10)], [(-522190848, 0), (1, 11)], [(522190848, 0), (-1, 11)]], [(4, 210, [(1, 0)]), (4, 211, [(1, 1)]), (4, 101, [(1, 2)]), (3, 46, [(1, 3)]), (3, 47, [(1, 4)]), (4, 100, [(1, 5)]), (3, 44, [(1, 6)]), (3, 45, [(1, 7)]), (4, 107, [(1, 8)]), (4, 214, [(1, 0)]), (4, 215, [(1, 9)]), (4, 217, [(1, 10)]), (4, 219, [(1, 11)]), (4, 216, [(1, 12)])], [], [], [[(-1, 1), (1, 3)], [(1, 1), (-1, 3)], [(1, 4), (-1, 10)], [(-1, 4), (1, 10)], [(-33, 0), (1, 6)], [(33, 0), (-1, 6)], [(1, 7), (-1, 11)], [(-1, 7), (1, 11)]])
theorem xo_456 : qRok xr_456 := by
  intro ρ M h0 hf hm hI
  have f0 := hf [(-1, 0), (1, 5)] (by decide)
  have f1 := hf [(1, 1)] (by decide)
  have f2 := hf [(-1, 1), (1, 9)] (by decide)
  have f3 := hf [(1, 1), (-1, 9)] (by decide)
  have f4 := hf [(-1, 0), (-1, 1), (1, 10)] (by decide)
  have f5 := hf [(6, 0), (1, 9), (-1, 10)] (by decide)
  have f6 := hf [(-522190848, 0), (1, 11)] (by decide)
  have f7 := hf [(522190848, 0), (-1, 11)] (by decide)
  simp only [qD, h0] at f0 f1 f2 f3 f4 f5 f6 f7
  have m0 : M 4 210 = 1 * ρ 0 + 0 := hm (4, 210, [(1, 0)]) (by decide)
  have m1 : M 4 211 = 1 * ρ 1 + 0 := hm (4, 211, [(1, 1)]) (by decide)
  have m2 : M 4 101 = 1 * ρ 2 + 0 := hm (4, 101, [(1, 2)]) (by decide)
  have m3 : M 3 46 = 1 * ρ 3 + 0 := hm (3, 46, [(1, 3)]) (by decide)
  have m4 : M 3 47 = 1 * ρ 4 + 0 := hm (3, 47, [(1, 4)]) (by decide)
  have m5 : M 4 100 = 1 * ρ 5 + 0 := hm (4, 100, [(1, 5)]) (by decide)
  have m6 : M 3 44 = 1 * ρ 6 + 0 := hm (3, 44, [(1, 6)]) (by decide)
  have m7 : M 3 45 = 1 * ρ 7 + 0 := hm (3, 45, [(1, 7)]) (by decide)
  have m8 : M 4 107 = 1 * ρ 8 + 0 := hm (4, 107, [(1, 8)]) (by decide)
  have m9 : M 4 214 = 1 * ρ 0 + 0 := hm (4, 214, [(1, 0)]) (by decide)
  have m10 : M 4 215 = 1 * ρ 9 + 0 := hm (4, 215, [(1, 9)]) (by decide)
  have m11 : M 4 217 = 1 * ρ 10 + 0 := hm (4, 217, [(1, 10)]) (by decide)
  have m12 : M 4 219 = 1 * ρ 11 + 0 := hm (4, 219, [(1, 11)]) (by decide)
  have m13 : M 4 216 = 1 * ρ 12 + 0 := hm (4, 216, [(1, 12)]) (by decide)
  simp only [h0] at m0 m9
  obtain ⟨u1, u2, _⟩ := gx_xS8 hI (by omega)

  obtain ⟨a1, a2, a3, a4, a5, a6, a7⟩ := gx_xSA hI (by omega)
  have eq1 : (M 4 215).toNat = (M 4 211).toNat := by omega
  rw [eq1] at a6 a7
  have hgt := ten_gt (g := M 92) (lo := 97) (hi := 122) (n := (M 4 101).toNat) (q := (M 4 211).toNat) (by omega)
  have el1 : (M 4 217 - M 4 215).toNat = tEn (M 92) 97 122 (M 4 101).toNat (M 4 211).toNat - (M 4 211).toNat := by omega
  rw [el1] at a7

  obtain ⟨t1, t2, t3, t4, t5, t6⟩ := tk_of hI (by omega) (by omega) (by omega) (show tAt (M 92) (M 4 101).toNat (M 4 211).toNat (M 4 107) (M 4 108) = (33, M 4 219, ((M 4 211).toNat : Int), M 4 217, 0, 15) from by
    unfold tAt
    rw [if_neg (by omega), if_pos hgt.2]
    unfold tWo
    rw [← a7, ← a6]
    have hk : tKi (M 4 219) 0 = 33 := by
      rw [show M 4 219 = 522190848 by omega]
      decide
    have h6 : ¬ (6 < tEn (M 92) 97 122 (M 4 101).toNat (M 4 211).toNat - (M 4 211).toNat) := by omega
    unfold tWk tWs tWv
    rw [if_neg h6, if_neg h6, if_neg h6, hk]
    rfl)
  refine ⟨ρ, fun _ _ => rfl, fun f h => ?_, ?_⟩
  · have h : f ∈ ([[(-1, 1), (1, 3)], [(1, 1), (-1, 3)], [(1, 4), (-1, 10)], [(-1, 4), (1, 10)], [(-33, 0), (1, 6)], [(33, 0), (-1, 6)], [(1, 7), (-1, 11)], [(-1, 7), (1, 11)]] : List qF) := h
    simp only [List.mem_cons, List.not_mem_nil, or_false] at h
    rcases h with rfl | rfl | rfl | rfl | rfl | rfl | rfl | rfl
    · show 0 ≤ -1 * ρ 1 + (1 * ρ 3 + 0)
      (try rw [h0]); omega
    · show 0 ≤ 1 * ρ 1 + (-1 * ρ 3 + 0)
      (try rw [h0]); omega
    · show 0 ≤ 1 * ρ 4 + (-1 * ρ 10 + 0)
      (try rw [h0]); omega
    · show 0 ≤ -1 * ρ 4 + (1 * ρ 10 + 0)
      (try rw [h0]); omega
    · show 0 ≤ -33 * ρ 0 + (1 * ρ 6 + 0)
      (try rw [h0]); omega
    · show 0 ≤ 33 * ρ 0 + (-1 * ρ 6 + 0)
      (try rw [h0]); omega
    · show 0 ≤ 1 * ρ 7 + (-1 * ρ 11 + 0)
      (try rw [h0]); omega
    · show 0 ≤ -1 * ρ 7 + (1 * ρ 11 + 0)
      (try rw [h0]); omega
  · show sI M
    exact hI
-- wHitR15_r
def xr_457 : qRu := (13, [[(-1, 0), (1, 5)], [(1, 1)], [(-1, 1), (1, 9)], [(1, 1), (-1, 9)], [(-1, 0), (-1, 1), (1, 10)], [(6, 0), (1, 9), (-1, 10)], [(-522190848, 0), (1, 11)], [(522190848, 0), (-1, 11)]], [(4, 210, [(1, 0)]), (4, 211, [(1, 1)]), (4, 101, [(1, 2)]), (3, 46, [(1, 3)]), (3, 47, [(1, 4)]), (4, 100, [(1, 5)]), (3, 50, [(1, 6)]), (3, 51, [(1, 7)]), (4, 108, [(1, 8)]), (4, 214, [(1, 0)]), (4, 215, [(1, 9)]), (4, 217, [(1, 10)]), (4, 219, [(1, 11)]), (4, 216, [(1, 12)])], [], [], [[(-1, 1), (1, 3)], [(1, 1), (-1, 3)], [(1, 4), (-1, 10)], [(-1, 4), (1, 10)], [(1, 6)], [(-1, 6)], [(-15, 0), (1, 7)], [(15, 0), (-1, 7)]])
theorem xo_457 : qRok xr_457 := by
  intro ρ M h0 hf hm hI
  have f0 := hf [(-1, 0), (1, 5)] (by decide)
  have f1 := hf [(1, 1)] (by decide)
  have f2 := hf [(-1, 1), (1, 9)] (by decide)
  have f3 := hf [(1, 1), (-1, 9)] (by decide)
  have f4 := hf [(-1, 0), (-1, 1), (1, 10)] (by decide)
  have f5 := hf [(6, 0), (1, 9), (-1, 10)] (by decide)
  have f6 := hf [(-522190848, 0), (1, 11)] (by decide)
  have f7 := hf [(522190848, 0), (-1, 11)] (by decide)
  simp only [qD, h0] at f0 f1 f2 f3 f4 f5 f6 f7
  have m0 : M 4 210 = 1 * ρ 0 + 0 := hm (4, 210, [(1, 0)]) (by decide)
  have m1 : M 4 211 = 1 * ρ 1 + 0 := hm (4, 211, [(1, 1)]) (by decide)
  have m2 : M 4 101 = 1 * ρ 2 + 0 := hm (4, 101, [(1, 2)]) (by decide)
  have m3 : M 3 46 = 1 * ρ 3 + 0 := hm (3, 46, [(1, 3)]) (by decide)
  have m4 : M 3 47 = 1 * ρ 4 + 0 := hm (3, 47, [(1, 4)]) (by decide)
  have m5 : M 4 100 = 1 * ρ 5 + 0 := hm (4, 100, [(1, 5)]) (by decide)
  have m6 : M 3 50 = 1 * ρ 6 + 0 := hm (3, 50, [(1, 6)]) (by decide)
  have m7 : M 3 51 = 1 * ρ 7 + 0 := hm (3, 51, [(1, 7)]) (by decide)
  have m8 : M 4 108 = 1 * ρ 8 + 0 := hm (4, 108, [(1, 8)]) (by decide)
  have m9 : M 4 214 = 1 * ρ 0 + 0 := hm (4, 214, [(1, 0)]) (by decide)
  have m10 : M 4 215 = 1 * ρ 9 + 0 := hm (4, 215, [(1, 9)]) (by decide)
  have m11 : M 4 217 = 1 * ρ 10 + 0 := hm (4, 217, [(1, 10)]) (by decide)
  have m12 : M 4 219 = 1 * ρ 11 + 0 := hm (4, 219, [(1, 11)]) (by decide)
  have m13 : M 4 216 = 1 * ρ 12 + 0 := hm (4, 216, [(1, 12)]) (by decide)
  simp only [h0] at m0 m9
  obtain ⟨u1, u2, _⟩ := gx_xS8 hI (by omega)

  obtain ⟨a1, a2, a3, a4, a5, a6, a7⟩ := gx_xSA hI (by omega)
  have eq1 : (M 4 215).toNat = (M 4 211).toNat := by omega
  rw [eq1] at a6 a7
  have hgt := ten_gt (g := M 92) (lo := 97) (hi := 122) (n := (M 4 101).toNat) (q := (M 4 211).toNat) (by omega)
  have el1 : (M 4 217 - M 4 215).toNat = tEn (M 92) 97 122 (M 4 101).toNat (M 4 211).toNat - (M 4 211).toNat := by omega
  rw [el1] at a7

  obtain ⟨t1, t2, t3, t4, t5, t6⟩ := tk_of hI (by omega) (by omega) (by omega) (show tAt (M 92) (M 4 101).toNat (M 4 211).toNat (M 4 107) (M 4 108) = (33, M 4 219, ((M 4 211).toNat : Int), M 4 217, 0, 15) from by
    unfold tAt
    rw [if_neg (by omega), if_pos hgt.2]
    unfold tWo
    rw [← a7, ← a6]
    have hk : tKi (M 4 219) 0 = 33 := by
      rw [show M 4 219 = 522190848 by omega]
      decide
    have h6 : ¬ (6 < tEn (M 92) 97 122 (M 4 101).toNat (M 4 211).toNat - (M 4 211).toNat) := by omega
    unfold tWk tWs tWv
    rw [if_neg h6, if_neg h6, if_neg h6, hk]
    rfl)
  refine ⟨ρ, fun _ _ => rfl, fun f h => ?_, ?_⟩
  · have h : f ∈ ([[(-1, 1), (1, 3)], [(1, 1), (-1, 3)], [(1, 4), (-1, 10)], [(-1, 4), (1, 10)], [(1, 6)], [(-1, 6)], [(-15, 0), (1, 7)], [(15, 0), (-1, 7)]] : List qF) := h
    simp only [List.mem_cons, List.not_mem_nil, or_false] at h
    rcases h with rfl | rfl | rfl | rfl | rfl | rfl | rfl | rfl
    · show 0 ≤ -1 * ρ 1 + (1 * ρ 3 + 0)
      (try rw [h0]); omega
    · show 0 ≤ 1 * ρ 1 + (-1 * ρ 3 + 0)
      (try rw [h0]); omega
    · show 0 ≤ 1 * ρ 4 + (-1 * ρ 10 + 0)
      (try rw [h0]); omega
    · show 0 ≤ -1 * ρ 4 + (1 * ρ 10 + 0)
      (try rw [h0]); omega
    · show 0 ≤ 1 * ρ 6 + 0
      (try rw [h0]); omega
    · show 0 ≤ -1 * ρ 6 + 0
      (try rw [h0]); omega
    · show 0 ≤ -15 * ρ 0 + (1 * ρ 7 + 0)
      (try rw [h0]); omega
    · show 0 ≤ 15 * ρ 0 + (-1 * ρ 7 + 0)
      (try rw [h0]); omega
  · show sI M
    exact hI
-- langMissR15L
def xr_458 : qRu := (3, [[(522190847, 0), (-1, 2)]], [(4, 226, [(1, 0)]), (4, 227, [(15, 0)]), (4, 219, [(1, 2)])], [], [(4, 227, [(16, 0)])], [])
theorem xo_458 : qRok xr_458 := by
  intro ρ M h0 hf hm hI
  have f0 := hf [(522190847, 0), (-1, 2)] (by decide)
  simp only [qD, h0] at f0
  have m0 : M 4 226 = 1 * ρ 0 + 0 := hm (4, 226, [(1, 0)]) (by decide)
  have m1 : M 4 227 = 15 * ρ 0 + 0 := hm (4, 227, [(15, 0)]) (by decide)
  have m2 : M 4 219 = 1 * ρ 2 + 0 := hm (4, 219, [(1, 2)]) (by decide)
  simp only [h0] at m0 m1
  have qxSC := hI.2.2.2.2.2.2.2.2.2.2.2.2.2.2.2.2.2.2.2.2.2.2.2.2.2.2.2.2.2.2.2.2.2.2.1
  obtain ⟨l1, l2, l3⟩ := gx_xSC hI (by omega)
  refine ⟨ρ, fun _ _ => rfl, fun f h => ?_, ?_⟩
  · exact nomatch h
  · show sI (sU M 4 227 (16 * ρ 0 + 0))
    obtain ⟨W, hW⟩ : ∃ W, W = (sU M 4 227 (16 * ρ 0 + 0)) := ⟨_, rfl⟩
    rw [← hW]
    have base : sI0 W := by
      rw [hW]
      exact (si_u0 hI.1 (fun r hr => by cases hr))
    have k2 : XI2 W := by
      rw [hW]
      exact (xi2_u rfl hI.2.1)
    have k3 : XI3 W := by
      rw [hW]
      exact (xi3_u rfl hI.2.2.1)
    have kXA : XA W := by
      rw [hW]
      exact (uXA rfl hI.2.2.2.1)
    have k_xN1 : xN1 W := by
      rw [hW]
      exact (uxN1 rfl hI.2.2.2.2.1)
    have k_xN2 : xN2 W := by
      rw [hW]
      exact (uxN2 rfl hI.2.2.2.2.2.1)
    have k_xN3 : xN3 W := by
      rw [hW]
      exact (uxN3 rfl hI.2.2.2.2.2.2.1)
    have k_xN4 : xN4 W := by
      rw [hW]
      exact (uxN4 rfl hI.2.2.2.2.2.2.2.1)
    have k_xN5 : xN5 W := by
      rw [hW]
      exact (uxN5 rfl hI.2.2.2.2.2.2.2.2.1)
    have k_xN6 : xN6 W := by
      rw [hW]
      exact (uxN6 rfl hI.2.2.2.2.2.2.2.2.2.1)
    have k_xH1 : xH1 W := by
      rw [hW]
      exact (uxH1 rfl hI.2.2.2.2.2.2.2.2.2.2.1)
    have k_xK1 : xK1 W := by
      rw [hW]
      exact (uxK1 rfl hI.2.2.2.2.2.2.2.2.2.2.2.1)
    have k_xC1 : xC1 W := by
      rw [hW]
      exact (uxC1 rfl hI.2.2.2.2.2.2.2.2.2.2.2.2.1)
    have k_xRW : xRW W := by
      rw [hW]
      exact (uxRW rfl hI.2.2.2.2.2.2.2.2.2.2.2.2.2.1)
    have k_xWT : xWT W := by
      rw [hW]
      exact (uxWT rfl hI.2.2.2.2.2.2.2.2.2.2.2.2.2.2.1)
    have k_xCU : xCU W := by
      rw [hW]
      exact (uxCU rfl hI.2.2.2.2.2.2.2.2.2.2.2.2.2.2.2.1)
    have k_xG2 : xG2 W := by
      rw [hW]
      exact (uxG2 rfl hI.2.2.2.2.2.2.2.2.2.2.2.2.2.2.2.2.1)
    have k_xG3 : xG3 W := by
      rw [hW]
      exact (uxG3 rfl hI.2.2.2.2.2.2.2.2.2.2.2.2.2.2.2.2.2.1)
    have k_xG4 : xG4 W := by
      rw [hW]
      exact (uxG4 rfl hI.2.2.2.2.2.2.2.2.2.2.2.2.2.2.2.2.2.2.1)
    have k_xG5 : xG5 W := by
      rw [hW]
      exact (uxG5 rfl hI.2.2.2.2.2.2.2.2.2.2.2.2.2.2.2.2.2.2.2.1)
    have k_xG6 : xG6 W := by
      rw [hW]
      exact (uxG6 rfl hI.2.2.2.2.2.2.2.2.2.2.2.2.2.2.2.2.2.2.2.2.1)
    have k_xS1 : xS1 W := by
      rw [hW]
      exact (uxS1 rfl hI.2.2.2.2.2.2.2.2.2.2.2.2.2.2.2.2.2.2.2.2.2.1)
    have k_xS2 : xS2 W := by
      rw [hW]
      exact (uxS2 rfl hI.2.2.2.2.2.2.2.2.2.2.2.2.2.2.2.2.2.2.2.2.2.2.1)
    have k_xS3 : xS3 W := by
      rw [hW]
      exact (uxS3 rfl hI.2.2.2.2.2.2.2.2.2.2.2.2.2.2.2.2.2.2.2.2.2.2.2.1)
    have k_xS4 : xS4 W := by
      rw [hW]
      exact (uxS4 rfl hI.2.2.2.2.2.2.2.2.2.2.2.2.2.2.2.2.2.2.2.2.2.2.2.2.1)
    have k_xS5 : xS5 W := by
      rw [hW]
      exact (uxS5 rfl hI.2.2.2.2.2.2.2.2.2.2.2.2.2.2.2.2.2.2.2.2.2.2.2.2.2.1)
    have k_xS6 : xS6 W := by
      rw [hW]
      exact (uxS6 rfl hI.2.2.2.2.2.2.2.2.2.2.2.2.2.2.2.2.2.2.2.2.2.2.2.2.2.2.1)
    have k_xS7 : xS7 W := by
      rw [hW]
      exact (uxS7 rfl hI.2.2.2.2.2.2.2.2.2.2.2.2.2.2.2.2.2.2.2.2.2.2.2.2.2.2.2.1)
    have k_xS8 : xS8 W := by
      rw [hW]
      exact (uxS8 rfl hI.2.2.2.2.2.2.2.2.2.2.2.2.2.2.2.2.2.2.2.2.2.2.2.2.2.2.2.2.1)
    have k_xS9 : xS9 W := by
      rw [hW]
      exact (uxS9 rfl hI.2.2.2.2.2.2.2.2.2.2.2.2.2.2.2.2.2.2.2.2.2.2.2.2.2.2.2.2.2.1)
    have k_xSA : xSA W := by
      rw [hW]
      exact (uxSA rfl hI.2.2.2.2.2.2.2.2.2.2.2.2.2.2.2.2.2.2.2.2.2.2.2.2.2.2.2.2.2.2.1)
    have k_xSG : xSG W := by
      rw [hW]
      exact (uxSG rfl hI.2.2.2.2.2.2.2.2.2.2.2.2.2.2.2.2.2.2.2.2.2.2.2.2.2.2.2.2.2.2.2.1)
    have k_xSF : xSF W := by
      rw [hW]
      exact (uxSF rfl hI.2.2.2.2.2.2.2.2.2.2.2.2.2.2.2.2.2.2.2.2.2.2.2.2.2.2.2.2.2.2.2.2.1)
    have k_xSB : xSB W := by
      rw [hW]
      exact (uxSB rfl hI.2.2.2.2.2.2.2.2.2.2.2.2.2.2.2.2.2.2.2.2.2.2.2.2.2.2.2.2.2.2.2.2.2.1)
    have k_xSC : xSC W := by
      have r4_226 : W 4 226 = M 4 226 := by rw [hW, sU_ne (fun z => by omega)]
      have r4_227 : W 4 227 = 16 * ρ 0 + 0 := by rw [hW, sU_at]
      have r4_219 : W 4 219 = M 4 219 := by rw [hW, sU_ne (fun z => by omega)]
      intro h
      rw [r4_227, r4_219, h0]
      refine ⟨by omega, by omega, ?_⟩
      have e1 := tki_on (x := M 4 219) (w := 15) (show tLa[15]? = some (522190848 : Int) from rfl)
      rw [if_neg (by omega)] at e1
      rw [show M 4 227 = 15 by omega] at l3
      rw [← l3]
      exact e1.symm
    have k_xSD : xSD W := by
      rw [hW]
      exact (uxSD rfl hI.2.2.2.2.2.2.2.2.2.2.2.2.2.2.2.2.2.2.2.2.2.2.2.2.2.2.2.2.2.2.2.2.2.2.2.1)
    have k_xSE : xSE W := by
      rw [hW]
      exact (uxSE rfl hI.2.2.2.2.2.2.2.2.2.2.2.2.2.2.2.2.2.2.2.2.2.2.2.2.2.2.2.2.2.2.2.2.2.2.2.2.1)
    have k_xSW : xSW W := by
      rw [hW]
      exact (uxSW rfl hI.2.2.2.2.2.2.2.2.2.2.2.2.2.2.2.2.2.2.2.2.2.2.2.2.2.2.2.2.2.2.2.2.2.2.2.2.2.1)
    have k_xST : xST W := by
      rw [hW]
      exact (uxST rfl hI.2.2.2.2.2.2.2.2.2.2.2.2.2.2.2.2.2.2.2.2.2.2.2.2.2.2.2.2.2.2.2.2.2.2.2.2.2.2.1)
    have k_xSP : xSP W := by
      rw [hW]
      exact (uxSP rfl hI.2.2.2.2.2.2.2.2.2.2.2.2.2.2.2.2.2.2.2.2.2.2.2.2.2.2.2.2.2.2.2.2.2.2.2.2.2.2.2.1)
    have k_xSL : xSL W := by
      rw [hW]
      exact (uxSL rfl hI.2.2.2.2.2.2.2.2.2.2.2.2.2.2.2.2.2.2.2.2.2.2.2.2.2.2.2.2.2.2.2.2.2.2.2.2.2.2.2.2.1)
    have k_xSM : xSM W := by
      rw [hW]
      exact (uxSM rfl hI.2.2.2.2.2.2.2.2.2.2.2.2.2.2.2.2.2.2.2.2.2.2.2.2.2.2.2.2.2.2.2.2.2.2.2.2.2.2.2.2.2.1)
    have k_xSI : xSI W := by
      rw [hW]
      exact (uxSI rfl hI.2.2.2.2.2.2.2.2.2.2.2.2.2.2.2.2.2.2.2.2.2.2.2.2.2.2.2.2.2.2.2.2.2.2.2.2.2.2.2.2.2.2.1)
    have k_xD3 : xD3 W := by
      rw [hW]
      exact (uxD3 rfl hI.2.2.2.2.2.2.2.2.2.2.2.2.2.2.2.2.2.2.2.2.2.2.2.2.2.2.2.2.2.2.2.2.2.2.2.2.2.2.2.2.2.2.2.1)
    have k_xDV : xDV W := by
      rw [hW]
      exact (uxDV rfl hI.2.2.2.2.2.2.2.2.2.2.2.2.2.2.2.2.2.2.2.2.2.2.2.2.2.2.2.2.2.2.2.2.2.2.2.2.2.2.2.2.2.2.2.2.1)
    have k_xDP : xDP W := by
      rw [hW]
      exact (uxDP rfl hI.2.2.2.2.2.2.2.2.2.2.2.2.2.2.2.2.2.2.2.2.2.2.2.2.2.2.2.2.2.2.2.2.2.2.2.2.2.2.2.2.2.2.2.2.2.1)
    have k_xDE : xDE W := by
      rw [hW]
      exact (uxDE rfl hI.2.2.2.2.2.2.2.2.2.2.2.2.2.2.2.2.2.2.2.2.2.2.2.2.2.2.2.2.2.2.2.2.2.2.2.2.2.2.2.2.2.2.2.2.2.2.1)
    have k_xQ5 : xQ5 W := by
      rw [hW]
      exact (uxQ5 rfl hI.2.2.2.2.2.2.2.2.2.2.2.2.2.2.2.2.2.2.2.2.2.2.2.2.2.2.2.2.2.2.2.2.2.2.2.2.2.2.2.2.2.2.2.2.2.2.2.1)
    have k_xQL : xQL W := by
      rw [hW]
      exact (uxQL rfl hI.2.2.2.2.2.2.2.2.2.2.2.2.2.2.2.2.2.2.2.2.2.2.2.2.2.2.2.2.2.2.2.2.2.2.2.2.2.2.2.2.2.2.2.2.2.2.2.2.1)
    have k_xQW : xQW W := by
      rw [hW]
      exact (uxQW rfl hI.2.2.2.2.2.2.2.2.2.2.2.2.2.2.2.2.2.2.2.2.2.2.2.2.2.2.2.2.2.2.2.2.2.2.2.2.2.2.2.2.2.2.2.2.2.2.2.2.2.1)
    have k_xQM : xQM W := by
      rw [hW]
      exact (uxQM rfl hI.2.2.2.2.2.2.2.2.2.2.2.2.2.2.2.2.2.2.2.2.2.2.2.2.2.2.2.2.2.2.2.2.2.2.2.2.2.2.2.2.2.2.2.2.2.2.2.2.2.2.1)
    have k_xQH : xQH W := by
      rw [hW]
      exact (uxQH rfl hI.2.2.2.2.2.2.2.2.2.2.2.2.2.2.2.2.2.2.2.2.2.2.2.2.2.2.2.2.2.2.2.2.2.2.2.2.2.2.2.2.2.2.2.2.2.2.2.2.2.2.2)
    have k_XC : XC W := ⟨k_xS1, k_xS2, k_xS3, k_xS4, k_xS5, k_xS6, k_xS7, k_xS8, k_xS9, k_xSA, k_xSG, k_xSF, k_xSB, k_xSC, k_xSD, k_xSE, k_xSW, k_xST, k_xSP, k_xSL, k_xSM, k_xSI, k_xD3, k_xDV, k_xDP, k_xDE, k_xQ5, k_xQL, k_xQW, k_xQM, k_xQH⟩
    have kXB : XB W := ⟨k_xN1, k_xN2, k_xN3, k_xN4, k_xN5, k_xN6, k_xH1, k_xK1, k_xC1, k_xRW, k_xWT, k_xCU, k_xG2, k_xG3, k_xG4, k_xG5, k_xG6, k_XC⟩
    exact ⟨base, k2, k3, kXA, kXB⟩
-- langMissR15H
def xr_459 : qRu := (3, [[(-522190849, 0), (1, 2)]], [(4, 226, [(1, 0)]), (4, 227, [(15, 0)]), (4, 219, [(1, 2)])], [], [(4, 227, [(16, 0)])], [])
theorem xo_459 : qRok xr_459 := by
  intro ρ M h0 hf hm hI
  have f0 := hf [(-522190849, 0), (1, 2)] (by decide)
  simp only [qD, h0] at f0
  have m0 : M 4 226 = 1 * ρ 0 + 0 := hm (4, 226, [(1, 0)]) (by decide)
  have m1 : M 4 227 = 15 * ρ 0 + 0 := hm (4, 227, [(15, 0)]) (by decide)
  have m2 : M 4 219 = 1 * ρ 2 + 0 := hm (4, 219, [(1, 2)]) (by decide)
  simp only [h0] at m0 m1
  have qxSC := hI.2.2.2.2.2.2.2.2.2.2.2.2.2.2.2.2.2.2.2.2.2.2.2.2.2.2.2.2.2.2.2.2.2.2.1
  obtain ⟨l1, l2, l3⟩ := gx_xSC hI (by omega)
  refine ⟨ρ, fun _ _ => rfl, fun f h => ?_, ?_⟩
  · exact nomatch h
  · show sI (sU M 4 227 (16 * ρ 0 + 0))
    obtain ⟨W, hW⟩ : ∃ W, W = (sU M 4 227 (16 * ρ 0 + 0)) := ⟨_, rfl⟩
    rw [← hW]
    have base : sI0 W := by
      rw [hW]
      exact (si_u0 hI.1 (fun r hr => by cases hr))
    have k2 : XI2 W := by
      rw [hW]
      exact (xi2_u rfl hI.2.1)
    have k3 : XI3 W := by
      rw [hW]
      exact (xi3_u rfl hI.2.2.1)
    have kXA : XA W := by
      rw [hW]
      exact (uXA rfl hI.2.2.2.1)
    have k_xN1 : xN1 W := by
      rw [hW]
      exact (uxN1 rfl hI.2.2.2.2.1)
    have k_xN2 : xN2 W := by
      rw [hW]
      exact (uxN2 rfl hI.2.2.2.2.2.1)
    have k_xN3 : xN3 W := by
      rw [hW]
      exact (uxN3 rfl hI.2.2.2.2.2.2.1)
    have k_xN4 : xN4 W := by
      rw [hW]
      exact (uxN4 rfl hI.2.2.2.2.2.2.2.1)
    have k_xN5 : xN5 W := by
      rw [hW]
      exact (uxN5 rfl hI.2.2.2.2.2.2.2.2.1)
    have k_xN6 : xN6 W := by
      rw [hW]
      exact (uxN6 rfl hI.2.2.2.2.2.2.2.2.2.1)
    have k_xH1 : xH1 W := by
      rw [hW]
      exact (uxH1 rfl hI.2.2.2.2.2.2.2.2.2.2.1)
    have k_xK1 : xK1 W := by
      rw [hW]
      exact (uxK1 rfl hI.2.2.2.2.2.2.2.2.2.2.2.1)
    have k_xC1 : xC1 W := by
      rw [hW]
      exact (uxC1 rfl hI.2.2.2.2.2.2.2.2.2.2.2.2.1)
    have k_xRW : xRW W := by
      rw [hW]
      exact (uxRW rfl hI.2.2.2.2.2.2.2.2.2.2.2.2.2.1)
    have k_xWT : xWT W := by
      rw [hW]
      exact (uxWT rfl hI.2.2.2.2.2.2.2.2.2.2.2.2.2.2.1)
    have k_xCU : xCU W := by
      rw [hW]
      exact (uxCU rfl hI.2.2.2.2.2.2.2.2.2.2.2.2.2.2.2.1)
    have k_xG2 : xG2 W := by
      rw [hW]
      exact (uxG2 rfl hI.2.2.2.2.2.2.2.2.2.2.2.2.2.2.2.2.1)
    have k_xG3 : xG3 W := by
      rw [hW]
      exact (uxG3 rfl hI.2.2.2.2.2.2.2.2.2.2.2.2.2.2.2.2.2.1)
    have k_xG4 : xG4 W := by
      rw [hW]
      exact (uxG4 rfl hI.2.2.2.2.2.2.2.2.2.2.2.2.2.2.2.2.2.2.1)
    have k_xG5 : xG5 W := by
      rw [hW]
      exact (uxG5 rfl hI.2.2.2.2.2.2.2.2.2.2.2.2.2.2.2.2.2.2.2.1)
    have k_xG6 : xG6 W := by
      rw [hW]
      exact (uxG6 rfl hI.2.2.2.2.2.2.2.2.2.2.2.2.2.2.2.2.2.2.2.2.1)
    have k_xS1 : xS1 W := by
      rw [hW]
      exact (uxS1 rfl hI.2.2.2.2.2.2.2.2.2.2.2.2.2.2.2.2.2.2.2.2.2.1)
    have k_xS2 : xS2 W := by
      rw [hW]
      exact (uxS2 rfl hI.2.2.2.2.2.2.2.2.2.2.2.2.2.2.2.2.2.2.2.2.2.2.1)
    have k_xS3 : xS3 W := by
      rw [hW]
      exact (uxS3 rfl hI.2.2.2.2.2.2.2.2.2.2.2.2.2.2.2.2.2.2.2.2.2.2.2.1)
    have k_xS4 : xS4 W := by
      rw [hW]
      exact (uxS4 rfl hI.2.2.2.2.2.2.2.2.2.2.2.2.2.2.2.2.2.2.2.2.2.2.2.2.1)
    have k_xS5 : xS5 W := by
      rw [hW]
      exact (uxS5 rfl hI.2.2.2.2.2.2.2.2.2.2.2.2.2.2.2.2.2.2.2.2.2.2.2.2.2.1)
    have k_xS6 : xS6 W := by
      rw [hW]
      exact (uxS6 rfl hI.2.2.2.2.2.2.2.2.2.2.2.2.2.2.2.2.2.2.2.2.2.2.2.2.2.2.1)
    have k_xS7 : xS7 W := by
      rw [hW]
      exact (uxS7 rfl hI.2.2.2.2.2.2.2.2.2.2.2.2.2.2.2.2.2.2.2.2.2.2.2.2.2.2.2.1)
    have k_xS8 : xS8 W := by
      rw [hW]
      exact (uxS8 rfl hI.2.2.2.2.2.2.2.2.2.2.2.2.2.2.2.2.2.2.2.2.2.2.2.2.2.2.2.2.1)
    have k_xS9 : xS9 W := by
      rw [hW]
      exact (uxS9 rfl hI.2.2.2.2.2.2.2.2.2.2.2.2.2.2.2.2.2.2.2.2.2.2.2.2.2.2.2.2.2.1)
    have k_xSA : xSA W := by
      rw [hW]
      exact (uxSA rfl hI.2.2.2.2.2.2.2.2.2.2.2.2.2.2.2.2.2.2.2.2.2.2.2.2.2.2.2.2.2.2.1)
    have k_xSG : xSG W := by
      rw [hW]
      exact (uxSG rfl hI.2.2.2.2.2.2.2.2.2.2.2.2.2.2.2.2.2.2.2.2.2.2.2.2.2.2.2.2.2.2.2.1)
    have k_xSF : xSF W := by
      rw [hW]
      exact (uxSF rfl hI.2.2.2.2.2.2.2.2.2.2.2.2.2.2.2.2.2.2.2.2.2.2.2.2.2.2.2.2.2.2.2.2.1)
    have k_xSB : xSB W := by
      rw [hW]
      exact (uxSB rfl hI.2.2.2.2.2.2.2.2.2.2.2.2.2.2.2.2.2.2.2.2.2.2.2.2.2.2.2.2.2.2.2.2.2.1)
    have k_xSC : xSC W := by
      have r4_226 : W 4 226 = M 4 226 := by rw [hW, sU_ne (fun z => by omega)]
      have r4_227 : W 4 227 = 16 * ρ 0 + 0 := by rw [hW, sU_at]
      have r4_219 : W 4 219 = M 4 219 := by rw [hW, sU_ne (fun z => by omega)]
      intro h
      rw [r4_227, r4_219, h0]
      refine ⟨by omega, by omega, ?_⟩
      have e1 := tki_on (x := M 4 219) (w := 15) (show tLa[15]? = some (522190848 : Int) from rfl)
      rw [if_neg (by omega)] at e1
      rw [show M 4 227 = 15 by omega] at l3
      rw [← l3]
      exact e1.symm
    have k_xSD : xSD W := by
      rw [hW]
      exact (uxSD rfl hI.2.2.2.2.2.2.2.2.2.2.2.2.2.2.2.2.2.2.2.2.2.2.2.2.2.2.2.2.2.2.2.2.2.2.2.1)
    have k_xSE : xSE W := by
      rw [hW]
      exact (uxSE rfl hI.2.2.2.2.2.2.2.2.2.2.2.2.2.2.2.2.2.2.2.2.2.2.2.2.2.2.2.2.2.2.2.2.2.2.2.2.1)
    have k_xSW : xSW W := by
      rw [hW]
      exact (uxSW rfl hI.2.2.2.2.2.2.2.2.2.2.2.2.2.2.2.2.2.2.2.2.2.2.2.2.2.2.2.2.2.2.2.2.2.2.2.2.2.1)
    have k_xST : xST W := by
      rw [hW]
      exact (uxST rfl hI.2.2.2.2.2.2.2.2.2.2.2.2.2.2.2.2.2.2.2.2.2.2.2.2.2.2.2.2.2.2.2.2.2.2.2.2.2.2.1)
    have k_xSP : xSP W := by
      rw [hW]
      exact (uxSP rfl hI.2.2.2.2.2.2.2.2.2.2.2.2.2.2.2.2.2.2.2.2.2.2.2.2.2.2.2.2.2.2.2.2.2.2.2.2.2.2.2.1)
    have k_xSL : xSL W := by
      rw [hW]
      exact (uxSL rfl hI.2.2.2.2.2.2.2.2.2.2.2.2.2.2.2.2.2.2.2.2.2.2.2.2.2.2.2.2.2.2.2.2.2.2.2.2.2.2.2.2.1)
    have k_xSM : xSM W := by
      rw [hW]
      exact (uxSM rfl hI.2.2.2.2.2.2.2.2.2.2.2.2.2.2.2.2.2.2.2.2.2.2.2.2.2.2.2.2.2.2.2.2.2.2.2.2.2.2.2.2.2.1)
    have k_xSI : xSI W := by
      rw [hW]
      exact (uxSI rfl hI.2.2.2.2.2.2.2.2.2.2.2.2.2.2.2.2.2.2.2.2.2.2.2.2.2.2.2.2.2.2.2.2.2.2.2.2.2.2.2.2.2.2.1)
    have k_xD3 : xD3 W := by
      rw [hW]
      exact (uxD3 rfl hI.2.2.2.2.2.2.2.2.2.2.2.2.2.2.2.2.2.2.2.2.2.2.2.2.2.2.2.2.2.2.2.2.2.2.2.2.2.2.2.2.2.2.2.1)
    have k_xDV : xDV W := by
      rw [hW]
      exact (uxDV rfl hI.2.2.2.2.2.2.2.2.2.2.2.2.2.2.2.2.2.2.2.2.2.2.2.2.2.2.2.2.2.2.2.2.2.2.2.2.2.2.2.2.2.2.2.2.1)
    have k_xDP : xDP W := by
      rw [hW]
      exact (uxDP rfl hI.2.2.2.2.2.2.2.2.2.2.2.2.2.2.2.2.2.2.2.2.2.2.2.2.2.2.2.2.2.2.2.2.2.2.2.2.2.2.2.2.2.2.2.2.2.1)
    have k_xDE : xDE W := by
      rw [hW]
      exact (uxDE rfl hI.2.2.2.2.2.2.2.2.2.2.2.2.2.2.2.2.2.2.2.2.2.2.2.2.2.2.2.2.2.2.2.2.2.2.2.2.2.2.2.2.2.2.2.2.2.2.1)
    have k_xQ5 : xQ5 W := by
      rw [hW]
      exact (uxQ5 rfl hI.2.2.2.2.2.2.2.2.2.2.2.2.2.2.2.2.2.2.2.2.2.2.2.2.2.2.2.2.2.2.2.2.2.2.2.2.2.2.2.2.2.2.2.2.2.2.2.1)
    have k_xQL : xQL W := by
      rw [hW]
      exact (uxQL rfl hI.2.2.2.2.2.2.2.2.2.2.2.2.2.2.2.2.2.2.2.2.2.2.2.2.2.2.2.2.2.2.2.2.2.2.2.2.2.2.2.2.2.2.2.2.2.2.2.2.1)
    have k_xQW : xQW W := by
      rw [hW]
      exact (uxQW rfl hI.2.2.2.2.2.2.2.2.2.2.2.2.2.2.2.2.2.2.2.2.2.2.2.2.2.2.2.2.2.2.2.2.2.2.2.2.2.2.2.2.2.2.2.2.2.2.2.2.2.1)
    have k_xQM : xQM W := by
      rw [hW]
      exact (uxQM rfl hI.2.2.2.2.2.2.2.2.2.2.2.2.2.2.2.2.2.2.2.2.2.2.2.2.2.2.2.2.2.2.2.2.2.2.2.2.2.2.2.2.2.2.2.2.2.2.2.2.2.2.1)
    have k_xQH : xQH W := by
      rw [hW]
      exact (uxQH rfl hI.2.2.2.2.2.2.2.2.2.2.2.2.2.2.2.2.2.2.2.2.2.2.2.2.2.2.2.2.2.2.2.2.2.2.2.2.2.2.2.2.2.2.2.2.2.2.2.2.2.2.2)
    have k_XC : XC W := ⟨k_xS1, k_xS2, k_xS3, k_xS4, k_xS5, k_xS6, k_xS7, k_xS8, k_xS9, k_xSA, k_xSG, k_xSF, k_xSB, k_xSC, k_xSD, k_xSE, k_xSW, k_xST, k_xSP, k_xSL, k_xSM, k_xSI, k_xD3, k_xDV, k_xDP, k_xDE, k_xQ5, k_xQL, k_xQW, k_xQM, k_xQH⟩
    have kXB : XB W := ⟨k_xN1, k_xN2, k_xN3, k_xN4, k_xN5, k_xN6, k_xH1, k_xK1, k_xC1, k_xRW, k_xWT, k_xCU, k_xG2, k_xG3, k_xG4, k_xG5, k_xG6, k_XC⟩
    exact ⟨base, k2, k3, kXA, kXB⟩
-- wHitR16_c
def xr_460 : qRu := (13, [[(-1, 0), (1, 5)], [(1, 1)], [(-1, 1), (1, 9)], [(1, 1), (-1, 9)], [(-1, 0), (-1, 1), (1, 10)], [(6, 0), (1, 9), (-1, 10)], [(-48365568, 0), (1, 11)], [(48365568, 0), (-1, 11)]], [(4, 210, [(1, 0)]), (4, 211, [(1, 1)]), (4, 101, [(1, 2)]), (3, 46, [(1, 3)]), (3, 47, [(1, 4)]), (4, 100, [(1, 5)]), (3, 44, [(1, 6)]), (3, 45, [(1, 7)]), (4, 107, [(1, 8)]), (4, 214, [(1, 0)]), (4, 215, [(1, 9)]), (4, 217, [(1, 10)]), (4, 219, [(1, 11)]), (4, 216, [(1, 12)])], [], [], [[(-1, 1), (1, 3)], [(1, 1), (-1, 3)], [(1, 4), (-1, 10)], [(-1, 4), (1, 10)], [(-34, 0), (1, 6)], [(34, 0), (-1, 6)], [(1, 7), (-1, 11)], [(-1, 7), (1, 11)]])
theorem xo_460 : qRok xr_460 := by
  intro ρ M h0 hf hm hI
  have f0 := hf [(-1, 0), (1, 5)] (by decide)
  have f1 := hf [(1, 1)] (by decide)
  have f2 := hf [(-1, 1), (1, 9)] (by decide)
  have f3 := hf [(1, 1), (-1, 9)] (by decide)
  have f4 := hf [(-1, 0), (-1, 1), (1, 10)] (by decide)
  have f5 := hf [(6, 0), (1, 9), (-1, 10)] (by decide)
  have f6 := hf [(-48365568, 0), (1, 11)] (by decide)
  have f7 := hf [(48365568, 0), (-1, 11)] (by decide)
  simp only [qD, h0] at f0 f1 f2 f3 f4 f5 f6 f7
  have m0 : M 4 210 = 1 * ρ 0 + 0 := hm (4, 210, [(1, 0)]) (by decide)
  have m1 : M 4 211 = 1 * ρ 1 + 0 := hm (4, 211, [(1, 1)]) (by decide)
  have m2 : M 4 101 = 1 * ρ 2 + 0 := hm (4, 101, [(1, 2)]) (by decide)
  have m3 : M 3 46 = 1 * ρ 3 + 0 := hm (3, 46, [(1, 3)]) (by decide)
  have m4 : M 3 47 = 1 * ρ 4 + 0 := hm (3, 47, [(1, 4)]) (by decide)
  have m5 : M 4 100 = 1 * ρ 5 + 0 := hm (4, 100, [(1, 5)]) (by decide)
  have m6 : M 3 44 = 1 * ρ 6 + 0 := hm (3, 44, [(1, 6)]) (by decide)
  have m7 : M 3 45 = 1 * ρ 7 + 0 := hm (3, 45, [(1, 7)]) (by decide)
  have m8 : M 4 107 = 1 * ρ 8 + 0 := hm (4, 107, [(1, 8)]) (by decide)
  have m9 : M 4 214 = 1 * ρ 0 + 0 := hm (4, 214, [(1, 0)]) (by decide)
  have m10 : M 4 215 = 1 * ρ 9 + 0 := hm (4, 215, [(1, 9)]) (by decide)
  have m11 : M 4 217 = 1 * ρ 10 + 0 := hm (4, 217, [(1, 10)]) (by decide)
  have m12 : M 4 219 = 1 * ρ 11 + 0 := hm (4, 219, [(1, 11)]) (by decide)
  have m13 : M 4 216 = 1 * ρ 12 + 0 := hm (4, 216, [(1, 12)]) (by decide)
  simp only [h0] at m0 m9
  obtain ⟨u1, u2, _⟩ := gx_xS8 hI (by omega)

  obtain ⟨a1, a2, a3, a4, a5, a6, a7⟩ := gx_xSA hI (by omega)
  have eq1 : (M 4 215).toNat = (M 4 211).toNat := by omega
  rw [eq1] at a6 a7
  have hgt := ten_gt (g := M 92) (lo := 97) (hi := 122) (n := (M 4 101).toNat) (q := (M 4 211).toNat) (by omega)
  have el1 : (M 4 217 - M 4 215).toNat = tEn (M 92) 97 122 (M 4 101).toNat (M 4 211).toNat - (M 4 211).toNat := by omega
  rw [el1] at a7

  obtain ⟨t1, t2, t3, t4, t5, t6⟩ := tk_of hI (by omega) (by omega) (by omega) (show tAt (M 92) (M 4 101).toNat (M 4 211).toNat (M 4 107) (M 4 108) = (34, M 4 219, ((M 4 211).toNat : Int), M 4 217, 0, 16) from by
    unfold tAt
    rw [if_neg (by omega), if_pos hgt.2]
    unfold tWo
    rw [← a7, ← a6]
    have hk : tKi (M 4 219) 0 = 34 := by
      rw [show M 4 219 = 48365568 by omega]
      decide
    have h6 : ¬ (6 < tEn (M 92) 97 122 (M 4 101).toNat (M 4 211).toNat - (M 4 211).toNat) := by omega
    unfold tWk tWs tWv
    rw [if_neg h6, if_neg h6, if_neg h6, hk]
    rfl)
  refine ⟨ρ, fun _ _ => rfl, fun f h => ?_, ?_⟩
  · have h : f ∈ ([[(-1, 1), (1, 3)], [(1, 1), (-1, 3)], [(1, 4), (-1, 10)], [(-1, 4), (1, 10)], [(-34, 0), (1, 6)], [(34, 0), (-1, 6)], [(1, 7), (-1, 11)], [(-1, 7), (1, 11)]] : List qF) := h
    simp only [List.mem_cons, List.not_mem_nil, or_false] at h
    rcases h with rfl | rfl | rfl | rfl | rfl | rfl | rfl | rfl
    · show 0 ≤ -1 * ρ 1 + (1 * ρ 3 + 0)
      (try rw [h0]); omega
    · show 0 ≤ 1 * ρ 1 + (-1 * ρ 3 + 0)
      (try rw [h0]); omega
    · show 0 ≤ 1 * ρ 4 + (-1 * ρ 10 + 0)
      (try rw [h0]); omega
    · show 0 ≤ -1 * ρ 4 + (1 * ρ 10 + 0)
      (try rw [h0]); omega
    · show 0 ≤ -34 * ρ 0 + (1 * ρ 6 + 0)
      (try rw [h0]); omega
    · show 0 ≤ 34 * ρ 0 + (-1 * ρ 6 + 0)
      (try rw [h0]); omega
    · show 0 ≤ 1 * ρ 7 + (-1 * ρ 11 + 0)
      (try rw [h0]); omega
    · show 0 ≤ -1 * ρ 7 + (1 * ρ 11 + 0)
      (try rw [h0]); omega
  · show sI M
    exact hI
-- wHitR16_r
def xr_461 : qRu := (13, [[(-1, 0), (1, 5)], [(1, 1)], [(-1, 1), (1, 9)], [(1, 1), (-1, 9)], [(-1, 0), (-1, 1), (1, 10)], [(6, 0), (1, 9), (-1, 10)], [(-48365568, 0), (1, 11)], [(48365568, 0), (-1, 11)]], [(4, 210, [(1, 0)]), (4, 211, [(1, 1)]), (4, 101, [(1, 2)]), (3, 46, [(1, 3)]), (3, 47, [(1, 4)]), (4, 100, [(1, 5)]), (3, 50, [(1, 6)]), (3, 51, [(1, 7)]), (4, 108, [(1, 8)]), (4, 214, [(1, 0)]), (4, 215, [(1, 9)]), (4, 217, [(1, 10)]), (4, 219, [(1, 11)]), (4, 216, [(1, 12)])], [], [], [[(-1, 1), (1, 3)], [(1, 1), (-1, 3)], [(1, 4), (-1, 10)], [(-1, 4), (1, 10)], [(1, 6)], [(-1, 6)], [(-16, 0), (1, 7)], [(16, 0), (-1, 7)]])
theorem xo_461 : qRok xr_461 := by
  intro ρ M h0 hf hm hI
  have f0 := hf [(-1, 0), (1, 5)] (by decide)
  have f1 := hf [(1, 1)] (by decide)
  have f2 := hf [(-1, 1), (1, 9)] (by decide)
  have f3 := hf [(1, 1), (-1, 9)] (by decide)
  have f4 := hf [(-1, 0), (-1, 1), (1, 10)] (by decide)
  have f5 := hf [(6, 0), (1, 9), (-1, 10)] (by decide)
  have f6 := hf [(-48365568, 0), (1, 11)] (by decide)
  have f7 := hf [(48365568, 0), (-1, 11)] (by decide)
  simp only [qD, h0] at f0 f1 f2 f3 f4 f5 f6 f7
  have m0 : M 4 210 = 1 * ρ 0 + 0 := hm (4, 210, [(1, 0)]) (by decide)
  have m1 : M 4 211 = 1 * ρ 1 + 0 := hm (4, 211, [(1, 1)]) (by decide)
  have m2 : M 4 101 = 1 * ρ 2 + 0 := hm (4, 101, [(1, 2)]) (by decide)
  have m3 : M 3 46 = 1 * ρ 3 + 0 := hm (3, 46, [(1, 3)]) (by decide)
  have m4 : M 3 47 = 1 * ρ 4 + 0 := hm (3, 47, [(1, 4)]) (by decide)
  have m5 : M 4 100 = 1 * ρ 5 + 0 := hm (4, 100, [(1, 5)]) (by decide)
  have m6 : M 3 50 = 1 * ρ 6 + 0 := hm (3, 50, [(1, 6)]) (by decide)
  have m7 : M 3 51 = 1 * ρ 7 + 0 := hm (3, 51, [(1, 7)]) (by decide)
  have m8 : M 4 108 = 1 * ρ 8 + 0 := hm (4, 108, [(1, 8)]) (by decide)
  have m9 : M 4 214 = 1 * ρ 0 + 0 := hm (4, 214, [(1, 0)]) (by decide)
  have m10 : M 4 215 = 1 * ρ 9 + 0 := hm (4, 215, [(1, 9)]) (by decide)
  have m11 : M 4 217 = 1 * ρ 10 + 0 := hm (4, 217, [(1, 10)]) (by decide)
  have m12 : M 4 219 = 1 * ρ 11 + 0 := hm (4, 219, [(1, 11)]) (by decide)
  have m13 : M 4 216 = 1 * ρ 12 + 0 := hm (4, 216, [(1, 12)]) (by decide)
  simp only [h0] at m0 m9
  obtain ⟨u1, u2, _⟩ := gx_xS8 hI (by omega)

  obtain ⟨a1, a2, a3, a4, a5, a6, a7⟩ := gx_xSA hI (by omega)
  have eq1 : (M 4 215).toNat = (M 4 211).toNat := by omega
  rw [eq1] at a6 a7
  have hgt := ten_gt (g := M 92) (lo := 97) (hi := 122) (n := (M 4 101).toNat) (q := (M 4 211).toNat) (by omega)
  have el1 : (M 4 217 - M 4 215).toNat = tEn (M 92) 97 122 (M 4 101).toNat (M 4 211).toNat - (M 4 211).toNat := by omega
  rw [el1] at a7

  obtain ⟨t1, t2, t3, t4, t5, t6⟩ := tk_of hI (by omega) (by omega) (by omega) (show tAt (M 92) (M 4 101).toNat (M 4 211).toNat (M 4 107) (M 4 108) = (34, M 4 219, ((M 4 211).toNat : Int), M 4 217, 0, 16) from by
    unfold tAt
    rw [if_neg (by omega), if_pos hgt.2]
    unfold tWo
    rw [← a7, ← a6]
    have hk : tKi (M 4 219) 0 = 34 := by
      rw [show M 4 219 = 48365568 by omega]
      decide
    have h6 : ¬ (6 < tEn (M 92) 97 122 (M 4 101).toNat (M 4 211).toNat - (M 4 211).toNat) := by omega
    unfold tWk tWs tWv
    rw [if_neg h6, if_neg h6, if_neg h6, hk]
    rfl)
  refine ⟨ρ, fun _ _ => rfl, fun f h => ?_, ?_⟩
  · have h : f ∈ ([[(-1, 1), (1, 3)], [(1, 1), (-1, 3)], [(1, 4), (-1, 10)], [(-1, 4), (1, 10)], [(1, 6)], [(-1, 6)], [(-16, 0), (1, 7)], [(16, 0), (-1, 7)]] : List qF) := h
    simp only [List.mem_cons, List.not_mem_nil, or_false] at h
    rcases h with rfl | rfl | rfl | rfl | rfl | rfl | rfl | rfl
    · show 0 ≤ -1 * ρ 1 + (1 * ρ 3 + 0)
      (try rw [h0]); omega
    · show 0 ≤ 1 * ρ 1 + (-1 * ρ 3 + 0)
      (try rw [h0]); omega
    · show 0 ≤ 1 * ρ 4 + (-1 * ρ 10 + 0)
      (try rw [h0]); omega
    · show 0 ≤ -1 * ρ 4 + (1 * ρ 10 + 0)
      (try rw [h0]); omega
    · show 0 ≤ 1 * ρ 6 + 0
      (try rw [h0]); omega
    · show 0 ≤ -1 * ρ 6 + 0
      (try rw [h0]); omega
    · show 0 ≤ -16 * ρ 0 + (1 * ρ 7 + 0)
      (try rw [h0]); omega
    · show 0 ≤ 16 * ρ 0 + (-1 * ρ 7 + 0)
      (try rw [h0]); omega
  · show sI M
    exact hI
-- langMissR16L
def xr_462 : qRu := (3, [[(48365567, 0), (-1, 2)]], [(4, 226, [(1, 0)]), (4, 227, [(16, 0)]), (4, 219, [(1, 2)])], [], [(4, 227, [(17, 0)])], [])
theorem xo_462 : qRok xr_462 := by
  intro ρ M h0 hf hm hI
  have f0 := hf [(48365567, 0), (-1, 2)] (by decide)
  simp only [qD, h0] at f0
  have m0 : M 4 226 = 1 * ρ 0 + 0 := hm (4, 226, [(1, 0)]) (by decide)
  have m1 : M 4 227 = 16 * ρ 0 + 0 := hm (4, 227, [(16, 0)]) (by decide)
  have m2 : M 4 219 = 1 * ρ 2 + 0 := hm (4, 219, [(1, 2)]) (by decide)
  simp only [h0] at m0 m1
  have qxSC := hI.2.2.2.2.2.2.2.2.2.2.2.2.2.2.2.2.2.2.2.2.2.2.2.2.2.2.2.2.2.2.2.2.2.2.1
  obtain ⟨l1, l2, l3⟩ := gx_xSC hI (by omega)
  refine ⟨ρ, fun _ _ => rfl, fun f h => ?_, ?_⟩
  · exact nomatch h
  · show sI (sU M 4 227 (17 * ρ 0 + 0))
    obtain ⟨W, hW⟩ : ∃ W, W = (sU M 4 227 (17 * ρ 0 + 0)) := ⟨_, rfl⟩
    rw [← hW]
    have base : sI0 W := by
      rw [hW]
      exact (si_u0 hI.1 (fun r hr => by cases hr))
    have k2 : XI2 W := by
      rw [hW]
      exact (xi2_u rfl hI.2.1)
    have k3 : XI3 W := by
      rw [hW]
      exact (xi3_u rfl hI.2.2.1)
    have kXA : XA W := by
      rw [hW]
      exact (uXA rfl hI.2.2.2.1)
    have k_xN1 : xN1 W := by
      rw [hW]
      exact (uxN1 rfl hI.2.2.2.2.1)
    have k_xN2 : xN2 W := by
      rw [hW]
      exact (uxN2 rfl hI.2.2.2.2.2.1)
    have k_xN3 : xN3 W := by
      rw [hW]
      exact (uxN3 rfl hI.2.2.2.2.2.2.1)
    have k_xN4 : xN4 W := by
      rw [hW]
      exact (uxN4 rfl hI.2.2.2.2.2.2.2.1)
    have k_xN5 : xN5 W := by
      rw [hW]
      exact (uxN5 rfl hI.2.2.2.2.2.2.2.2.1)
    have k_xN6 : xN6 W := by
      rw [hW]
      exact (uxN6 rfl hI.2.2.2.2.2.2.2.2.2.1)
    have k_xH1 : xH1 W := by
      rw [hW]
      exact (uxH1 rfl hI.2.2.2.2.2.2.2.2.2.2.1)
    have k_xK1 : xK1 W := by
      rw [hW]
      exact (uxK1 rfl hI.2.2.2.2.2.2.2.2.2.2.2.1)
    have k_xC1 : xC1 W := by
      rw [hW]
      exact (uxC1 rfl hI.2.2.2.2.2.2.2.2.2.2.2.2.1)
    have k_xRW : xRW W := by
      rw [hW]
      exact (uxRW rfl hI.2.2.2.2.2.2.2.2.2.2.2.2.2.1)
    have k_xWT : xWT W := by
      rw [hW]
      exact (uxWT rfl hI.2.2.2.2.2.2.2.2.2.2.2.2.2.2.1)
    have k_xCU : xCU W := by
      rw [hW]
      exact (uxCU rfl hI.2.2.2.2.2.2.2.2.2.2.2.2.2.2.2.1)
    have k_xG2 : xG2 W := by
      rw [hW]
      exact (uxG2 rfl hI.2.2.2.2.2.2.2.2.2.2.2.2.2.2.2.2.1)
    have k_xG3 : xG3 W := by
      rw [hW]
      exact (uxG3 rfl hI.2.2.2.2.2.2.2.2.2.2.2.2.2.2.2.2.2.1)
    have k_xG4 : xG4 W := by
      rw [hW]
      exact (uxG4 rfl hI.2.2.2.2.2.2.2.2.2.2.2.2.2.2.2.2.2.2.1)
    have k_xG5 : xG5 W := by
      rw [hW]
      exact (uxG5 rfl hI.2.2.2.2.2.2.2.2.2.2.2.2.2.2.2.2.2.2.2.1)
    have k_xG6 : xG6 W := by
      rw [hW]
      exact (uxG6 rfl hI.2.2.2.2.2.2.2.2.2.2.2.2.2.2.2.2.2.2.2.2.1)
    have k_xS1 : xS1 W := by
      rw [hW]
      exact (uxS1 rfl hI.2.2.2.2.2.2.2.2.2.2.2.2.2.2.2.2.2.2.2.2.2.1)
    have k_xS2 : xS2 W := by
      rw [hW]
      exact (uxS2 rfl hI.2.2.2.2.2.2.2.2.2.2.2.2.2.2.2.2.2.2.2.2.2.2.1)
    have k_xS3 : xS3 W := by
      rw [hW]
      exact (uxS3 rfl hI.2.2.2.2.2.2.2.2.2.2.2.2.2.2.2.2.2.2.2.2.2.2.2.1)
    have k_xS4 : xS4 W := by
      rw [hW]
      exact (uxS4 rfl hI.2.2.2.2.2.2.2.2.2.2.2.2.2.2.2.2.2.2.2.2.2.2.2.2.1)
    have k_xS5 : xS5 W := by
      rw [hW]
      exact (uxS5 rfl hI.2.2.2.2.2.2.2.2.2.2.2.2.2.2.2.2.2.2.2.2.2.2.2.2.2.1)
    have k_xS6 : xS6 W := by
      rw [hW]
      exact (uxS6 rfl hI.2.2.2.2.2.2.2.2.2.2.2.2.2.2.2.2.2.2.2.2.2.2.2.2.2.2.1)
    have k_xS7 : xS7 W := by
      rw [hW]
      exact (uxS7 rfl hI.2.2.2.2.2.2.2.2.2.2.2.2.2.2.2.2.2.2.2.2.2.2.2.2.2.2.2.1)
    have k_xS8 : xS8 W := by
      rw [hW]
      exact (uxS8 rfl hI.2.2.2.2.2.2.2.2.2.2.2.2.2.2.2.2.2.2.2.2.2.2.2.2.2.2.2.2.1)
    have k_xS9 : xS9 W := by
      rw [hW]
      exact (uxS9 rfl hI.2.2.2.2.2.2.2.2.2.2.2.2.2.2.2.2.2.2.2.2.2.2.2.2.2.2.2.2.2.1)
    have k_xSA : xSA W := by
      rw [hW]
      exact (uxSA rfl hI.2.2.2.2.2.2.2.2.2.2.2.2.2.2.2.2.2.2.2.2.2.2.2.2.2.2.2.2.2.2.1)
    have k_xSG : xSG W := by
      rw [hW]
      exact (uxSG rfl hI.2.2.2.2.2.2.2.2.2.2.2.2.2.2.2.2.2.2.2.2.2.2.2.2.2.2.2.2.2.2.2.1)
    have k_xSF : xSF W := by
      rw [hW]
      exact (uxSF rfl hI.2.2.2.2.2.2.2.2.2.2.2.2.2.2.2.2.2.2.2.2.2.2.2.2.2.2.2.2.2.2.2.2.1)
    have k_xSB : xSB W := by
      rw [hW]
      exact (uxSB rfl hI.2.2.2.2.2.2.2.2.2.2.2.2.2.2.2.2.2.2.2.2.2.2.2.2.2.2.2.2.2.2.2.2.2.1)
    have k_xSC : xSC W := by
      have r4_226 : W 4 226 = M 4 226 := by rw [hW, sU_ne (fun z => by omega)]
      have r4_227 : W 4 227 = 17 * ρ 0 + 0 := by rw [hW, sU_at]
      have r4_219 : W 4 219 = M 4 219 := by rw [hW, sU_ne (fun z => by omega)]
      intro h
      rw [r4_227, r4_219, h0]
      refine ⟨by omega, by omega, ?_⟩
      have e1 := tki_on (x := M 4 219) (w := 16) (show tLa[16]? = some (48365568 : Int) from rfl)
      rw [if_neg (by omega)] at e1
      rw [show M 4 227 = 16 by omega] at l3
      rw [← l3]
      exact e1.symm
    have k_xSD : xSD W := by
      rw [hW]
      exact (uxSD rfl hI.2.2.2.2.2.2.2.2.2.2.2.2.2.2.2.2.2.2.2.2.2.2.2.2.2.2.2.2.2.2.2.2.2.2.2.1)
    have k_xSE : xSE W := by
      rw [hW]
      exact (uxSE rfl hI.2.2.2.2.2.2.2.2.2.2.2.2.2.2.2.2.2.2.2.2.2.2.2.2.2.2.2.2.2.2.2.2.2.2.2.2.1)
    have k_xSW : xSW W := by
      rw [hW]
      exact (uxSW rfl hI.2.2.2.2.2.2.2.2.2.2.2.2.2.2.2.2.2.2.2.2.2.2.2.2.2.2.2.2.2.2.2.2.2.2.2.2.2.1)
    have k_xST : xST W := by
      rw [hW]
      exact (uxST rfl hI.2.2.2.2.2.2.2.2.2.2.2.2.2.2.2.2.2.2.2.2.2.2.2.2.2.2.2.2.2.2.2.2.2.2.2.2.2.2.1)
    have k_xSP : xSP W := by
      rw [hW]
      exact (uxSP rfl hI.2.2.2.2.2.2.2.2.2.2.2.2.2.2.2.2.2.2.2.2.2.2.2.2.2.2.2.2.2.2.2.2.2.2.2.2.2.2.2.1)
    have k_xSL : xSL W := by
      rw [hW]
      exact (uxSL rfl hI.2.2.2.2.2.2.2.2.2.2.2.2.2.2.2.2.2.2.2.2.2.2.2.2.2.2.2.2.2.2.2.2.2.2.2.2.2.2.2.2.1)
    have k_xSM : xSM W := by
      rw [hW]
      exact (uxSM rfl hI.2.2.2.2.2.2.2.2.2.2.2.2.2.2.2.2.2.2.2.2.2.2.2.2.2.2.2.2.2.2.2.2.2.2.2.2.2.2.2.2.2.1)
    have k_xSI : xSI W := by
      rw [hW]
      exact (uxSI rfl hI.2.2.2.2.2.2.2.2.2.2.2.2.2.2.2.2.2.2.2.2.2.2.2.2.2.2.2.2.2.2.2.2.2.2.2.2.2.2.2.2.2.2.1)
    have k_xD3 : xD3 W := by
      rw [hW]
      exact (uxD3 rfl hI.2.2.2.2.2.2.2.2.2.2.2.2.2.2.2.2.2.2.2.2.2.2.2.2.2.2.2.2.2.2.2.2.2.2.2.2.2.2.2.2.2.2.2.1)
    have k_xDV : xDV W := by
      rw [hW]
      exact (uxDV rfl hI.2.2.2.2.2.2.2.2.2.2.2.2.2.2.2.2.2.2.2.2.2.2.2.2.2.2.2.2.2.2.2.2.2.2.2.2.2.2.2.2.2.2.2.2.1)
    have k_xDP : xDP W := by
      rw [hW]
      exact (uxDP rfl hI.2.2.2.2.2.2.2.2.2.2.2.2.2.2.2.2.2.2.2.2.2.2.2.2.2.2.2.2.2.2.2.2.2.2.2.2.2.2.2.2.2.2.2.2.2.1)
    have k_xDE : xDE W := by
      rw [hW]
      exact (uxDE rfl hI.2.2.2.2.2.2.2.2.2.2.2.2.2.2.2.2.2.2.2.2.2.2.2.2.2.2.2.2.2.2.2.2.2.2.2.2.2.2.2.2.2.2.2.2.2.2.1)
    have k_xQ5 : xQ5 W := by
      rw [hW]
      exact (uxQ5 rfl hI.2.2.2.2.2.2.2.2.2.2.2.2.2.2.2.2.2.2.2.2.2.2.2.2.2.2.2.2.2.2.2.2.2.2.2.2.2.2.2.2.2.2.2.2.2.2.2.1)
    have k_xQL : xQL W := by
      rw [hW]
      exact (uxQL rfl hI.2.2.2.2.2.2.2.2.2.2.2.2.2.2.2.2.2.2.2.2.2.2.2.2.2.2.2.2.2.2.2.2.2.2.2.2.2.2.2.2.2.2.2.2.2.2.2.2.1)
    have k_xQW : xQW W := by
      rw [hW]
      exact (uxQW rfl hI.2.2.2.2.2.2.2.2.2.2.2.2.2.2.2.2.2.2.2.2.2.2.2.2.2.2.2.2.2.2.2.2.2.2.2.2.2.2.2.2.2.2.2.2.2.2.2.2.2.1)
    have k_xQM : xQM W := by
      rw [hW]
      exact (uxQM rfl hI.2.2.2.2.2.2.2.2.2.2.2.2.2.2.2.2.2.2.2.2.2.2.2.2.2.2.2.2.2.2.2.2.2.2.2.2.2.2.2.2.2.2.2.2.2.2.2.2.2.2.1)
    have k_xQH : xQH W := by
      rw [hW]
      exact (uxQH rfl hI.2.2.2.2.2.2.2.2.2.2.2.2.2.2.2.2.2.2.2.2.2.2.2.2.2.2.2.2.2.2.2.2.2.2.2.2.2.2.2.2.2.2.2.2.2.2.2.2.2.2.2)
    have k_XC : XC W := ⟨k_xS1, k_xS2, k_xS3, k_xS4, k_xS5, k_xS6, k_xS7, k_xS8, k_xS9, k_xSA, k_xSG, k_xSF, k_xSB, k_xSC, k_xSD, k_xSE, k_xSW, k_xST, k_xSP, k_xSL, k_xSM, k_xSI, k_xD3, k_xDV, k_xDP, k_xDE, k_xQ5, k_xQL, k_xQW, k_xQM, k_xQH⟩
    have kXB : XB W := ⟨k_xN1, k_xN2, k_xN3, k_xN4, k_xN5, k_xN6, k_xH1, k_xK1, k_xC1, k_xRW, k_xWT, k_xCU, k_xG2, k_xG3, k_xG4, k_xG5, k_xG6, k_XC⟩
    exact ⟨base, k2, k3, kXA, kXB⟩
-- langMissR16H
def xr_463 : qRu := (3, [[(-48365569, 0), (1, 2)]], [(4, 226, [(1, 0)]), (4, 227, [(16, 0)]), (4, 219, [(1, 2)])], [], [(4, 227, [(17, 0)])], [])
theorem xo_463 : qRok xr_463 := by
  intro ρ M h0 hf hm hI
  have f0 := hf [(-48365569, 0), (1, 2)] (by decide)
  simp only [qD, h0] at f0
  have m0 : M 4 226 = 1 * ρ 0 + 0 := hm (4, 226, [(1, 0)]) (by decide)
  have m1 : M 4 227 = 16 * ρ 0 + 0 := hm (4, 227, [(16, 0)]) (by decide)
  have m2 : M 4 219 = 1 * ρ 2 + 0 := hm (4, 219, [(1, 2)]) (by decide)
  simp only [h0] at m0 m1
  have qxSC := hI.2.2.2.2.2.2.2.2.2.2.2.2.2.2.2.2.2.2.2.2.2.2.2.2.2.2.2.2.2.2.2.2.2.2.1
  obtain ⟨l1, l2, l3⟩ := gx_xSC hI (by omega)
  refine ⟨ρ, fun _ _ => rfl, fun f h => ?_, ?_⟩
  · exact nomatch h
  · show sI (sU M 4 227 (17 * ρ 0 + 0))
    obtain ⟨W, hW⟩ : ∃ W, W = (sU M 4 227 (17 * ρ 0 + 0)) := ⟨_, rfl⟩
    rw [← hW]
    have base : sI0 W := by
      rw [hW]
      exact (si_u0 hI.1 (fun r hr => by cases hr))
    have k2 : XI2 W := by
      rw [hW]
      exact (xi2_u rfl hI.2.1)
    have k3 : XI3 W := by
      rw [hW]
      exact (xi3_u rfl hI.2.2.1)
    have kXA : XA W := by
      rw [hW]
      exact (uXA rfl hI.2.2.2.1)
    have k_xN1 : xN1 W := by
      rw [hW]
      exact (uxN1 rfl hI.2.2.2.2.1)
    have k_xN2 : xN2 W := by
      rw [hW]
      exact (uxN2 rfl hI.2.2.2.2.2.1)
    have k_xN3 : xN3 W := by
      rw [hW]
      exact (uxN3 rfl hI.2.2.2.2.2.2.1)
    have k_xN4 : xN4 W := by
      rw [hW]
      exact (uxN4 rfl hI.2.2.2.2.2.2.2.1)
    have k_xN5 : xN5 W := by
      rw [hW]
      exact (uxN5 rfl hI.2.2.2.2.2.2.2.2.1)
    have k_xN6 : xN6 W := by
      rw [hW]
      exact (uxN6 rfl hI.2.2.2.2.2.2.2.2.2.1)
    have k_xH1 : xH1 W := by
      rw [hW]
      exact (uxH1 rfl hI.2.2.2.2.2.2.2.2.2.2.1)
    have k_xK1 : xK1 W := by
      rw [hW]
      exact (uxK1 rfl hI.2.2.2.2.2.2.2.2.2.2.2.1)
    have k_xC1 : xC1 W := by
      rw [hW]
      exact (uxC1 rfl hI.2.2.2.2.2.2.2.2.2.2.2.2.1)
    have k_xRW : xRW W := by
      rw [hW]
      exact (uxRW rfl hI.2.2.2.2.2.2.2.2.2.2.2.2.2.1)
    have k_xWT : xWT W := by
      rw [hW]
      exact (uxWT rfl hI.2.2.2.2.2.2.2.2.2.2.2.2.2.2.1)
    have k_xCU : xCU W := by
      rw [hW]
      exact (uxCU rfl hI.2.2.2.2.2.2.2.2.2.2.2.2.2.2.2.1)
    have k_xG2 : xG2 W := by
      rw [hW]
      exact (uxG2 rfl hI.2.2.2.2.2.2.2.2.2.2.2.2.2.2.2.2.1)
    have k_xG3 : xG3 W := by
      rw [hW]
      exact (uxG3 rfl hI.2.2.2.2.2.2.2.2.2.2.2.2.2.2.2.2.2.1)
    have k_xG4 : xG4 W := by
      rw [hW]
      exact (uxG4 rfl hI.2.2.2.2.2.2.2.2.2.2.2.2.2.2.2.2.2.2.1)
    have k_xG5 : xG5 W := by
      rw [hW]
      exact (uxG5 rfl hI.2.2.2.2.2.2.2.2.2.2.2.2.2.2.2.2.2.2.2.1)
    have k_xG6 : xG6 W := by
      rw [hW]
      exact (uxG6 rfl hI.2.2.2.2.2.2.2.2.2.2.2.2.2.2.2.2.2.2.2.2.1)
    have k_xS1 : xS1 W := by
      rw [hW]
      exact (uxS1 rfl hI.2.2.2.2.2.2.2.2.2.2.2.2.2.2.2.2.2.2.2.2.2.1)
    have k_xS2 : xS2 W := by
      rw [hW]
      exact (uxS2 rfl hI.2.2.2.2.2.2.2.2.2.2.2.2.2.2.2.2.2.2.2.2.2.2.1)
    have k_xS3 : xS3 W := by
      rw [hW]
      exact (uxS3 rfl hI.2.2.2.2.2.2.2.2.2.2.2.2.2.2.2.2.2.2.2.2.2.2.2.1)
    have k_xS4 : xS4 W := by
      rw [hW]
      exact (uxS4 rfl hI.2.2.2.2.2.2.2.2.2.2.2.2.2.2.2.2.2.2.2.2.2.2.2.2.1)
    have k_xS5 : xS5 W := by
      rw [hW]
      exact (uxS5 rfl hI.2.2.2.2.2.2.2.2.2.2.2.2.2.2.2.2.2.2.2.2.2.2.2.2.2.1)
    have k_xS6 : xS6 W := by
      rw [hW]
      exact (uxS6 rfl hI.2.2.2.2.2.2.2.2.2.2.2.2.2.2.2.2.2.2.2.2.2.2.2.2.2.2.1)
    have k_xS7 : xS7 W := by
      rw [hW]
      exact (uxS7 rfl hI.2.2.2.2.2.2.2.2.2.2.2.2.2.2.2.2.2.2.2.2.2.2.2.2.2.2.2.1)
    have k_xS8 : xS8 W := by
      rw [hW]
      exact (uxS8 rfl hI.2.2.2.2.2.2.2.2.2.2.2.2.2.2.2.2.2.2.2.2.2.2.2.2.2.2.2.2.1)
    have k_xS9 : xS9 W := by
      rw [hW]
      exact (uxS9 rfl hI.2.2.2.2.2.2.2.2.2.2.2.2.2.2.2.2.2.2.2.2.2.2.2.2.2.2.2.2.2.1)
    have k_xSA : xSA W := by
      rw [hW]
      exact (uxSA rfl hI.2.2.2.2.2.2.2.2.2.2.2.2.2.2.2.2.2.2.2.2.2.2.2.2.2.2.2.2.2.2.1)
    have k_xSG : xSG W := by
      rw [hW]
      exact (uxSG rfl hI.2.2.2.2.2.2.2.2.2.2.2.2.2.2.2.2.2.2.2.2.2.2.2.2.2.2.2.2.2.2.2.1)
    have k_xSF : xSF W := by
      rw [hW]
      exact (uxSF rfl hI.2.2.2.2.2.2.2.2.2.2.2.2.2.2.2.2.2.2.2.2.2.2.2.2.2.2.2.2.2.2.2.2.1)
    have k_xSB : xSB W := by
      rw [hW]
      exact (uxSB rfl hI.2.2.2.2.2.2.2.2.2.2.2.2.2.2.2.2.2.2.2.2.2.2.2.2.2.2.2.2.2.2.2.2.2.1)
    have k_xSC : xSC W := by
      have r4_226 : W 4 226 = M 4 226 := by rw [hW, sU_ne (fun z => by omega)]
      have r4_227 : W 4 227 = 17 * ρ 0 + 0 := by rw [hW, sU_at]
      have r4_219 : W 4 219 = M 4 219 := by rw [hW, sU_ne (fun z => by omega)]
      intro h
      rw [r4_227, r4_219, h0]
      refine ⟨by omega, by omega, ?_⟩
      have e1 := tki_on (x := M 4 219) (w := 16) (show tLa[16]? = some (48365568 : Int) from rfl)
      rw [if_neg (by omega)] at e1
      rw [show M 4 227 = 16 by omega] at l3
      rw [← l3]
      exact e1.symm
    have k_xSD : xSD W := by
      rw [hW]
      exact (uxSD rfl hI.2.2.2.2.2.2.2.2.2.2.2.2.2.2.2.2.2.2.2.2.2.2.2.2.2.2.2.2.2.2.2.2.2.2.2.1)
    have k_xSE : xSE W := by
      rw [hW]
      exact (uxSE rfl hI.2.2.2.2.2.2.2.2.2.2.2.2.2.2.2.2.2.2.2.2.2.2.2.2.2.2.2.2.2.2.2.2.2.2.2.2.1)
    have k_xSW : xSW W := by
      rw [hW]
      exact (uxSW rfl hI.2.2.2.2.2.2.2.2.2.2.2.2.2.2.2.2.2.2.2.2.2.2.2.2.2.2.2.2.2.2.2.2.2.2.2.2.2.1)
    have k_xST : xST W := by
      rw [hW]
      exact (uxST rfl hI.2.2.2.2.2.2.2.2.2.2.2.2.2.2.2.2.2.2.2.2.2.2.2.2.2.2.2.2.2.2.2.2.2.2.2.2.2.2.1)
    have k_xSP : xSP W := by
      rw [hW]
      exact (uxSP rfl hI.2.2.2.2.2.2.2.2.2.2.2.2.2.2.2.2.2.2.2.2.2.2.2.2.2.2.2.2.2.2.2.2.2.2.2.2.2.2.2.1)
    have k_xSL : xSL W := by
      rw [hW]
      exact (uxSL rfl hI.2.2.2.2.2.2.2.2.2.2.2.2.2.2.2.2.2.2.2.2.2.2.2.2.2.2.2.2.2.2.2.2.2.2.2.2.2.2.2.2.1)
    have k_xSM : xSM W := by
      rw [hW]
      exact (uxSM rfl hI.2.2.2.2.2.2.2.2.2.2.2.2.2.2.2.2.2.2.2.2.2.2.2.2.2.2.2.2.2.2.2.2.2.2.2.2.2.2.2.2.2.1)
    have k_xSI : xSI W := by
      rw [hW]
      exact (uxSI rfl hI.2.2.2.2.2.2.2.2.2.2.2.2.2.2.2.2.2.2.2.2.2.2.2.2.2.2.2.2.2.2.2.2.2.2.2.2.2.2.2.2.2.2.1)
    have k_xD3 : xD3 W := by
      rw [hW]
      exact (uxD3 rfl hI.2.2.2.2.2.2.2.2.2.2.2.2.2.2.2.2.2.2.2.2.2.2.2.2.2.2.2.2.2.2.2.2.2.2.2.2.2.2.2.2.2.2.2.1)
    have k_xDV : xDV W := by
      rw [hW]
      exact (uxDV rfl hI.2.2.2.2.2.2.2.2.2.2.2.2.2.2.2.2.2.2.2.2.2.2.2.2.2.2.2.2.2.2.2.2.2.2.2.2.2.2.2.2.2.2.2.2.1)
    have k_xDP : xDP W := by
      rw [hW]
      exact (uxDP rfl hI.2.2.2.2.2.2.2.2.2.2.2.2.2.2.2.2.2.2.2.2.2.2.2.2.2.2.2.2.2.2.2.2.2.2.2.2.2.2.2.2.2.2.2.2.2.1)
    have k_xDE : xDE W := by
      rw [hW]
      exact (uxDE rfl hI.2.2.2.2.2.2.2.2.2.2.2.2.2.2.2.2.2.2.2.2.2.2.2.2.2.2.2.2.2.2.2.2.2.2.2.2.2.2.2.2.2.2.2.2.2.2.1)
    have k_xQ5 : xQ5 W := by
      rw [hW]
      exact (uxQ5 rfl hI.2.2.2.2.2.2.2.2.2.2.2.2.2.2.2.2.2.2.2.2.2.2.2.2.2.2.2.2.2.2.2.2.2.2.2.2.2.2.2.2.2.2.2.2.2.2.2.1)
    have k_xQL : xQL W := by
      rw [hW]
      exact (uxQL rfl hI.2.2.2.2.2.2.2.2.2.2.2.2.2.2.2.2.2.2.2.2.2.2.2.2.2.2.2.2.2.2.2.2.2.2.2.2.2.2.2.2.2.2.2.2.2.2.2.2.1)
    have k_xQW : xQW W := by
      rw [hW]
      exact (uxQW rfl hI.2.2.2.2.2.2.2.2.2.2.2.2.2.2.2.2.2.2.2.2.2.2.2.2.2.2.2.2.2.2.2.2.2.2.2.2.2.2.2.2.2.2.2.2.2.2.2.2.2.1)
    have k_xQM : xQM W := by
      rw [hW]
      exact (uxQM rfl hI.2.2.2.2.2.2.2.2.2.2.2.2.2.2.2.2.2.2.2.2.2.2.2.2.2.2.2.2.2.2.2.2.2.2.2.2.2.2.2.2.2.2.2.2.2.2.2.2.2.2.1)
    have k_xQH : xQH W := by
      rw [hW]
      exact (uxQH rfl hI.2.2.2.2.2.2.2.2.2.2.2.2.2.2.2.2.2.2.2.2.2.2.2.2.2.2.2.2.2.2.2.2.2.2.2.2.2.2.2.2.2.2.2.2.2.2.2.2.2.2.2)
    have k_XC : XC W := ⟨k_xS1, k_xS2, k_xS3, k_xS4, k_xS5, k_xS6, k_xS7, k_xS8, k_xS9, k_xSA, k_xSG, k_xSF, k_xSB, k_xSC, k_xSD, k_xSE, k_xSW, k_xST, k_xSP, k_xSL, k_xSM, k_xSI, k_xD3, k_xDV, k_xDP, k_xDE, k_xQ5, k_xQL, k_xQW, k_xQM, k_xQH⟩
    have kXB : XB W := ⟨k_xN1, k_xN2, k_xN3, k_xN4, k_xN5, k_xN6, k_xH1, k_xK1, k_xC1, k_xRW, k_xWT, k_xCU, k_xG2, k_xG3, k_xG4, k_xG5, k_xG6, k_XC⟩
    exact ⟨base, k2, k3, kXA, kXB⟩
-- wHitR17_c
def xr_464 : qRu := (13, [[(-1, 0), (1, 5)], [(1, 1)], [(-1, 1), (1, 9)], [(1, 1), (-1, 9)], [(-1, 0), (-1, 1), (1, 10)], [(6, 0), (1, 9), (-1, 10)], [(-486146048, 0), (1, 11)], [(486146048, 0), (-1, 11)]], [(4, 210, [(1, 0)]), (4, 211, [(1, 1)]), (4, 101, [(1, 2)]), (3, 46, [(1, 3)]), (3, 47, [(1, 4)]), (4, 100, [(1, 5)]), (3, 44, [(1, 6)]), (3, 45, [(1, 7)]), (4, 107, [(1, 8)]), (4, 214, [(1, 0)]), (4, 215, [(1, 9)]), (4, 217, [(1, 10)]), (4, 219, [(1, 11)]), (4, 216, [(1, 12)])], [], [], [[(-1, 1), (1, 3)], [(1, 1), (-1, 3)], [(1, 4), (-1, 10)], [(-1, 4), (1, 10)], [(-35, 0), (1, 6)], [(35, 0), (-1, 6)], [(1, 7), (-1, 11)], [(-1, 7), (1, 11)]])
theorem xo_464 : qRok xr_464 := by
  intro ρ M h0 hf hm hI
  have f0 := hf [(-1, 0), (1, 5)] (by decide)
  have f1 := hf [(1, 1)] (by decide)
  have f2 := hf [(-1, 1), (1, 9)] (by decide)
  have f3 := hf [(1, 1), (-1, 9)] (by decide)
  have f4 := hf [(-1, 0), (-1, 1), (1, 10)] (by decide)
  have f5 := hf [(6, 0), (1, 9), (-1, 10)] (by decide)
  have f6 := hf [(-486146048, 0), (1, 11)] (by decide)
  have f7 := hf [(486146048, 0), (-1, 11)] (by decide)
  simp only [qD, h0] at f0 f1 f2 f3 f4 f5 f6 f7
  have m0 : M 4 210 = 1 * ρ 0 + 0 := hm (4, 210, [(1, 0)]) (by decide)
  have m1 : M 4 211 = 1 * ρ 1 + 0 := hm (4, 211, [(1, 1)]) (by decide)
  have m2 : M 4 101 = 1 * ρ 2 + 0 := hm (4, 101, [(1, 2)]) (by decide)
  have m3 : M 3 46 = 1 * ρ 3 + 0 := hm (3, 46, [(1, 3)]) (by decide)
  have m4 : M 3 47 = 1 * ρ 4 + 0 := hm (3, 47, [(1, 4)]) (by decide)
  have m5 : M 4 100 = 1 * ρ 5 + 0 := hm (4, 100, [(1, 5)]) (by decide)
  have m6 : M 3 44 = 1 * ρ 6 + 0 := hm (3, 44, [(1, 6)]) (by decide)
  have m7 : M 3 45 = 1 * ρ 7 + 0 := hm (3, 45, [(1, 7)]) (by decide)
  have m8 : M 4 107 = 1 * ρ 8 + 0 := hm (4, 107, [(1, 8)]) (by decide)
  have m9 : M 4 214 = 1 * ρ 0 + 0 := hm (4, 214, [(1, 0)]) (by decide)
  have m10 : M 4 215 = 1 * ρ 9 + 0 := hm (4, 215, [(1, 9)]) (by decide)
  have m11 : M 4 217 = 1 * ρ 10 + 0 := hm (4, 217, [(1, 10)]) (by decide)
  have m12 : M 4 219 = 1 * ρ 11 + 0 := hm (4, 219, [(1, 11)]) (by decide)
  have m13 : M 4 216 = 1 * ρ 12 + 0 := hm (4, 216, [(1, 12)]) (by decide)
  simp only [h0] at m0 m9
  obtain ⟨u1, u2, _⟩ := gx_xS8 hI (by omega)

  obtain ⟨a1, a2, a3, a4, a5, a6, a7⟩ := gx_xSA hI (by omega)
  have eq1 : (M 4 215).toNat = (M 4 211).toNat := by omega
  rw [eq1] at a6 a7
  have hgt := ten_gt (g := M 92) (lo := 97) (hi := 122) (n := (M 4 101).toNat) (q := (M 4 211).toNat) (by omega)
  have el1 : (M 4 217 - M 4 215).toNat = tEn (M 92) 97 122 (M 4 101).toNat (M 4 211).toNat - (M 4 211).toNat := by omega
  rw [el1] at a7

  obtain ⟨t1, t2, t3, t4, t5, t6⟩ := tk_of hI (by omega) (by omega) (by omega) (show tAt (M 92) (M 4 101).toNat (M 4 211).toNat (M 4 107) (M 4 108) = (35, M 4 219, ((M 4 211).toNat : Int), M 4 217, 0, 17) from by
    unfold tAt
    rw [if_neg (by omega), if_pos hgt.2]
    unfold tWo
    rw [← a7, ← a6]
    have hk : tKi (M 4 219) 0 = 35 := by
      rw [show M 4 219 = 486146048 by omega]
      decide
    have h6 : ¬ (6 < tEn (M 92) 97 122 (M 4 101).toNat (M 4 211).toNat - (M 4 211).toNat) := by omega
    unfold tWk tWs tWv
    rw [if_neg h6, if_neg h6, if_neg h6, hk]
    rfl)
  refine ⟨ρ, fun _ _ => rfl, fun f h => ?_, ?_⟩
  · have h : f ∈ ([[(-1, 1), (1, 3)], [(1, 1), (-1, 3)], [(1, 4), (-1, 10)], [(-1, 4), (1, 10)], [(-35, 0), (1, 6)], [(35, 0), (-1, 6)], [(1, 7), (-1, 11)], [(-1, 7), (1, 11)]] : List qF) := h
    simp only [List.mem_cons, List.not_mem_nil, or_false] at h
    rcases h with rfl | rfl | rfl | rfl | rfl | rfl | rfl | rfl
    · show 0 ≤ -1 * ρ 1 + (1 * ρ 3 + 0)
      (try rw [h0]); omega
    · show 0 ≤ 1 * ρ 1 + (-1 * ρ 3 + 0)
      (try rw [h0]); omega
    · show 0 ≤ 1 * ρ 4 + (-1 * ρ 10 + 0)
      (try rw [h0]); omega
    · show 0 ≤ -1 * ρ 4 + (1 * ρ 10 + 0)
      (try rw [h0]); omega
    · show 0 ≤ -35 * ρ 0 + (1 * ρ 6 + 0)
      (try rw [h0]); omega
    · show 0 ≤ 35 * ρ 0 + (-1 * ρ 6 + 0)
      (try rw [h0]); omega
    · show 0 ≤ 1 * ρ 7 + (-1 * ρ 11 + 0)
      (try rw [h0]); omega
    · show 0 ≤ -1 * ρ 7 + (1 * ρ 11 + 0)
      (try rw [h0]); omega
  · show sI M
    exact hI
-- wHitR17_r
def xr_465 : qRu := (13, [[(-1, 0), (1, 5)], [(1, 1)], [(-1, 1), (1, 9)], [(1, 1), (-1, 9)], [(-1, 0), (-1, 1), (1, 10)], [(6, 0), (1, 9), (-1, 10)], [(-486146048, 0), (1, 11)], [(486146048, 0), (-1, 11)]], [(4, 210, [(1, 0)]), (4, 211, [(1, 1)]), (4, 101, [(1, 2)]), (3, 46, [(1, 3)]), (3, 47, [(1, 4)]), (4, 100, [(1, 5)]), (3, 50, [(1, 6)]), (3, 51, [(1, 7)]), (4, 108, [(1, 8)]), (4, 214, [(1, 0)]), (4, 215, [(1, 9)]), (4, 217, [(1, 10)]), (4, 219, [(1, 11)]), (4, 216, [(1, 12)])], [], [], [[(-1, 1), (1, 3)], [(1, 1), (-1, 3)], [(1, 4), (-1, 10)], [(-1, 4), (1, 10)], [(1, 6)], [(-1, 6)], [(-17, 0), (1, 7)], [(17, 0), (-1, 7)]])
theorem xo_465 : qRok xr_465 := by
  intro ρ M h0 hf hm hI
  have f0 := hf [(-1, 0), (1, 5)] (by decide)
  have f1 := hf [(1, 1)] (by decide)
  have f2 := hf [(-1, 1), (1, 9)] (by decide)
  have f3 := hf [(1, 1), (-1, 9)] (by decide)
  have f4 := hf [(-1, 0), (-1, 1), (1, 10)] (by decide)
  have f5 := hf [(6, 0), (1, 9), (-1, 10)] (by decide)
  have f6 := hf [(-486146048, 0), (1, 11)] (by decide)
  have f7 := hf [(486146048, 0), (-1, 11)] (by decide)
  simp only [qD, h0] at f0 f1 f2 f3 f4 f5 f6 f7
  have m0 : M 4 210 = 1 * ρ 0 + 0 := hm (4, 210, [(1, 0)]) (by decide)
  have m1 : M 4 211 = 1 * ρ 1 + 0 := hm (4, 211, [(1, 1)]) (by decide)
  have m2 : M 4 101 = 1 * ρ 2 + 0 := hm (4, 101, [(1, 2)]) (by decide)
  have m3 : M 3 46 = 1 * ρ 3 + 0 := hm (3, 46, [(1, 3)]) (by decide)
  have m4 : M 3 47 = 1 * ρ 4 + 0 := hm (3, 47, [(1, 4)]) (by decide)
  have m5 : M 4 100 = 1 * ρ 5 + 0 := hm (4, 100, [(1, 5)]) (by decide)
  have m6 : M 3 50 = 1 * ρ 6 + 0 := hm (3, 50, [(1, 6)]) (by decide)
  have m7 : M 3 51 = 1 * ρ 7 + 0 := hm (3, 51, [(1, 7)]) (by decide)
  have m8 : M 4 108 = 1 * ρ 8 + 0 := hm (4, 108, [(1, 8)]) (by decide)
  have m9 : M 4 214 = 1 * ρ 0 + 0 := hm (4, 214, [(1, 0)]) (by decide)
  have m10 : M 4 215 = 1 * ρ 9 + 0 := hm (4, 215, [(1, 9)]) (by decide)
  have m11 : M 4 217 = 1 * ρ 10 + 0 := hm (4, 217, [(1, 10)]) (by decide)
  have m12 : M 4 219 = 1 * ρ 11 + 0 := hm (4, 219, [(1, 11)]) (by decide)
  have m13 : M 4 216 = 1 * ρ 12 + 0 := hm (4, 216, [(1, 12)]) (by decide)
  simp only [h0] at m0 m9
  obtain ⟨u1, u2, _⟩ := gx_xS8 hI (by omega)

  obtain ⟨a1, a2, a3, a4, a5, a6, a7⟩ := gx_xSA hI (by omega)
  have eq1 : (M 4 215).toNat = (M 4 211).toNat := by omega
  rw [eq1] at a6 a7
  have hgt := ten_gt (g := M 92) (lo := 97) (hi := 122) (n := (M 4 101).toNat) (q := (M 4 211).toNat) (by omega)
  have el1 : (M 4 217 - M 4 215).toNat = tEn (M 92) 97 122 (M 4 101).toNat (M 4 211).toNat - (M 4 211).toNat := by omega
  rw [el1] at a7

  obtain ⟨t1, t2, t3, t4, t5, t6⟩ := tk_of hI (by omega) (by omega) (by omega) (show tAt (M 92) (M 4 101).toNat (M 4 211).toNat (M 4 107) (M 4 108) = (35, M 4 219, ((M 4 211).toNat : Int), M 4 217, 0, 17) from by
    unfold tAt
    rw [if_neg (by omega), if_pos hgt.2]
    unfold tWo
    rw [← a7, ← a6]
    have hk : tKi (M 4 219) 0 = 35 := by
      rw [show M 4 219 = 486146048 by omega]
      decide
    have h6 : ¬ (6 < tEn (M 92) 97 122 (M 4 101).toNat (M 4 211).toNat - (M 4 211).toNat) := by omega
    unfold tWk tWs tWv
    rw [if_neg h6, if_neg h6, if_neg h6, hk]
    rfl)
  refine ⟨ρ, fun _ _ => rfl, fun f h => ?_, ?_⟩
  · have h : f ∈ ([[(-1, 1), (1, 3)], [(1, 1), (-1, 3)], [(1, 4), (-1, 10)], [(-1, 4), (1, 10)], [(1, 6)], [(-1, 6)], [(-17, 0), (1, 7)], [(17, 0), (-1, 7)]] : List qF) := h
    simp only [List.mem_cons, List.not_mem_nil, or_false] at h
    rcases h with rfl | rfl | rfl | rfl | rfl | rfl | rfl | rfl
    · show 0 ≤ -1 * ρ 1 + (1 * ρ 3 + 0)
      (try rw [h0]); omega
    · show 0 ≤ 1 * ρ 1 + (-1 * ρ 3 + 0)
      (try rw [h0]); omega
    · show 0 ≤ 1 * ρ 4 + (-1 * ρ 10 + 0)
      (try rw [h0]); omega
    · show 0 ≤ -1 * ρ 4 + (1 * ρ 10 + 0)
      (try rw [h0]); omega
    · show 0 ≤ 1 * ρ 6 + 0
      (try rw [h0]); omega
    · show 0 ≤ -1 * ρ 6 + 0
      (try rw [h0]); omega
    · show 0 ≤ -17 * ρ 0 + (1 * ρ 7 + 0)
      (try rw [h0]); omega
    · show 0 ≤ 17 * ρ 0 + (-1 * ρ 7 + 0)
      (try rw [h0]); omega
  · show sI M
    exact hI
-- langMissR17L
def xr_466 : qRu := (3, [[(486146047, 0), (-1, 2)]], [(4, 226, [(1, 0)]), (4, 227, [(17, 0)]), (4, 219, [(1, 2)])], [], [(4, 227, [(18, 0)])], [])
theorem xo_466 : qRok xr_466 := by
  intro ρ M h0 hf hm hI
  have f0 := hf [(486146047, 0), (-1, 2)] (by decide)
  simp only [qD, h0] at f0
  have m0 : M 4 226 = 1 * ρ 0 + 0 := hm (4, 226, [(1, 0)]) (by decide)
  have m1 : M 4 227 = 17 * ρ 0 + 0 := hm (4, 227, [(17, 0)]) (by decide)
  have m2 : M 4 219 = 1 * ρ 2 + 0 := hm (4, 219, [(1, 2)]) (by decide)
  simp only [h0] at m0 m1
  have qxSC := hI.2.2.2.2.2.2.2.2.2.2.2.2.2.2.2.2.2.2.2.2.2.2.2.2.2.2.2.2.2.2.2.2.2.2.1
  obtain ⟨l1, l2, l3⟩ := gx_xSC hI (by omega)
  refine ⟨ρ, fun _ _ => rfl, fun f h => ?_, ?_⟩
  · exact nomatch h
  · show sI (sU M 4 227 (18 * ρ 0 + 0))
    obtain ⟨W, hW⟩ : ∃ W, W = (sU M 4 227 (18 * ρ 0 + 0)) := ⟨_, rfl⟩
    rw [← hW]
    have base : sI0 W := by
      rw [hW]
      exact (si_u0 hI.1 (fun r hr => by cases hr))
    have k2 : XI2 W := by
      rw [hW]
      exact (xi2_u rfl hI.2.1)
    have k3 : XI3 W := by
      rw [hW]
      exact (xi3_u rfl hI.2.2.1)
    have kXA : XA W := by
      rw [hW]
      exact (uXA rfl hI.2.2.2.1)
    have k_xN1 : xN1 W := by
      rw [hW]
      exact (uxN1 rfl hI.2.2.2.2.1)
    have k_xN2 : xN2 W := by
      rw [hW]
      exact (uxN2 rfl hI.2.2.2.2.2.1)
    have k_xN3 : xN3 W := by
      rw [hW]
      exact (uxN3 rfl hI.2.2.2.2.2.2.1)
    have k_xN4 : xN4 W := by
      rw [hW]
      exact (uxN4 rfl hI.2.2.2.2.2.2.2.1)
    have k_xN5 : xN5 W := by
      rw [hW]
      exact (uxN5 rfl hI.2.2.2.2.2.2.2.2.1)
    have k_xN6 : xN6 W := by
      rw [hW]
      exact (uxN6 rfl hI.2.2.2.2.2.2.2.2.2.1)
    have k_xH1 : xH1 W := by
      rw [hW]
      exact (uxH1 rfl hI.2.2.2.2.2.2.2.2.2.2.1)
    have k_xK1 : xK1 W := by
      rw [hW]
      exact (uxK1 rfl hI.2.2.2.2.2.2.2.2.2.2.2.1)
    have k_xC1 : xC1 W := by
      rw [hW]
      exact (uxC1 rfl hI.2.2.2.2.2.2.2.2.2.2.2.2.1)
    have k_xRW : xRW W := by
      rw [hW]
      exact (uxRW rfl hI.2.2.2.2.2.2.2.2.2.2.2.2.2.1)
    have k_xWT : xWT W := by
      rw [hW]
      exact (uxWT rfl hI.2.2.2.2.2.2.2.2.2.2.2.2.2.2.1)
    have k_xCU : xCU W := by
      rw [hW]
      exact (uxCU rfl hI.2.2.2.2.2.2.2.2.2.2.2.2.2.2.2.1)
    have k_xG2 : xG2 W := by
      rw [hW]
      exact (uxG2 rfl hI.2.2.2.2.2.2.2.2.2.2.2.2.2.2.2.2.1)
    have k_xG3 : xG3 W := by
      rw [hW]
      exact (uxG3 rfl hI.2.2.2.2.2.2.2.2.2.2.2.2.2.2.2.2.2.1)
    have k_xG4 : xG4 W := by
      rw [hW]
      exact (uxG4 rfl hI.2.2.2.2.2.2.2.2.2.2.2.2.2.2.2.2.2.2.1)
    have k_xG5 : xG5 W := by
      rw [hW]
      exact (uxG5 rfl hI.2.2.2.2.2.2.2.2.2.2.2.2.2.2.2.2.2.2.2.1)
    have k_xG6 : xG6 W := by
      rw [hW]
      exact (uxG6 rfl hI.2.2.2.2.2.2.2.2.2.2.2.2.2.2.2.2.2.2.2.2.1)
    have k_xS1 : xS1 W := by
      rw [hW]
      exact (uxS1 rfl hI.2.2.2.2.2.2.2.2.2.2.2.2.2.2.2.2.2.2.2.2.2.1)
    have k_xS2 : xS2 W := by
      rw [hW]
      exact (uxS2 rfl hI.2.2.2.2.2.2.2.2.2.2.2.2.2.2.2.2.2.2.2.2.2.2.1)
    have k_xS3 : xS3 W := by
      rw [hW]
      exact (uxS3 rfl hI.2.2.2.2.2.2.2.2.2.2.2.2.2.2.2.2.2.2.2.2.2.2.2.1)
    have k_xS4 : xS4 W := by
      rw [hW]
      exact (uxS4 rfl hI.2.2.2.2.2.2.2.2.2.2.2.2.2.2.2.2.2.2.2.2.2.2.2.2.1)
    have k_xS5 : xS5 W := by
      rw [hW]
      exact (uxS5 rfl hI.2.2.2.2.2.2.2.2.2.2.2.2.2.2.2.2.2.2.2.2.2.2.2.2.2.1)
    have k_xS6 : xS6 W := by
      rw [hW]
      exact (uxS6 rfl hI.2.2.2.2.2.2.2.2.2.2.2.2.2.2.2.2.2.2.2.2.2.2.2.2.2.2.1)
    have k_xS7 : xS7 W := by
      rw [hW]
      exact (uxS7 rfl hI.2.2.2.2.2.2.2.2.2.2.2.2.2.2.2.2.2.2.2.2.2.2.2.2.2.2.2.1)
    have k_xS8 : xS8 W := by
      rw [hW]
      exact (uxS8 rfl hI.2.2.2.2.2.2.2.2.2.2.2.2.2.2.2.2.2.2.2.2.2.2.2.2.2.2.2.2.1)
    have k_xS9 : xS9 W := by
      rw [hW]
      exact (uxS9 rfl hI.2.2.2.2.2.2.2.2.2.2.2.2.2.2.2.2.2.2.2.2.2.2.2.2.2.2.2.2.2.1)
    have k_xSA : xSA W := by
      rw [hW]
      exact (uxSA rfl hI.2.2.2.2.2.2.2.2.2.2.2.2.2.2.2.2.2.2.2.2.2.2.2.2.2.2.2.2.2.2.1)
    have k_xSG : xSG W := by
      rw [hW]
      exact (uxSG rfl hI.2.2.2.2.2.2.2.2.2.2.2.2.2.2.2.2.2.2.2.2.2.2.2.2.2.2.2.2.2.2.2.1)
    have k_xSF : xSF W := by
      rw [hW]
      exact (uxSF rfl hI.2.2.2.2.2.2.2.2.2.2.2.2.2.2.2.2.2.2.2.2.2.2.2.2.2.2.2.2.2.2.2.2.1)
    have k_xSB : xSB W := by
      rw [hW]
      exact (uxSB rfl hI.2.2.2.2.2.2.2.2.2.2.2.2.2.2.2.2.2.2.2.2.2.2.2.2.2.2.2.2.2.2.2.2.2.1)
    have k_xSC : xSC W := by
      have r4_226 : W 4 226 = M 4 226 := by rw [hW, sU_ne (fun z => by omega)]
      have r4_227 : W 4 227 = 18 * ρ 0 + 0 := by rw [hW, sU_at]
      have r4_219 : W 4 219 = M 4 219 := by rw [hW, sU_ne (fun z => by omega)]
      intro h
      rw [r4_227, r4_219, h0]
      refine ⟨by omega, by omega, ?_⟩
      have e1 := tki_on (x := M 4 219) (w := 17) (show tLa[17]? = some (486146048 : Int) from rfl)
      rw [if_neg (by omega)] at e1
      rw [show M 4 227 = 17 by omega] at l3
      rw [← l3]
      exact e1.symm
    have k_xSD : xSD W := by
      rw [hW]
      exact (uxSD rfl hI.2.2.2.2.2.2.2.2.2.2.2.2.2.2.2.2.2.2.2.2.2.2.2.2.2.2.2.2.2.2.2.2.2.2.2.1)
    have k_xSE : xSE W := by
      rw [hW]
      exact (uxSE rfl hI.2.2.2.2.2.2.2.2.2.2.2.2.2.2.2.2.2.2.2.2.2.2.2.2.2.2.2.2.2.2.2.2.2.2.2.2.1)
    have k_xSW : xSW W := by
      rw [hW]
      exact (uxSW rfl hI.2.2.2.2.2.2.2.2.2.2.2.2.2.2.2.2.2.2.2.2.2.2.2.2.2.2.2.2.2.2.2.2.2.2.2.2.2.1)
    have k_xST : xST W := by
      rw [hW]
      exact (uxST rfl hI.2.2.2.2.2.2.2.2.2.2.2.2.2.2.2.2.2.2.2.2.2.2.2.2.2.2.2.2.2.2.2.2.2.2.2.2.2.2.1)
    have k_xSP : xSP W := by
      rw [hW]
      exact (uxSP rfl hI.2.2.2.2.2.2.2.2.2.2.2.2.2.2.2.2.2.2.2.2.2.2.2.2.2.2.2.2.2.2.2.2.2.2.2.2.2.2.2.1)
    have k_xSL : xSL W := by
      rw [hW]
      exact (uxSL rfl hI.2.2.2.2.2.2.2.2.2.2.2.2.2.2.2.2.2.2.2.2.2.2.2.2.2.2.2.2.2.2.2.2.2.2.2.2.2.2.2.2.1)
    have k_xSM : xSM W := by
      rw [hW]
      exact (uxSM rfl hI.2.2.2.2.2.2.2.2.2.2.2.2.2.2.2.2.2.2.2.2.2.2.2.2.2.2.2.2.2.2.2.2.2.2.2.2.2.2.2.2.2.1)
    have k_xSI : xSI W := by
      rw [hW]
      exact (uxSI rfl hI.2.2.2.2.2.2.2.2.2.2.2.2.2.2.2.2.2.2.2.2.2.2.2.2.2.2.2.2.2.2.2.2.2.2.2.2.2.2.2.2.2.2.1)
    have k_xD3 : xD3 W := by
      rw [hW]
      exact (uxD3 rfl hI.2.2.2.2.2.2.2.2.2.2.2.2.2.2.2.2.2.2.2.2.2.2.2.2.2.2.2.2.2.2.2.2.2.2.2.2.2.2.2.2.2.2.2.1)
    have k_xDV : xDV W := by
      rw [hW]
      exact (uxDV rfl hI.2.2.2.2.2.2.2.2.2.2.2.2.2.2.2.2.2.2.2.2.2.2.2.2.2.2.2.2.2.2.2.2.2.2.2.2.2.2.2.2.2.2.2.2.1)
    have k_xDP : xDP W := by
      rw [hW]
      exact (uxDP rfl hI.2.2.2.2.2.2.2.2.2.2.2.2.2.2.2.2.2.2.2.2.2.2.2.2.2.2.2.2.2.2.2.2.2.2.2.2.2.2.2.2.2.2.2.2.2.1)
    have k_xDE : xDE W := by
      rw [hW]
      exact (uxDE rfl hI.2.2.2.2.2.2.2.2.2.2.2.2.2.2.2.2.2.2.2.2.2.2.2.2.2.2.2.2.2.2.2.2.2.2.2.2.2.2.2.2.2.2.2.2.2.2.1)
    have k_xQ5 : xQ5 W := by
      rw [hW]
      exact (uxQ5 rfl hI.2.2.2.2.2.2.2.2.2.2.2.2.2.2.2.2.2.2.2.2.2.2.2.2.2.2.2.2.2.2.2.2.2.2.2.2.2.2.2.2.2.2.2.2.2.2.2.1)
    have k_xQL : xQL W := by
      rw [hW]
      exact (uxQL rfl hI.2.2.2.2.2.2.2.2.2.2.2.2.2.2.2.2.2.2.2.2.2.2.2.2.2.2.2.2.2.2.2.2.2.2.2.2.2.2.2.2.2.2.2.2.2.2.2.2.1)
    have k_xQW : xQW W := by
      rw [hW]
      exact (uxQW rfl hI.2.2.2.2.2.2.2.2.2.2.2.2.2.2.2.2.2.2.2.2.2.2.2.2.2.2.2.2.2.2.2.2.2.2.2.2.2.2.2.2.2.2.2.2.2.2.2.2.2.1)
    have k_xQM : xQM W := by
      rw [hW]
      exact (uxQM rfl hI.2.2.2.2.2.2.2.2.2.2.2.2.2.2.2.2.2.2.2.2.2.2.2.2.2.2.2.2.2.2.2.2.2.2.2.2.2.2.2.2.2.2.2.2.2.2.2.2.2.2.1)
    have k_xQH : xQH W := by
      rw [hW]
      exact (uxQH rfl hI.2.2.2.2.2.2.2.2.2.2.2.2.2.2.2.2.2.2.2.2.2.2.2.2.2.2.2.2.2.2.2.2.2.2.2.2.2.2.2.2.2.2.2.2.2.2.2.2.2.2.2)
    have k_XC : XC W := ⟨k_xS1, k_xS2, k_xS3, k_xS4, k_xS5, k_xS6, k_xS7, k_xS8, k_xS9, k_xSA, k_xSG, k_xSF, k_xSB, k_xSC, k_xSD, k_xSE, k_xSW, k_xST, k_xSP, k_xSL, k_xSM, k_xSI, k_xD3, k_xDV, k_xDP, k_xDE, k_xQ5, k_xQL, k_xQW, k_xQM, k_xQH⟩
    have kXB : XB W := ⟨k_xN1, k_xN2, k_xN3, k_xN4, k_xN5, k_xN6, k_xH1, k_xK1, k_xC1, k_xRW, k_xWT, k_xCU, k_xG2, k_xG3, k_xG4, k_xG5, k_xG6, k_XC⟩
    exact ⟨base, k2, k3, kXA, kXB⟩
-- langMissR17H
def xr_467 : qRu := (3, [[(-486146049, 0), (1, 2)]], [(4, 226, [(1, 0)]), (4, 227, [(17, 0)]), (4, 219, [(1, 2)])], [], [(4, 227, [(18, 0)])], [])
theorem xo_467 : qRok xr_467 := by
  intro ρ M h0 hf hm hI
  have f0 := hf [(-486146049, 0), (1, 2)] (by decide)
  simp only [qD, h0] at f0
  have m0 : M 4 226 = 1 * ρ 0 + 0 := hm (4, 226, [(1, 0)]) (by decide)
  have m1 : M 4 227 = 17 * ρ 0 + 0 := hm (4, 227, [(17, 0)]) (by decide)
  have m2 : M 4 219 = 1 * ρ 2 + 0 := hm (4, 219, [(1, 2)]) (by decide)
  simp only [h0] at m0 m1
  have qxSC := hI.2.2.2.2.2.2.2.2.2.2.2.2.2.2.2.2.2.2.2.2.2.2.2.2.2.2.2.2.2.2.2.2.2.2.1
  obtain ⟨l1, l2, l3⟩ := gx_xSC hI (by omega)
  refine ⟨ρ, fun _ _ => rfl, fun f h => ?_, ?_⟩
  · exact nomatch h
  · show sI (sU M 4 227 (18 * ρ 0 + 0))
    obtain ⟨W, hW⟩ : ∃ W, W = (sU M 4 227 (18 * ρ 0 + 0)) := ⟨_, rfl⟩
    rw [← hW]
    have base : sI0 W := by
      rw [hW]
      exact (si_u0 hI.1 (fun r hr => by cases hr))
    have k2 : XI2 W := by
      rw [hW]
      exact (xi2_u rfl hI.2.1)
    have k3 : XI3 W := by
      rw [hW]
      exact (xi3_u rfl hI.2.2.1)
    have kXA : XA W := by
      rw [hW]
      exact (uXA rfl hI.2.2.2.1)
    have k_xN1 : xN1 W := by
      rw [hW]
      exact (uxN1 rfl hI.2.2.2.2.1)
    have k_xN2 : xN2 W := by
      rw [hW]
      exact (uxN2 rfl hI.2.2.2.2.2.1)
    have k_xN3 : xN3 W := by
      rw [hW]
      exact (uxN3 rfl hI.2.2.2.2.2.2.1)
    have k_xN4 : xN4 W := by
      rw [hW]
      exact (uxN4 rfl hI.2.2.2.2.2.2.2.1)
    have k_xN5 : xN5 W := by
      rw [hW]
      exact (uxN5 rfl hI.2.2.2.2.2.2.2.2.1)
    have k_xN6 : xN6 W := by
      rw [hW]
      exact (uxN6 rfl hI.2.2.2.2.2.2.2.2.2.1)
    have k_xH1 : xH1 W := by
      rw [hW]
      exact (uxH1 rfl hI.2.2.2.2.2.2.2.2.2.2.1)
    have k_xK1 : xK1 W := by
      rw [hW]
      exact (uxK1 rfl hI.2.2.2.2.2.2.2.2.2.2.2.1)
    have k_xC1 : xC1 W := by
      rw [hW]
      exact (uxC1 rfl hI.2.2.2.2.2.2.2.2.2.2.2.2.1)
    have k_xRW : xRW W := by
      rw [hW]
      exact (uxRW rfl hI.2.2.2.2.2.2.2.2.2.2.2.2.2.1)
    have k_xWT : xWT W := by
      rw [hW]
      exact (uxWT rfl hI.2.2.2.2.2.2.2.2.2.2.2.2.2.2.1)
    have k_xCU : xCU W := by
      rw [hW]
      exact (uxCU rfl hI.2.2.2.2.2.2.2.2.2.2.2.2.2.2.2.1)
    have k_xG2 : xG2 W := by
      rw [hW]
      exact (uxG2 rfl hI.2.2.2.2.2.2.2.2.2.2.2.2.2.2.2.2.1)
    have k_xG3 : xG3 W := by
      rw [hW]
      exact (uxG3 rfl hI.2.2.2.2.2.2.2.2.2.2.2.2.2.2.2.2.2.1)
    have k_xG4 : xG4 W := by
      rw [hW]
      exact (uxG4 rfl hI.2.2.2.2.2.2.2.2.2.2.2.2.2.2.2.2.2.2.1)
    have k_xG5 : xG5 W := by
      rw [hW]
      exact (uxG5 rfl hI.2.2.2.2.2.2.2.2.2.2.2.2.2.2.2.2.2.2.2.1)
    have k_xG6 : xG6 W := by
      rw [hW]
      exact (uxG6 rfl hI.2.2.2.2.2.2.2.2.2.2.2.2.2.2.2.2.2.2.2.2.1)
    have k_xS1 : xS1 W := by
      rw [hW]
      exact (uxS1 rfl hI.2.2.2.2.2.2.2.2.2.2.2.2.2.2.2.2.2.2.2.2.2.1)
    have k_xS2 : xS2 W := by
      rw [hW]
      exact (uxS2 rfl hI.2.2.2.2.2.2.2.2.2.2.2.2.2.2.2.2.2.2.2.2.2.2.1)
    have k_xS3 : xS3 W := by
      rw [hW]
      exact (uxS3 rfl hI.2.2.2.2.2.2.2.2.2.2.2.2.2.2.2.2.2.2.2.2.2.2.2.1)
    have k_xS4 : xS4 W := by
      rw [hW]
      exact (uxS4 rfl hI.2.2.2.2.2.2.2.2.2.2.2.2.2.2.2.2.2.2.2.2.2.2.2.2.1)
    have k_xS5 : xS5 W := by
      rw [hW]
      exact (uxS5 rfl hI.2.2.2.2.2.2.2.2.2.2.2.2.2.2.2.2.2.2.2.2.2.2.2.2.2.1)
    have k_xS6 : xS6 W := by
      rw [hW]
      exact (uxS6 rfl hI.2.2.2.2.2.2.2.2.2.2.2.2.2.2.2.2.2.2.2.2.2.2.2.2.2.2.1)
    have k_xS7 : xS7 W := by
      rw [hW]
      exact (uxS7 rfl hI.2.2.2.2.2.2.2.2.2.2.2.2.2.2.2.2.2.2.2.2.2.2.2.2.2.2.2.1)
    have k_xS8 : xS8 W := by
      rw [hW]
      exact (uxS8 rfl hI.2.2.2.2.2.2.2.2.2.2.2.2.2.2.2.2.2.2.2.2.2.2.2.2.2.2.2.2.1)
    have k_xS9 : xS9 W := by
      rw [hW]
      exact (uxS9 rfl hI.2.2.2.2.2.2.2.2.2.2.2.2.2.2.2.2.2.2.2.2.2.2.2.2.2.2.2.2.2.1)
    have k_xSA : xSA W := by
      rw [hW]
      exact (uxSA rfl hI.2.2.2.2.2.2.2.2.2.2.2.2.2.2.2.2.2.2.2.2.2.2.2.2.2.2.2.2.2.2.1)
    have k_xSG : xSG W := by
      rw [hW]
      exact (uxSG rfl hI.2.2.2.2.2.2.2.2.2.2.2.2.2.2.2.2.2.2.2.2.2.2.2.2.2.2.2.2.2.2.2.1)
    have k_xSF : xSF W := by
      rw [hW]
      exact (uxSF rfl hI.2.2.2.2.2.2.2.2.2.2.2.2.2.2.2.2.2.2.2.2.2.2.2.2.2.2.2.2.2.2.2.2.1)
    have k_xSB : xSB W := by
      rw [hW]
      exact (uxSB rfl hI.2.2.2.2.2.2.2.2.2.2.2.2.2.2.2.2.2.2.2.2.2.2.2.2.2.2.2.2.2.2.2.2.2.1)
    have k_xSC : xSC W := by
      have r4_226 : W 4 226 = M 4 226 := by rw [hW, sU_ne (fun z => by omega)]
      have r4_227 : W 4 227 = 18 * ρ 0 + 0 := by rw [hW, sU_at]
      have r4_219 : W 4 219 = M 4 219 := by rw [hW, sU_ne (fun z => by omega)]
      intro h
      rw [r4_227, r4_219, h0]
      refine ⟨by omega, by omega, ?_⟩
      have e1 := tki_on (x := M 4 219) (w := 17) (show tLa[17]? = some (486146048 : Int) from rfl)
      rw [if_neg (by omega)] at e1
      rw [show M 4 227 = 17 by omega] at l3
      rw [← l3]
      exact e1.symm
    have k_xSD : xSD W := by
      rw [hW]
      exact (uxSD rfl hI.2.2.2.2.2.2.2.2.2.2.2.2.2.2.2.2.2.2.2.2.2.2.2.2.2.2.2.2.2.2.2.2.2.2.2.1)
    have k_xSE : xSE W := by
      rw [hW]
      exact (uxSE rfl hI.2.2.2.2.2.2.2.2.2.2.2.2.2.2.2.2.2.2.2.2.2.2.2.2.2.2.2.2.2.2.2.2.2.2.2.2.1)
    have k_xSW : xSW W := by
      rw [hW]
      exact (uxSW rfl hI.2.2.2.2.2.2.2.2.2.2.2.2.2.2.2.2.2.2.2.2.2.2.2.2.2.2.2.2.2.2.2.2.2.2.2.2.2.1)
    have k_xST : xST W := by
      rw [hW]
      exact (uxST rfl hI.2.2.2.2.2.2.2.2.2.2.2.2.2.2.2.2.2.2.2.2.2.2.2.2.2.2.2.2.2.2.2.2.2.2.2.2.2.2.1)
    have k_xSP : xSP W := by
      rw [hW]
      exact (uxSP rfl hI.2.2.2.2.2.2.2.2.2.2.2.2.2.2.2.2.2.2.2.2.2.2.2.2.2.2.2.2.2.2.2.2.2.2.2.2.2.2.2.1)
    have k_xSL : xSL W := by
      rw [hW]
      exact (uxSL rfl hI.2.2.2.2.2.2.2.2.2.2.2.2.2.2.2.2.2.2.2.2.2.2.2.2.2.2.2.2.2.2.2.2.2.2.2.2.2.2.2.2.1)
    have k_xSM : xSM W := by
      rw [hW]
      exact (uxSM rfl hI.2.2.2.2.2.2.2.2.2.2.2.2.2.2.2.2.2.2.2.2.2.2.2.2.2.2.2.2.2.2.2.2.2.2.2.2.2.2.2.2.2.1)
    have k_xSI : xSI W := by
      rw [hW]
      exact (uxSI rfl hI.2.2.2.2.2.2.2.2.2.2.2.2.2.2.2.2.2.2.2.2.2.2.2.2.2.2.2.2.2.2.2.2.2.2.2.2.2.2.2.2.2.2.1)
    have k_xD3 : xD3 W := by
      rw [hW]
      exact (uxD3 rfl hI.2.2.2.2.2.2.2.2.2.2.2.2.2.2.2.2.2.2.2.2.2.2.2.2.2.2.2.2.2.2.2.2.2.2.2.2.2.2.2.2.2.2.2.1)
    have k_xDV : xDV W := by
      rw [hW]
      exact (uxDV rfl hI.2.2.2.2.2.2.2.2.2.2.2.2.2.2.2.2.2.2.2.2.2.2.2.2.2.2.2.2.2.2.2.2.2.2.2.2.2.2.2.2.2.2.2.2.1)
    have k_xDP : xDP W := by
      rw [hW]
      exact (uxDP rfl hI.2.2.2.2.2.2.2.2.2.2.2.2.2.2.2.2.2.2.2.2.2.2.2.2.2.2.2.2.2.2.2.2.2.2.2.2.2.2.2.2.2.2.2.2.2.1)
    have k_xDE : xDE W := by
      rw [hW]
      exact (uxDE rfl hI.2.2.2.2.2.2.2.2.2.2.2.2.2.2.2.2.2.2.2.2.2.2.2.2.2.2.2.2.2.2.2.2.2.2.2.2.2.2.2.2.2.2.2.2.2.2.1)
    have k_xQ5 : xQ5 W := by
      rw [hW]
      exact (uxQ5 rfl hI.2.2.2.2.2.2.2.2.2.2.2.2.2.2.2.2.2.2.2.2.2.2.2.2.2.2.2.2.2.2.2.2.2.2.2.2.2.2.2.2.2.2.2.2.2.2.2.1)
    have k_xQL : xQL W := by
      rw [hW]
      exact (uxQL rfl hI.2.2.2.2.2.2.2.2.2.2.2.2.2.2.2.2.2.2.2.2.2.2.2.2.2.2.2.2.2.2.2.2.2.2.2.2.2.2.2.2.2.2.2.2.2.2.2.2.1)
    have k_xQW : xQW W := by
      rw [hW]
      exact (uxQW rfl hI.2.2.2.2.2.2.2.2.2.2.2.2.2.2.2.2.2.2.2.2.2.2.2.2.2.2.2.2.2.2.2.2.2.2.2.2.2.2.2.2.2.2.2.2.2.2.2.2.2.1)
    have k_xQM : xQM W := by
      rw [hW]
      exact (uxQM rfl hI.2.2.2.2.2.2.2.2.2.2.2.2.2.2.2.2.2.2.2.2.2.2.2.2.2.2.2.2.2.2.2.2.2.2.2.2.2.2.2.2.2.2.2.2.2.2.2.2.2.2.1)
    have k_xQH : xQH W := by
      rw [hW]
      exact (uxQH rfl hI.2.2.2.2.2.2.2.2.2.2.2.2.2.2.2.2.2.2.2.2.2.2.2.2.2.2.2.2.2.2.2.2.2.2.2.2.2.2.2.2.2.2.2.2.2.2.2.2.2.2.2)
    have k_XC : XC W := ⟨k_xS1, k_xS2, k_xS3, k_xS4, k_xS5, k_xS6, k_xS7, k_xS8, k_xS9, k_xSA, k_xSG, k_xSF, k_xSB, k_xSC, k_xSD, k_xSE, k_xSW, k_xST, k_xSP, k_xSL, k_xSM, k_xSI, k_xD3, k_xDV, k_xDP, k_xDE, k_xQ5, k_xQL, k_xQW, k_xQM, k_xQH⟩
    have kXB : XB W := ⟨k_xN1, k_xN2, k_xN3, k_xN4, k_xN5, k_xN6, k_xH1, k_xK1, k_xC1, k_xRW, k_xWT, k_xCU, k_xG2, k_xG3, k_xG4, k_xG5, k_xG6, k_XC⟩
    exact ⟨base, k2, k3, kXA, kXB⟩
-- wHitR18_c
def xr_468 : qRu := (13, [[(-1, 0), (1, 5)], [(1, 1)], [(-1, 1), (1, 9)], [(1, 1), (-1, 9)], [(-1, 0), (-1, 1), (1, 10)], [(6, 0), (1, 9), (-1, 10)], [(-647828480, 0), (1, 11)], [(647828480, 0), (-1, 11)]], [(4, 210, [(1, 0)]), (4, 211, [(1, 1)]), (4, 101, [(1, 2)]), (3, 46, [(1, 3)]), (3, 47, [(1, 4)]), (4, 100, [(1, 5)]), (3, 44, [(1, 6)]), (3, 45, [(1, 7)]), (4, 107, [(1, 8)]), (4, 214, [(1, 0)]), (4, 215, [(1, 9)]), (4, 217, [(1, 10)]), (4, 219, [(1, 11)]), (4, 216, [(1, 12)])], [], [], [[(-1, 1), (1, 3)], [(1, 1), (-1, 3)], [(1, 4), (-1, 10)], [(-1, 4), (1, 10)], [(-36, 0), (1, 6)], [(36, 0), (-1, 6)], [(1, 7), (-1, 11)], [(-1, 7), (1, 11)]])
theorem xo_468 : qRok xr_468 := by
  intro ρ M h0 hf hm hI
  have f0 := hf [(-1, 0), (1, 5)] (by decide)
  have f1 := hf [(1, 1)] (by decide)
  have f2 := hf [(-1, 1), (1, 9)] (by decide)
  have f3 := hf [(1, 1), (-1, 9)] (by decide)
  have f4 := hf [(-1, 0), (-1, 1), (1, 10)] (by decide)
  have f5 := hf [(6, 0), (1, 9), (-1, 10)] (by decide)
  have f6 := hf [(-647828480, 0), (1, 11)] (by decide)
  have f7 := hf [(647828480, 0), (-1, 11)] (by decide)
  simp only [qD, h0] at f0 f1 f2 f3 f4 f5 f6 f7
  have m0 : M 4 210 = 1 * ρ 0 + 0 := hm (4, 210, [(1, 0)]) (by decide)
  have m1 : M 4 211 = 1 * ρ 1 + 0 := hm (4, 211, [(1, 1)]) (by decide)
  have m2 : M 4 101 = 1 * ρ 2 + 0 := hm (4, 101, [(1, 2)]) (by decide)
  have m3 : M 3 46 = 1 * ρ 3 + 0 := hm (3, 46, [(1, 3)]) (by decide)
  have m4 : M 3 47 = 1 * ρ 4 + 0 := hm (3, 47, [(1, 4)]) (by decide)
  have m5 : M 4 100 = 1 * ρ 5 + 0 := hm (4, 100, [(1, 5)]) (by decide)
  have m6 : M 3 44 = 1 * ρ 6 + 0 := hm (3, 44, [(1, 6)]) (by decide)
  have m7 : M 3 45 = 1 * ρ 7 + 0 := hm (3, 45, [(1, 7)]) (by decide)
  have m8 : M 4 107 = 1 * ρ 8 + 0 := hm (4, 107, [(1, 8)]) (by decide)
  have m9 : M 4 214 = 1 * ρ 0 + 0 := hm (4, 214, [(1, 0)]) (by decide)
  have m10 : M 4 215 = 1 * ρ 9 + 0 := hm (4, 215, [(1, 9)]) (by decide)
  have m11 : M 4 217 = 1 * ρ 10 + 0 := hm (4, 217, [(1, 10)]) (by decide)
  have m12 : M 4 219 = 1 * ρ 11 + 0 := hm (4, 219, [(1, 11)]) (by decide)
  have m13 : M 4 216 = 1 * ρ 12 + 0 := hm (4, 216, [(1, 12)]) (by decide)
  simp only [h0] at m0 m9
  obtain ⟨u1, u2, _⟩ := gx_xS8 hI (by omega)

  obtain ⟨a1, a2, a3, a4, a5, a6, a7⟩ := gx_xSA hI (by omega)
  have eq1 : (M 4 215).toNat = (M 4 211).toNat := by omega
  rw [eq1] at a6 a7
  have hgt := ten_gt (g := M 92) (lo := 97) (hi := 122) (n := (M 4 101).toNat) (q := (M 4 211).toNat) (by omega)
  have el1 : (M 4 217 - M 4 215).toNat = tEn (M 92) 97 122 (M 4 101).toNat (M 4 211).toNat - (M 4 211).toNat := by omega
  rw [el1] at a7

  obtain ⟨t1, t2, t3, t4, t5, t6⟩ := tk_of hI (by omega) (by omega) (by omega) (show tAt (M 92) (M 4 101).toNat (M 4 211).toNat (M 4 107) (M 4 108) = (36, M 4 219, ((M 4 211).toNat : Int), M 4 217, 0, 18) from by
    unfold tAt
    rw [if_neg (by omega), if_pos hgt.2]
    unfold tWo
    rw [← a7, ← a6]
    have hk : tKi (M 4 219) 0 = 36 := by
      rw [show M 4 219 = 647828480 by omega]
      decide
    have h6 : ¬ (6 < tEn (M 92) 97 122 (M 4 101).toNat (M 4 211).toNat - (M 4 211).toNat) := by omega
    unfold tWk tWs tWv
    rw [if_neg h6, if_neg h6, if_neg h6, hk]
    rfl)
  refine ⟨ρ, fun _ _ => rfl, fun f h => ?_, ?_⟩
  · have h : f ∈ ([[(-1, 1), (1, 3)], [(1, 1), (-1, 3)], [(1, 4), (-1, 10)], [(-1, 4), (1, 10)], [(-36, 0), (1, 6)], [(36, 0), (-1, 6)], [(1, 7), (-1, 11)], [(-1, 7), (1, 11)]] : List qF) := h
    simp only [List.mem_cons, List.not_mem_nil, or_false] at h
    rcases h with rfl | rfl | rfl | rfl | rfl | rfl | rfl | rfl
    · show 0 ≤ -1 * ρ 1 + (1 * ρ 3 + 0)
      (try rw [h0]); omega
    · show 0 ≤ 1 * ρ 1 + (-1 * ρ 3 + 0)
      (try rw [h0]); omega
    · show 0 ≤ 1 * ρ 4 + (-1 * ρ 10 + 0)
      (try rw [h0]); omega
    · show 0 ≤ -1 * ρ 4 + (1 * ρ 10 + 0)
      (try rw [h0]); omega
    · show 0 ≤ -36 * ρ 0 + (1 * ρ 6 + 0)
      (try rw [h0]); omega
    · show 0 ≤ 36 * ρ 0 + (-1 * ρ 6 + 0)
      (try rw [h0]); omega
    · show 0 ≤ 1 * ρ 7 + (-1 * ρ 11 + 0)
      (try rw [h0]); omega
    · show 0 ≤ -1 * ρ 7 + (1 * ρ 11 + 0)
      (try rw [h0]); omega
  · show sI M
    exact hI
-- wHitR18_r
def xr_469 : qRu := (13, [[(-1, 0), (1, 5)], [(1, 1)], [(-1, 1), (1, 9)], [(1, 1), (-1, 9)], [(-1, 0), (-1, 1), (1, 10)], [(6, 0), (1, 9), (-1, 10)], [(-647828480, 0), (1, 11)], [(647828480, 0), (-1, 11)]], [(4, 210, [(1, 0)]), (4, 211, [(1, 1)]), (4, 101, [(1, 2)]), (3, 46, [(1, 3)]), (3, 47, [(1, 4)]), (4, 100, [(1, 5)]), (3, 50, [(1, 6)]), (3, 51, [(1, 7)]), (4, 108, [(1, 8)]), (4, 214, [(1, 0)]), (4, 215, [(1, 9)]), (4, 217, [(1, 10)]), (4, 219, [(1, 11)]), (4, 216, [(1, 12)])], [], [], [[(-1, 1), (1, 3)], [(1, 1), (-1, 3)], [(1, 4), (-1, 10)], [(-1, 4), (1, 10)], [(1, 6)], [(-1, 6)], [(-18, 0), (1, 7)], [(18, 0), (-1, 7)]])
theorem xo_469 : qRok xr_469 := by
  intro ρ M h0 hf hm hI
  have f0 := hf [(-1, 0), (1, 5)] (by decide)
  have f1 := hf [(1, 1)] (by decide)
  have f2 := hf [(-1, 1), (1, 9)] (by decide)
  have f3 := hf [(1, 1), (-1, 9)] (by decide)
  have f4 := hf [(-1, 0), (-1, 1), (1, 10)] (by decide)
  have f5 := hf [(6, 0), (1, 9), (-1, 10)] (by decide)
  have f6 := hf [(-647828480, 0), (1, 11)] (by decide)
  have f7 := hf [(647828480, 0), (-1, 11)] (by decide)
  simp only [qD, h0] at f0 f1 f2 f3 f4 f5 f6 f7
  have m0 : M 4 210 = 1 * ρ 0 + 0 := hm (4, 210, [(1, 0)]) (by decide)
  have m1 : M 4 211 = 1 * ρ 1 + 0 := hm (4, 211, [(1, 1)]) (by decide)
  have m2 : M 4 101 = 1 * ρ 2 + 0 := hm (4, 101, [(1, 2)]) (by decide)
  have m3 : M 3 46 = 1 * ρ 3 + 0 := hm (3, 46, [(1, 3)]) (by decide)
  have m4 : M 3 47 = 1 * ρ 4 + 0 := hm (3, 47, [(1, 4)]) (by decide)
  have m5 : M 4 100 = 1 * ρ 5 + 0 := hm (4, 100, [(1, 5)]) (by decide)
  have m6 : M 3 50 = 1 * ρ 6 + 0 := hm (3, 50, [(1, 6)]) (by decide)
  have m7 : M 3 51 = 1 * ρ 7 + 0 := hm (3, 51, [(1, 7)]) (by decide)
  have m8 : M 4 108 = 1 * ρ 8 + 0 := hm (4, 108, [(1, 8)]) (by decide)
  have m9 : M 4 214 = 1 * ρ 0 + 0 := hm (4, 214, [(1, 0)]) (by decide)
  have m10 : M 4 215 = 1 * ρ 9 + 0 := hm (4, 215, [(1, 9)]) (by decide)
  have m11 : M 4 217 = 1 * ρ 10 + 0 := hm (4, 217, [(1, 10)]) (by decide)
  have m12 : M 4 219 = 1 * ρ 11 + 0 := hm (4, 219, [(1, 11)]) (by decide)
  have m13 : M 4 216 = 1 * ρ 12 + 0 := hm (4, 216, [(1, 12)]) (by decide)
  simp only [h0] at m0 m9
  obtain ⟨u1, u2, _⟩ := gx_xS8 hI (by omega)

  obtain ⟨a1, a2, a3, a4, a5, a6, a7⟩ := gx_xSA hI (by omega)
  have eq1 : (M 4 215).toNat = (M 4 211).toNat := by omega
  rw [eq1] at a6 a7
  have hgt := ten_gt (g := M 92) (lo := 97) (hi := 122) (n := (M 4 101).toNat) (q := (M 4 211).toNat) (by omega)
  have el1 : (M 4 217 - M 4 215).toNat = tEn (M 92) 97 122 (M 4 101).toNat (M 4 211).toNat - (M 4 211).toNat := by omega
  rw [el1] at a7

  obtain ⟨t1, t2, t3, t4, t5, t6⟩ := tk_of hI (by omega) (by omega) (by omega) (show tAt (M 92) (M 4 101).toNat (M 4 211).toNat (M 4 107) (M 4 108) = (36, M 4 219, ((M 4 211).toNat : Int), M 4 217, 0, 18) from by
    unfold tAt
    rw [if_neg (by omega), if_pos hgt.2]
    unfold tWo
    rw [← a7, ← a6]
    have hk : tKi (M 4 219) 0 = 36 := by
      rw [show M 4 219 = 647828480 by omega]
      decide
    have h6 : ¬ (6 < tEn (M 92) 97 122 (M 4 101).toNat (M 4 211).toNat - (M 4 211).toNat) := by omega
    unfold tWk tWs tWv
    rw [if_neg h6, if_neg h6, if_neg h6, hk]
    rfl)
  refine ⟨ρ, fun _ _ => rfl, fun f h => ?_, ?_⟩
  · have h : f ∈ ([[(-1, 1), (1, 3)], [(1, 1), (-1, 3)], [(1, 4), (-1, 10)], [(-1, 4), (1, 10)], [(1, 6)], [(-1, 6)], [(-18, 0), (1, 7)], [(18, 0), (-1, 7)]] : List qF) := h
    simp only [List.mem_cons, List.not_mem_nil, or_false] at h
    rcases h with rfl | rfl | rfl | rfl | rfl | rfl | rfl | rfl
    · show 0 ≤ -1 * ρ 1 + (1 * ρ 3 + 0)
      (try rw [h0]); omega
    · show 0 ≤ 1 * ρ 1 + (-1 * ρ 3 + 0)
      (try rw [h0]); omega
    · show 0 ≤ 1 * ρ 4 + (-1 * ρ 10 + 0)
      (try rw [h0]); omega
    · show 0 ≤ -1 * ρ 4 + (1 * ρ 10 + 0)
      (try rw [h0]); omega
    · show 0 ≤ 1 * ρ 6 + 0
      (try rw [h0]); omega
    · show 0 ≤ -1 * ρ 6 + 0
      (try rw [h0]); omega
    · show 0 ≤ -18 * ρ 0 + (1 * ρ 7 + 0)
      (try rw [h0]); omega
    · show 0 ≤ 18 * ρ 0 + (-1 * ρ 7 + 0)
      (try rw [h0]); omega
  · show sI M
    exact hI
-- langMissR18L
def xr_470 : qRu := (3, [[(647828479, 0), (-1, 2)]], [(4, 226, [(1, 0)]), (4, 227, [(18, 0)]), (4, 219, [(1, 2)])], [], [(4, 227, [(19, 0)])], [])
theorem xo_470 : qRok xr_470 := by
  intro ρ M h0 hf hm hI
  have f0 := hf [(647828479, 0), (-1, 2)] (by decide)
  simp only [qD, h0] at f0
  have m0 : M 4 226 = 1 * ρ 0 + 0 := hm (4, 226, [(1, 0)]) (by decide)
  have m1 : M 4 227 = 18 * ρ 0 + 0 := hm (4, 227, [(18, 0)]) (by decide)
  have m2 : M 4 219 = 1 * ρ 2 + 0 := hm (4, 219, [(1, 2)]) (by decide)
  simp only [h0] at m0 m1
  have qxSC := hI.2.2.2.2.2.2.2.2.2.2.2.2.2.2.2.2.2.2.2.2.2.2.2.2.2.2.2.2.2.2.2.2.2.2.1
  obtain ⟨l1, l2, l3⟩ := gx_xSC hI (by omega)
  refine ⟨ρ, fun _ _ => rfl, fun f h => ?_, ?_⟩
  · exact nomatch h
  · show sI (sU M 4 227 (19 * ρ 0 + 0))
    obtain ⟨W, hW⟩ : ∃ W, W = (sU M 4 227 (19 * ρ 0 + 0)) := ⟨_, rfl⟩
    rw [← hW]
    have base : sI0 W := by
      rw [hW]
      exact (si_u0 hI.1 (fun r hr => by cases hr))
    have k2 : XI2 W := by
      rw [hW]
      exact (xi2_u rfl hI.2.1)
    have k3 : XI3 W := by
      rw [hW]
      exact (xi3_u rfl hI.2.2.1)
    have kXA : XA W := by
      rw [hW]
      exact (uXA rfl hI.2.2.2.1)
    have k_xN1 : xN1 W := by
      rw [hW]
      exact (uxN1 rfl hI.2.2.2.2.1)
    have k_xN2 : xN2 W := by
      rw [hW]
      exact (uxN2 rfl hI.2.2.2.2.2.1)
    have k_xN3 : xN3 W := by
      rw [hW]
      exact (uxN3 rfl hI.2.2.2.2.2.2.1)
    have k_xN4 : xN4 W := by
      rw [hW]
      exact (uxN4 rfl hI.2.2.2.2.2.2.2.1)
    have k_xN5 : xN5 W := by
      rw [hW]
      exact (uxN5 rfl hI.2.2.2.2.2.2.2.2.1)
    have k_xN6 : xN6 W := by
      rw [hW]
      exact (uxN6 rfl hI.2.2.2.2.2.2.2.2.2.1)
    have k_xH1 : xH1 W := by
      rw [hW]
      exact (uxH1 rfl hI.2.2.2.2.2.2.2.2.2.2.1)
    have k_xK1 : xK1 W := by
      rw [hW]
      exact (uxK1 rfl hI.2.2.2.2.2.2.2.2.2.2.2.1)
    have k_xC1 : xC1 W := by
      rw [hW]
      exact (uxC1 rfl hI.2.2.2.2.2.2.2.2.2.2.2.2.1)
    have k_xRW : xRW W := by
      rw [hW]
      exact (uxRW rfl hI.2.2.2.2.2.2.2.2.2.2.2.2.2.1)
    have k_xWT : xWT W := by
      rw [hW]
      exact (uxWT rfl hI.2.2.2.2.2.2.2.2.2.2.2.2.2.2.1)
    have k_xCU : xCU W := by
      rw [hW]
      exact (uxCU rfl hI.2.2.2.2.2.2.2.2.2.2.2.2.2.2.2.1)
    have k_xG2 : xG2 W := by
      rw [hW]
      exact (uxG2 rfl hI.2.2.2.2.2.2.2.2.2.2.2.2.2.2.2.2.1)
    have k_xG3 : xG3 W := by
      rw [hW]
      exact (uxG3 rfl hI.2.2.2.2.2.2.2.2.2.2.2.2.2.2.2.2.2.1)
    have k_xG4 : xG4 W := by
      rw [hW]
      exact (uxG4 rfl hI.2.2.2.2.2.2.2.2.2.2.2.2.2.2.2.2.2.2.1)
    have k_xG5 : xG5 W := by
      rw [hW]
      exact (uxG5 rfl hI.2.2.2.2.2.2.2.2.2.2.2.2.2.2.2.2.2.2.2.1)
    have k_xG6 : xG6 W := by
      rw [hW]
      exact (uxG6 rfl hI.2.2.2.2.2.2.2.2.2.2.2.2.2.2.2.2.2.2.2.2.1)
    have k_xS1 : xS1 W := by
      rw [hW]
      exact (uxS1 rfl hI.2.2.2.2.2.2.2.2.2.2.2.2.2.2.2.2.2.2.2.2.2.1)
    have k_xS2 : xS2 W := by
      rw [hW]
      exact (uxS2 rfl hI.2.2.2.2.2.2.2.2.2.2.2.2.2.2.2.2.2.2.2.2.2.2.1)
    have k_xS3 : xS3 W := by
      rw [hW]
      exact (uxS3 rfl hI.2.2.2.2.2.2.2.2.2.2.2.2.2.2.2.2.2.2.2.2.2.2.2.1)
    have k_xS4 : xS4 W := by
      rw [hW]
      exact (uxS4 rfl hI.2.2.2.2.2.2.2.2.2.2.2.2.2.2.2.2.2.2.2.2.2.2.2.2.1)
    have k_xS5 : xS5 W := by
      rw [hW]
      exact (uxS5 rfl hI.2.2.2.2.2.2.2.2.2.2.2.2.2.2.2.2.2.2.2.2.2.2.2.2.2.1)
    have k_xS6 : xS6 W := by
      rw [hW]
      exact (uxS6 rfl hI.2.2.2.2.2.2.2.2.2.2.2.2.2.2.2.2.2.2.2.2.2.2.2.2.2.2.1)
    have k_xS7 : xS7 W := by
      rw [hW]
      exact (uxS7 rfl hI.2.2.2.2.2.2.2.2.2.2.2.2.2.2.2.2.2.2.2.2.2.2.2.2.2.2.2.1)
    have k_xS8 : xS8 W := by
      rw [hW]
      exact (uxS8 rfl hI.2.2.2.2.2.2.2.2.2.2.2.2.2.2.2.2.2.2.2.2.2.2.2.2.2.2.2.2.1)
    have k_xS9 : xS9 W := by
      rw [hW]
      exact (uxS9 rfl hI.2.2.2.2.2.2.2.2.2.2.2.2.2.2.2.2.2.2.2.2.2.2.2.2.2.2.2.2.2.1)
    have k_xSA : xSA W := by
      rw [hW]
      exact (uxSA rfl hI.2.2.2.2.2.2.2.2.2.2.2.2.2.2.2.2.2.2.2.2.2.2.2.2.2.2.2.2.2.2.1)
    have k_xSG : xSG W := by
      rw [hW]
      exact (uxSG rfl hI.2.2.2.2.2.2.2.2.2.2.2.2.2.2.2.2.2.2.2.2.2.2.2.2.2.2.2.2.2.2.2.1)
    have k_xSF : xSF W := by
      rw [hW]
      exact (uxSF rfl hI.2.2.2.2.2.2.2.2.2.2.2.2.2.2.2.2.2.2.2.2.2.2.2.2.2.2.2.2.2.2.2.2.1)
    have k_xSB : xSB W := by
      rw [hW]
      exact (uxSB rfl hI.2.2.2.2.2.2.2.2.2.2.2.2.2.2.2.2.2.2.2.2.2.2.2.2.2.2.2.2.2.2.2.2.2.1)
    have k_xSC : xSC W := by
      have r4_226 : W 4 226 = M 4 226 := by rw [hW, sU_ne (fun z => by omega)]
      have r4_227 : W 4 227 = 19 * ρ 0 + 0 := by rw [hW, sU_at]
      have r4_219 : W 4 219 = M 4 219 := by rw [hW, sU_ne (fun z => by omega)]
      intro h
      rw [r4_227, r4_219, h0]
      refine ⟨by omega, by omega, ?_⟩
      have e1 := tki_on (x := M 4 219) (w := 18) (show tLa[18]? = some (647828480 : Int) from rfl)
      rw [if_neg (by omega)] at e1
      rw [show M 4 227 = 18 by omega] at l3
      rw [← l3]
      exact e1.symm
    have k_xSD : xSD W := by
      rw [hW]
      exact (uxSD rfl hI.2.2.2.2.2.2.2.2.2.2.2.2.2.2.2.2.2.2.2.2.2.2.2.2.2.2.2.2.2.2.2.2.2.2.2.1)
    have k_xSE : xSE W := by
      rw [hW]
      exact (uxSE rfl hI.2.2.2.2.2.2.2.2.2.2.2.2.2.2.2.2.2.2.2.2.2.2.2.2.2.2.2.2.2.2.2.2.2.2.2.2.1)
    have k_xSW : xSW W := by
      rw [hW]
      exact (uxSW rfl hI.2.2.2.2.2.2.2.2.2.2.2.2.2.2.2.2.2.2.2.2.2.2.2.2.2.2.2.2.2.2.2.2.2.2.2.2.2.1)
    have k_xST : xST W := by
      rw [hW]
      exact (uxST rfl hI.2.2.2.2.2.2.2.2.2.2.2.2.2.2.2.2.2.2.2.2.2.2.2.2.2.2.2.2.2.2.2.2.2.2.2.2.2.2.1)
    have k_xSP : xSP W := by
      rw [hW]
      exact (uxSP rfl hI.2.2.2.2.2.2.2.2.2.2.2.2.2.2.2.2.2.2.2.2.2.2.2.2.2.2.2.2.2.2.2.2.2.2.2.2.2.2.2.1)
    have k_xSL : xSL W := by
      rw [hW]
      exact (uxSL rfl hI.2.2.2.2.2.2.2.2.2.2.2.2.2.2.2.2.2.2.2.2.2.2.2.2.2.2.2.2.2.2.2.2.2.2.2.2.2.2.2.2.1)
    have k_xSM : xSM W := by
      rw [hW]
      exact (uxSM rfl hI.2.2.2.2.2.2.2.2.2.2.2.2.2.2.2.2.2.2.2.2.2.2.2.2.2.2.2.2.2.2.2.2.2.2.2.2.2.2.2.2.2.1)
    have k_xSI : xSI W := by
      rw [hW]
      exact (uxSI rfl hI.2.2.2.2.2.2.2.2.2.2.2.2.2.2.2.2.2.2.2.2.2.2.2.2.2.2.2.2.2.2.2.2.2.2.2.2.2.2.2.2.2.2.1)
    have k_xD3 : xD3 W := by
      rw [hW]
      exact (uxD3 rfl hI.2.2.2.2.2.2.2.2.2.2.2.2.2.2.2.2.2.2.2.2.2.2.2.2.2.2.2.2.2.2.2.2.2.2.2.2.2.2.2.2.2.2.2.1)
    have k_xDV : xDV W := by
      rw [hW]
      exact (uxDV rfl hI.2.2.2.2.2.2.2.2.2.2.2.2.2.2.2.2.2.2.2.2.2.2.2.2.2.2.2.2.2.2.2.2.2.2.2.2.2.2.2.2.2.2.2.2.1)
    have k_xDP : xDP W := by
      rw [hW]
      exact (uxDP rfl hI.2.2.2.2.2.2.2.2.2.2.2.2.2.2.2.2.2.2.2.2.2.2.2.2.2.2.2.2.2.2.2.2.2.2.2.2.2.2.2.2.2.2.2.2.2.1)
    have k_xDE : xDE W := by
      rw [hW]
      exact (uxDE rfl hI.2.2.2.2.2.2.2.2.2.2.2.2.2.2.2.2.2.2.2.2.2.2.2.2.2.2.2.2.2.2.2.2.2.2.2.2.2.2.2.2.2.2.2.2.2.2.1)
    have k_xQ5 : xQ5 W := by
      rw [hW]
      exact (uxQ5 rfl hI.2.2.2.2.2.2.2.2.2.2.2.2.2.2.2.2.2.2.2.2.2.2.2.2.2.2.2.2.2.2.2.2.2.2.2.2.2.2.2.2.2.2.2.2.2.2.2.1)
    have k_xQL : xQL W := by
      rw [hW]
      exact (uxQL rfl hI.2.2.2.2.2.2.2.2.2.2.2.2.2.2.2.2.2.2.2.2.2.2.2.2.2.2.2.2.2.2.2.2.2.2.2.2.2.2.2.2.2.2.2.2.2.2.2.2.1)
    have k_xQW : xQW W := by
      rw [hW]
      exact (uxQW rfl hI.2.2.2.2.2.2.2.2.2.2.2.2.2.2.2.2.2.2.2.2.2.2.2.2.2.2.2.2.2.2.2.2.2.2.2.2.2.2.2.2.2.2.2.2.2.2.2.2.2.1)
    have k_xQM : xQM W := by
      rw [hW]
      exact (uxQM rfl hI.2.2.2.2.2.2.2.2.2.2.2.2.2.2.2.2.2.2.2.2.2.2.2.2.2.2.2.2.2.2.2.2.2.2.2.2.2.2.2.2.2.2.2.2.2.2.2.2.2.2.1)
    have k_xQH : xQH W := by
      rw [hW]
      exact (uxQH rfl hI.2.2.2.2.2.2.2.2.2.2.2.2.2.2.2.2.2.2.2.2.2.2.2.2.2.2.2.2.2.2.2.2.2.2.2.2.2.2.2.2.2.2.2.2.2.2.2.2.2.2.2)
    have k_XC : XC W := ⟨k_xS1, k_xS2, k_xS3, k_xS4, k_xS5, k_xS6, k_xS7, k_xS8, k_xS9, k_xSA, k_xSG, k_xSF, k_xSB, k_xSC, k_xSD, k_xSE, k_xSW, k_xST, k_xSP, k_xSL, k_xSM, k_xSI, k_xD3, k_xDV, k_xDP, k_xDE, k_xQ5, k_xQL, k_xQW, k_xQM, k_xQH⟩
    have kXB : XB W := ⟨k_xN1, k_xN2, k_xN3, k_xN4, k_xN5, k_xN6, k_xH1, k_xK1, k_xC1, k_xRW, k_xWT, k_xCU, k_xG2, k_xG3, k_xG4, k_xG5, k_xG6, k_XC⟩
    exact ⟨base, k2, k3, kXA, kXB⟩
-- langMissR18H
def xr_471 : qRu := (3, [[(-647828481, 0), (1, 2)]], [(4, 226, [(1, 0)]), (4, 227, [(18, 0)]), (4, 219, [(1, 2)])], [], [(4, 227, [(19, 0)])], [])
theorem xo_471 : qRok xr_471 := by
  intro ρ M h0 hf hm hI
  have f0 := hf [(-647828481, 0), (1, 2)] (by decide)
  simp only [qD, h0] at f0
  have m0 : M 4 226 = 1 * ρ 0 + 0 := hm (4, 226, [(1, 0)]) (by decide)
  have m1 : M 4 227 = 18 * ρ 0 + 0 := hm (4, 227, [(18, 0)]) (by decide)
  have m2 : M 4 219 = 1 * ρ 2 + 0 := hm (4, 219, [(1, 2)]) (by decide)
  simp only [h0] at m0 m1
  have qxSC := hI.2.2.2.2.2.2.2.2.2.2.2.2.2.2.2.2.2.2.2.2.2.2.2.2.2.2.2.2.2.2.2.2.2.2.1
  obtain ⟨l1, l2, l3⟩ := gx_xSC hI (by omega)
  refine ⟨ρ, fun _ _ => rfl, fun f h => ?_, ?_⟩
  · exact nomatch h
  · show sI (sU M 4 227 (19 * ρ 0 + 0))
    obtain ⟨W, hW⟩ : ∃ W, W = (sU M 4 227 (19 * ρ 0 + 0)) := ⟨_, rfl⟩
    rw [← hW]
    have base : sI0 W := by
      rw [hW]
      exact (si_u0 hI.1 (fun r hr => by cases hr))
    have k2 : XI2 W := by
      rw [hW]
      exact (xi2_u rfl hI.2.1)
    have k3 : XI3 W := by
      rw [hW]
      exact (xi3_u rfl hI.2.2.1)
    have kXA : XA W := by
      rw [hW]
      exact (uXA rfl hI.2.2.2.1)
    have k_xN1 : xN1 W := by
      rw [hW]
      exact (uxN1 rfl hI.2.2.2.2.1)
    have k_xN2 : xN2 W := by
      rw [hW]
      exact (uxN2 rfl hI.2.2.2.2.2.1)
    have k_xN3 : xN3 W := by
      rw [hW]
      exact (uxN3 rfl hI.2.2.2.2.2.2.1)
    have k_xN4 : xN4 W := by
      rw [hW]
      exact (uxN4 rfl hI.2.2.2.2.2.2.2.1)
    have k_xN5 : xN5 W := by
      rw [hW]
      exact (uxN5 rfl hI.2.2.2.2.2.2.2.2.1)
    have k_xN6 : xN6 W := by
      rw [hW]
      exact (uxN6 rfl hI.2.2.2.2.2.2.2.2.2.1)
    have k_xH1 : xH1 W := by
      rw [hW]
      exact (uxH1 rfl hI.2.2.2.2.2.2.2.2.2.2.1)
    have k_xK1 : xK1 W := by
      rw [hW]
      exact (uxK1 rfl hI.2.2.2.2.2.2.2.2.2.2.2.1)
    have k_xC1 : xC1 W := by
      rw [hW]
      exact (uxC1 rfl hI.2.2.2.2.2.2.2.2.2.2.2.2.1)
    have k_xRW : xRW W := by
      rw [hW]
      exact (uxRW rfl hI.2.2.2.2.2.2.2.2.2.2.2.2.2.1)
    have k_xWT : xWT W := by
      rw [hW]
      exact (uxWT rfl hI.2.2.2.2.2.2.2.2.2.2.2.2.2.2.1)
    have k_xCU : xCU W := by
      rw [hW]
      exact (uxCU rfl hI.2.2.2.2.2.2.2.2.2.2.2.2.2.2.2.1)
    have k_xG2 : xG2 W := by
      rw [hW]
      exact (uxG2 rfl hI.2.2.2.2.2.2.2.2.2.2.2.2.2.2.2.2.1)
    have k_xG3 : xG3 W := by
      rw [hW]
      exact (uxG3 rfl hI.2.2.2.2.2.2.2.2.2.2.2.2.2.2.2.2.2.1)
    have k_xG4 : xG4 W := by
      rw [hW]
      exact (uxG4 rfl hI.2.2.2.2.2.2.2.2.2.2.2.2.2.2.2.2.2.2.1)
    have k_xG5 : xG5 W := by
      rw [hW]
      exact (uxG5 rfl hI.2.2.2.2.2.2.2.2.2.2.2.2.2.2.2.2.2.2.2.1)
    have k_xG6 : xG6 W := by
      rw [hW]
      exact (uxG6 rfl hI.2.2.2.2.2.2.2.2.2.2.2.2.2.2.2.2.2.2.2.2.1)
    have k_xS1 : xS1 W := by
      rw [hW]
      exact (uxS1 rfl hI.2.2.2.2.2.2.2.2.2.2.2.2.2.2.2.2.2.2.2.2.2.1)
    have k_xS2 : xS2 W := by
      rw [hW]
      exact (uxS2 rfl hI.2.2.2.2.2.2.2.2.2.2.2.2.2.2.2.2.2.2.2.2.2.2.1)
    have k_xS3 : xS3 W := by
      rw [hW]
      exact (uxS3 rfl hI.2.2.2.2.2.2.2.2.2.2.2.2.2.2.2.2.2.2.2.2.2.2.2.1)
    have k_xS4 : xS4 W := by
      rw [hW]
      exact (uxS4 rfl hI.2.2.2.2.2.2.2.2.2.2.2.2.2.2.2.2.2.2.2.2.2.2.2.2.1)
    have k_xS5 : xS5 W := by
      rw [hW]
      exact (uxS5 rfl hI.2.2.2.2.2.2.2.2.2.2.2.2.2.2.2.2.2.2.2.2.2.2.2.2.2.1)
    have k_xS6 : xS6 W := by
      rw [hW]
      exact (uxS6 rfl hI.2.2.2.2.2.2.2.2.2.2.2.2.2.2.2.2.2.2.2.2.2.2.2.2.2.2.1)
    have k_xS7 : xS7 W := by
      rw [hW]
      exact (uxS7 rfl hI.2.2.2.2.2.2.2.2.2.2.2.2.2.2.2.2.2.2.2.2.2.2.2.2.2.2.2.1)
    have k_xS8 : xS8 W := by
      rw [hW]
      exact (uxS8 rfl hI.2.2.2.2.2.2.2.2.2.2.2.2.2.2.2.2.2.2.2.2.2.2.2.2.2.2.2.2.1)
    have k_xS9 : xS9 W := by
      rw [hW]
      exact (uxS9 rfl hI.2.2.2.2.2.2.2.2.2.2.2.2.2.2.2.2.2.2.2.2.2.2.2.2.2.2.2.2.2.1)
    have k_xSA : xSA W := by
      rw [hW]
      exact (uxSA rfl hI.2.2.2.2.2.2.2.2.2.2.2.2.2.2.2.2.2.2.2.2.2.2.2.2.2.2.2.2.2.2.1)
    have k_xSG : xSG W := by
      rw [hW]
      exact (uxSG rfl hI.2.2.2.2.2.2.2.2.2.2.2.2.2.2.2.2.2.2.2.2.2.2.2.2.2.2.2.2.2.2.2.1)
    have k_xSF : xSF W := by
      rw [hW]
      exact (uxSF rfl hI.2.2.2.2.2.2.2.2.2.2.2.2.2.2.2.2.2.2.2.2.2.2.2.2.2.2.2.2.2.2.2.2.1)
    have k_xSB : xSB W := by
      rw [hW]
      exact (uxSB rfl hI.2.2.2.2.2.2.2.2.2.2.2.2.2.2.2.2.2.2.2.2.2.2.2.2.2.2.2.2.2.2.2.2.2.1)
    have k_xSC : xSC W := by
      have r4_226 : W 4 226 = M 4 226 := by rw [hW, sU_ne (fun z => by omega)]
      have r4_227 : W 4 227 = 19 * ρ 0 + 0 := by rw [hW, sU_at]
      have r4_219 : W 4 219 = M 4 219 := by rw [hW, sU_ne (fun z => by omega)]
      intro h
      rw [r4_227, r4_219, h0]
      refine ⟨by omega, by omega, ?_⟩
      have e1 := tki_on (x := M 4 219) (w := 18) (show tLa[18]? = some (647828480 : Int) from rfl)
      rw [if_neg (by omega)] at e1
      rw [show M 4 227 = 18 by omega] at l3
      rw [← l3]
      exact e1.symm
    have k_xSD : xSD W := by
      rw [hW]
      exact (uxSD rfl hI.2.2.2.2.2.2.2.2.2.2.2.2.2.2.2.2.2.2.2.2.2.2.2.2.2.2.2.2.2.2.2.2.2.2.2.1)
    have k_xSE : xSE W := by
      rw [hW]
      exact (uxSE rfl hI.2.2.2.2.2.2.2.2.2.2.2.2.2.2.2.2.2.2.2.2.2.2.2.2.2.2.2.2.2.2.2.2.2.2.2.2.1)
    have k_xSW : xSW W := by
      rw [hW]
      exact (uxSW rfl hI.2.2.2.2.2.2.2.2.2.2.2.2.2.2.2.2.2.2.2.2.2.2.2.2.2.2.2.2.2.2.2.2.2.2.2.2.2.1)
    have k_xST : xST W := by
      rw [hW]
      exact (uxST rfl hI.2.2.2.2.2.2.2.2.2.2.2.2.2.2.2.2.2.2.2.2.2.2.2.2.2.2.2.2.2.2.2.2.2.2.2.2.2.2.1)
    have k_xSP : xSP W := by
      rw [hW]
      exact (uxSP rfl hI.2.2.2.2.2.2.2.2.2.2.2.2.2.2.2.2.2.2.2.2.2.2.2.2.2.2.2.2.2.2.2.2.2.2.2.2.2.2.2.1)
    have k_xSL : xSL W := by
      rw [hW]
      exact (uxSL rfl hI.2.2.2.2.2.2.2.2.2.2.2.2.2.2.2.2.2.2.2.2.2.2.2.2.2.2.2.2.2.2.2.2.2.2.2.2.2.2.2.2.1)
    have k_xSM : xSM W := by
      rw [hW]
      exact (uxSM rfl hI.2.2.2.2.2.2.2.2.2.2.2.2.2.2.2.2.2.2.2.2.2.2.2.2.2.2.2.2.2.2.2.2.2.2.2.2.2.2.2.2.2.1)
    have k_xSI : xSI W := by
      rw [hW]
      exact (uxSI rfl hI.2.2.2.2.2.2.2.2.2.2.2.2.2.2.2.2.2.2.2.2.2.2.2.2.2.2.2.2.2.2.2.2.2.2.2.2.2.2.2.2.2.2.1)
    have k_xD3 : xD3 W := by
      rw [hW]
      exact (uxD3 rfl hI.2.2.2.2.2.2.2.2.2.2.2.2.2.2.2.2.2.2.2.2.2.2.2.2.2.2.2.2.2.2.2.2.2.2.2.2.2.2.2.2.2.2.2.1)
    have k_xDV : xDV W := by
      rw [hW]
      exact (uxDV rfl hI.2.2.2.2.2.2.2.2.2.2.2.2.2.2.2.2.2.2.2.2.2.2.2.2.2.2.2.2.2.2.2.2.2.2.2.2.2.2.2.2.2.2.2.2.1)
    have k_xDP : xDP W := by
      rw [hW]
      exact (uxDP rfl hI.2.2.2.2.2.2.2.2.2.2.2.2.2.2.2.2.2.2.2.2.2.2.2.2.2.2.2.2.2.2.2.2.2.2.2.2.2.2.2.2.2.2.2.2.2.1)
    have k_xDE : xDE W := by
      rw [hW]
      exact (uxDE rfl hI.2.2.2.2.2.2.2.2.2.2.2.2.2.2.2.2.2.2.2.2.2.2.2.2.2.2.2.2.2.2.2.2.2.2.2.2.2.2.2.2.2.2.2.2.2.2.1)
    have k_xQ5 : xQ5 W := by
      rw [hW]
      exact (uxQ5 rfl hI.2.2.2.2.2.2.2.2.2.2.2.2.2.2.2.2.2.2.2.2.2.2.2.2.2.2.2.2.2.2.2.2.2.2.2.2.2.2.2.2.2.2.2.2.2.2.2.1)
    have k_xQL : xQL W := by
      rw [hW]
      exact (uxQL rfl hI.2.2.2.2.2.2.2.2.2.2.2.2.2.2.2.2.2.2.2.2.2.2.2.2.2.2.2.2.2.2.2.2.2.2.2.2.2.2.2.2.2.2.2.2.2.2.2.2.1)
    have k_xQW : xQW W := by
      rw [hW]
      exact (uxQW rfl hI.2.2.2.2.2.2.2.2.2.2.2.2.2.2.2.2.2.2.2.2.2.2.2.2.2.2.2.2.2.2.2.2.2.2.2.2.2.2.2.2.2.2.2.2.2.2.2.2.2.1)
    have k_xQM : xQM W := by
      rw [hW]
      exact (uxQM rfl hI.2.2.2.2.2.2.2.2.2.2.2.2.2.2.2.2.2.2.2.2.2.2.2.2.2.2.2.2.2.2.2.2.2.2.2.2.2.2.2.2.2.2.2.2.2.2.2.2.2.2.1)
    have k_xQH : xQH W := by
      rw [hW]
      exact (uxQH rfl hI.2.2.2.2.2.2.2.2.2.2.2.2.2.2.2.2.2.2.2.2.2.2.2.2.2.2.2.2.2.2.2.2.2.2.2.2.2.2.2.2.2.2.2.2.2.2.2.2.2.2.2)
    have k_XC : XC W := ⟨k_xS1, k_xS2, k_xS3, k_xS4, k_xS5, k_xS6, k_xS7, k_xS8, k_xS9, k_xSA, k_xSG, k_xSF, k_xSB, k_xSC, k_xSD, k_xSE, k_xSW, k_xST, k_xSP, k_xSL, k_xSM, k_xSI, k_xD3, k_xDV, k_xDP, k_xDE, k_xQ5, k_xQL, k_xQW, k_xQM, k_xQH⟩
    have kXB : XB W := ⟨k_xN1, k_xN2, k_xN3, k_xN4, k_xN5, k_xN6, k_xH1, k_xK1, k_xC1, k_xRW, k_xWT, k_xCU, k_xG2, k_xG3, k_xG4, k_xG5, k_xG6, k_XC⟩
    exact ⟨base, k2, k3, kXA, kXB⟩
-- wHitR19_c
def xr_472 : qRu := (13, [[(-1, 0), (1, 5)], [(1, 1)], [(-1, 1), (1, 9)], [(1, 1), (-1, 9)], [(-1, 0), (-1, 1), (1, 10)], [(6, 0), (1, 9), (-1, 10)], [(-273980692, 0), (1, 11)], [(273980692, 0), (-1, 11)]], [(4, 210, [(1, 0)]), (4, 211, [(1, 1)]), (4, 101, [(1, 2)]), (3, 46, [(1, 3)]), (3, 47, [(1, 4)]), (4, 100, [(1, 5)]), (3, 44, [(1, 6)]), (3, 45, [(1, 7)]), (4, 107, [(1, 8)]), (4, 214, [(1, 0)]), (4, 215, [(1, 9)]), (4, 217, [(1, 10)]), (4, 219, [(1, 11)]), (4, 216, [(1, 12)])], [], [], [[(-1, 1), (1, 3)], [(1, 1), (-1, 3)], [(1, 4), (-1, 10)], [(-1, 4), (1, 10)], [(-37, 0), (1, 6)], [(37, 0), (-1, 6)], [(1, 7), (-1, 11)], [(-1, 7), (1, 11)]])
theorem xo_472 : qRok xr_472 := by
  intro ρ M h0 hf hm hI
  have f0 := hf [(-1, 0), (1, 5)] (by decide)
  have f1 := hf [(1, 1)] (by decide)
  have f2 := hf [(-1, 1), (1, 9)] (by decide)
  have f3 := hf [(1, 1), (-1, 9)] (by decide)
  have f4 := hf [(-1, 0), (-1, 1), (1, 10)] (by decide)
  have f5 := hf [(6, 0), (1, 9), (-1, 10)] (by decide)
  have f6 := hf [(-273980692, 0), (1, 11)] (by decide)
  have f7 := hf [(273980692, 0), (-1, 11)] (by decide)
  simp only [qD, h0] at f0 f1 f2 f3 f4 f5 f6 f7
  have m0 : M 4 210 = 1 * ρ 0 + 0 := hm (4, 210, [(1, 0)]) (by decide)
  have m1 : M 4 211 = 1 * ρ 1 + 0 := hm (4, 211, [(1, 1)]) (by decide)
  have m2 : M 4 101 = 1 * ρ 2 + 0 := hm (4, 101, [(1, 2)]) (by decide)
  have m3 : M 3 46 = 1 * ρ 3 + 0 := hm (3, 46, [(1, 3)]) (by decide)
  have m4 : M 3 47 = 1 * ρ 4 + 0 := hm (3, 47, [(1, 4)]) (by decide)
  have m5 : M 4 100 = 1 * ρ 5 + 0 := hm (4, 100, [(1, 5)]) (by decide)
  have m6 : M 3 44 = 1 * ρ 6 + 0 := hm (3, 44, [(1, 6)]) (by decide)
  have m7 : M 3 45 = 1 * ρ 7 + 0 := hm (3, 45, [(1, 7)]) (by decide)
  have m8 : M 4 107 = 1 * ρ 8 + 0 := hm (4, 107, [(1, 8)]) (by decide)
  have m9 : M 4 214 = 1 * ρ 0 + 0 := hm (4, 214, [(1, 0)]) (by decide)
  have m10 : M 4 215 = 1 * ρ 9 + 0 := hm (4, 215, [(1, 9)]) (by decide)
  have m11 : M 4 217 = 1 * ρ 10 + 0 := hm (4, 217, [(1, 10)]) (by decide)
  have m12 : M 4 219 = 1 * ρ 11 + 0 := hm (4, 219, [(1, 11)]) (by decide)
  have m13 : M 4 216 = 1 * ρ 12 + 0 := hm (4, 216, [(1, 12)]) (by decide)
  simp only [h0] at m0 m9
  obtain ⟨u1, u2, _⟩ := gx_xS8 hI (by omega)

  obtain ⟨a1, a2, a3, a4, a5, a6, a7⟩ := gx_xSA hI (by omega)
  have eq1 : (M 4 215).toNat = (M 4 211).toNat := by omega
  rw [eq1] at a6 a7
  have hgt := ten_gt (g := M 92) (lo := 97) (hi := 122) (n := (M 4 101).toNat) (q := (M 4 211).toNat) (by omega)
  have el1 : (M 4 217 - M 4 215).toNat = tEn (M 92) 97 122 (M 4 101).toNat (M 4 211).toNat - (M 4 211).toNat := by omega
  rw [el1] at a7

  obtain ⟨t1, t2, t3, t4, t5, t6⟩ := tk_of hI (by omega) (by omega) (by omega) (show tAt (M 92) (M 4 101).toNat (M 4 211).toNat (M 4 107) (M 4 108) = (37, M 4 219, ((M 4 211).toNat : Int), M 4 217, 0, 19) from by
    unfold tAt
    rw [if_neg (by omega), if_pos hgt.2]
    unfold tWo
    rw [← a7, ← a6]
    have hk : tKi (M 4 219) 0 = 37 := by
      rw [show M 4 219 = 273980692 by omega]
      decide
    have h6 : ¬ (6 < tEn (M 92) 97 122 (M 4 101).toNat (M 4 211).toNat - (M 4 211).toNat) := by omega
    unfold tWk tWs tWv
    rw [if_neg h6, if_neg h6, if_neg h6, hk]
    rfl)
  refine ⟨ρ, fun _ _ => rfl, fun f h => ?_, ?_⟩
  · have h : f ∈ ([[(-1, 1), (1, 3)], [(1, 1), (-1, 3)], [(1, 4), (-1, 10)], [(-1, 4), (1, 10)], [(-37, 0), (1, 6)], [(37, 0), (-1, 6)], [(1, 7), (-1, 11)], [(-1, 7), (1, 11)]] : List qF) := h
    simp only [List.mem_cons, List.not_mem_nil, or_false] at h
    rcases h with rfl | rfl | rfl | rfl | rfl | rfl | rfl | rfl
    · show 0 ≤ -1 * ρ 1 + (1 * ρ 3 + 0)
      (try rw [h0]); omega
    · show 0 ≤ 1 * ρ 1 + (-1 * ρ 3 + 0)
      (try rw [h0]); omega
    · show 0 ≤ 1 * ρ 4 + (-1 * ρ 10 + 0)
      (try rw [h0]); omega
    · show 0 ≤ -1 * ρ 4 + (1 * ρ 10 + 0)
      (try rw [h0]); omega
    · show 0 ≤ -37 * ρ 0 + (1 * ρ 6 + 0)
      (try rw [h0]); omega
    · show 0 ≤ 37 * ρ 0 + (-1 * ρ 6 + 0)
      (try rw [h0]); omega
    · show 0 ≤ 1 * ρ 7 + (-1 * ρ 11 + 0)
      (try rw [h0]); omega
    · show 0 ≤ -1 * ρ 7 + (1 * ρ 11 + 0)
      (try rw [h0]); omega
  · show sI M
    exact hI
-- wHitR19_r
def xr_473 : qRu := (13, [[(-1, 0), (1, 5)], [(1, 1)], [(-1, 1), (1, 9)], [(1, 1), (-1, 9)], [(-1, 0), (-1, 1), (1, 10)], [(6, 0), (1, 9), (-1, 10)], [(-273980692, 0), (1, 11)], [(273980692, 0), (-1, 11)]], [(4, 210, [(1, 0)]), (4, 211, [(1, 1)]), (4, 101, [(1, 2)]), (3, 46, [(1, 3)]), (3, 47, [(1, 4)]), (4, 100, [(1, 5)]), (3, 50, [(1, 6)]), (3, 51, [(1, 7)]), (4, 108, [(1, 8)]), (4, 214, [(1, 0)]), (4, 215, [(1, 9)]), (4, 217, [(1, 10)]), (4, 219, [(1, 11)]), (4, 216, [(1, 12)])], [], [], [[(-1, 1), (1, 3)], [(1, 1), (-1, 3)], [(1, 4), (-1, 10)], [(-1, 4), (1, 10)], [(1, 6)], [(-1, 6)], [(-19, 0), (1, 7)], [(19, 0), (-1, 7)]])
theorem xo_473 : qRok xr_473 := by
  intro ρ M h0 hf hm hI
  have f0 := hf [(-1, 0), (1, 5)] (by decide)
  have f1 := hf [(1, 1)] (by decide)
  have f2 := hf [(-1, 1), (1, 9)] (by decide)
  have f3 := hf [(1, 1), (-1, 9)] (by decide)
  have f4 := hf [(-1, 0), (-1, 1), (1, 10)] (by decide)
  have f5 := hf [(6, 0), (1, 9), (-1, 10)] (by decide)
  have f6 := hf [(-273980692, 0), (1, 11)] (by decide)
  have f7 := hf [(273980692, 0), (-1, 11)] (by decide)
  simp only [qD, h0] at f0 f1 f2 f3 f4 f5 f6 f7
  have m0 : M 4 210 = 1 * ρ 0 + 0 := hm (4, 210, [(1, 0)]) (by decide)
  have m1 : M 4 211 = 1 * ρ 1 + 0 := hm (4, 211, [(1, 1)]) (by decide)
  have m2 : M 4 101 = 1 * ρ 2 + 0 := hm (4, 101, [(1, 2)]) (by decide)
  have m3 : M 3 46 = 1 * ρ 3 + 0 := hm (3, 46, [(1, 3)]) (by decide)
  have m4 : M 3 47 = 1 * ρ 4 + 0 := hm (3, 47, [(1, 4)]) (by decide)
  have m5 : M 4 100 = 1 * ρ 5 + 0 := hm (4, 100, [(1, 5)]) (by decide)
  have m6 : M 3 50 = 1 * ρ 6 + 0 := hm (3, 50, [(1, 6)]) (by decide)
  have m7 : M 3 51 = 1 * ρ 7 + 0 := hm (3, 51, [(1, 7)]) (by decide)
  have m8 : M 4 108 = 1 * ρ 8 + 0 := hm (4, 108, [(1, 8)]) (by decide)
  have m9 : M 4 214 = 1 * ρ 0 + 0 := hm (4, 214, [(1, 0)]) (by decide)
  have m10 : M 4 215 = 1 * ρ 9 + 0 := hm (4, 215, [(1, 9)]) (by decide)
  have m11 : M 4 217 = 1 * ρ 10 + 0 := hm (4, 217, [(1, 10)]) (by decide)
  have m12 : M 4 219 = 1 * ρ 11 + 0 := hm (4, 219, [(1, 11)]) (by decide)
  have m13 : M 4 216 = 1 * ρ 12 + 0 := hm (4, 216, [(1, 12)]) (by decide)
  simp only [h0] at m0 m9
  obtain ⟨u1, u2, _⟩ := gx_xS8 hI (by omega)

  obtain ⟨a1, a2, a3, a4, a5, a6, a7⟩ := gx_xSA hI (by omega)
  have eq1 : (M 4 215).toNat = (M 4 211).toNat := by omega
  rw [eq1] at a6 a7
  have hgt := ten_gt (g := M 92) (lo := 97) (hi := 122) (n := (M 4 101).toNat) (q := (M 4 211).toNat) (by omega)
  have el1 : (M 4 217 - M 4 215).toNat = tEn (M 92) 97 122 (M 4 101).toNat (M 4 211).toNat - (M 4 211).toNat := by omega
  rw [el1] at a7

  obtain ⟨t1, t2, t3, t4, t5, t6⟩ := tk_of hI (by omega) (by omega) (by omega) (show tAt (M 92) (M 4 101).toNat (M 4 211).toNat (M 4 107) (M 4 108) = (37, M 4 219, ((M 4 211).toNat : Int), M 4 217, 0, 19) from by
    unfold tAt
    rw [if_neg (by omega), if_pos hgt.2]
    unfold tWo
    rw [← a7, ← a6]
    have hk : tKi (M 4 219) 0 = 37 := by
      rw [show M 4 219 = 273980692 by omega]
      decide
    have h6 : ¬ (6 < tEn (M 92) 97 122 (M 4 101).toNat (M 4 211).toNat - (M 4 211).toNat) := by omega
    unfold tWk tWs tWv
    rw [if_neg h6, if_neg h6, if_neg h6, hk]
    rfl)
  refine ⟨ρ, fun _ _ => rfl, fun f h => ?_, ?_⟩
  · have h : f ∈ ([[(-1, 1), (1, 3)], [(1, 1), (-1, 3)], [(1, 4), (-1, 10)], [(-1, 4), (1, 10)], [(1, 6)], [(-1, 6)], [(-19, 0), (1, 7)], [(19, 0), (-1, 7)]] : List qF) := h
    simp only [List.mem_cons, List.not_mem_nil, or_false] at h
    rcases h with rfl | rfl | rfl | rfl | rfl | rfl | rfl | rfl
    · show 0 ≤ -1 * ρ 1 + (1 * ρ 3 + 0)
      (try rw [h0]); omega
    · show 0 ≤ 1 * ρ 1 + (-1 * ρ 3 + 0)
      (try rw [h0]); omega
    · show 0 ≤ 1 * ρ 4 + (-1 * ρ 10 + 0)
      (try rw [h0]); omega
    · show 0 ≤ -1 * ρ 4 + (1 * ρ 10 + 0)
      (try rw [h0]); omega
    · show 0 ≤ 1 * ρ 6 + 0
      (try rw [h0]); omega
    · show 0 ≤ -1 * ρ 6 + 0
      (try rw [h0]); omega
    · show 0 ≤ -19 * ρ 0 + (1 * ρ 7 + 0)
      (try rw [h0]); omega
    · show 0 ≤ 19 * ρ 0 + (-1 * ρ 7 + 0)
      (try rw [h0]); omega
  · show sI M
    exact hI
-- langMissR19L
def xr_474 : qRu := (3, [[(273980691, 0), (-1, 2)]], [(4, 226, [(1, 0)]), (4, 227, [(19, 0)]), (4, 219, [(1, 2)])], [], [(4, 227, [(20, 0)])], [])
theorem xo_474 : qRok xr_474 := by
  intro ρ M h0 hf hm hI
  have f0 := hf [(273980691, 0), (-1, 2)] (by decide)
  simp only [qD, h0] at f0
  have m0 : M 4 226 = 1 * ρ 0 + 0 := hm (4, 226, [(1, 0)]) (by decide)
  have m1 : M 4 227 = 19 * ρ 0 + 0 := hm (4, 227, [(19, 0)]) (by decide)
  have m2 : M 4 219 = 1 * ρ 2 + 0 := hm (4, 219, [(1, 2)]) (by decide)
  simp only [h0] at m0 m1
  have qxSC := hI.2.2.2.2.2.2.2.2.2.2.2.2.2.2.2.2.2.2.2.2.2.2.2.2.2.2.2.2.2.2.2.2.2.2.1
  obtain ⟨l1, l2, l3⟩ := gx_xSC hI (by omega)
  refine ⟨ρ, fun _ _ => rfl, fun f h => ?_, ?_⟩
  · exact nomatch h
  · show sI (sU M 4 227 (20 * ρ 0 + 0))
    obtain ⟨W, hW⟩ : ∃ W, W = (sU M 4 227 (20 * ρ 0 + 0)) := ⟨_, rfl⟩
    rw [← hW]
    have base : sI0 W := by
      rw [hW]
      exact (si_u0 hI.1 (fun r hr => by cases hr))
    have k2 : XI2 W := by
      rw [hW]
      exact (xi2_u rfl hI.2.1)
    have k3 : XI3 W := by
      rw [hW]
      exact (xi3_u rfl hI.2.2.1)
    have kXA : XA W := by
      rw [hW]
      exact (uXA rfl hI.2.2.2.1)
    have k_xN1 : xN1 W := by
      rw [hW]
      exact (uxN1 rfl hI.2.2.2.2.1)
    have k_xN2 : xN2 W := by
      rw [hW]
      exact (uxN2 rfl hI.2.2.2.2.2.1)
    have k_xN3 : xN3 W := by
      rw [hW]
      exact (uxN3 rfl hI.2.2.2.2.2.2.1)
    have k_xN4 : xN4 W := by
      rw [hW]
      exact (uxN4 rfl hI.2.2.2.2.2.2.2.1)
    have k_xN5 : xN5 W := by
      rw [hW]
      exact (uxN5 rfl hI.2.2.2.2.2.2.2.2.1)
    have k_xN6 : xN6 W := by
      rw [hW]
      exact (uxN6 rfl hI.2.2.2.2.2.2.2.2.2.1)
    have k_xH1 : xH1 W := by
      rw [hW]
      exact (uxH1 rfl hI.2.2.2.2.2.2.2.2.2.2.1)
    have k_xK1 : xK1 W := by
      rw [hW]
      exact (uxK1 rfl hI.2.2.2.2.2.2.2.2.2.2.2.1)
    have k_xC1 : xC1 W := by
      rw [hW]
      exact (uxC1 rfl hI.2.2.2.2.2.2.2.2.2.2.2.2.1)
    have k_xRW : xRW W := by
      rw [hW]
      exact (uxRW rfl hI.2.2.2.2.2.2.2.2.2.2.2.2.2.1)
    have k_xWT : xWT W := by
      rw [hW]
      exact (uxWT rfl hI.2.2.2.2.2.2.2.2.2.2.2.2.2.2.1)
    have k_xCU : xCU W := by
      rw [hW]
      exact (uxCU rfl hI.2.2.2.2.2.2.2.2.2.2.2.2.2.2.2.1)
    have k_xG2 : xG2 W := by
      rw [hW]
      exact (uxG2 rfl hI.2.2.2.2.2.2.2.2.2.2.2.2.2.2.2.2.1)
    have k_xG3 : xG3 W := by
      rw [hW]
      exact (uxG3 rfl hI.2.2.2.2.2.2.2.2.2.2.2.2.2.2.2.2.2.1)
    have k_xG4 : xG4 W := by
      rw [hW]
      exact (uxG4 rfl hI.2.2.2.2.2.2.2.2.2.2.2.2.2.2.2.2.2.2.1)
    have k_xG5 : xG5 W := by
      rw [hW]
      exact (uxG5 rfl hI.2.2.2.2.2.2.2.2.2.2.2.2.2.2.2.2.2.2.2.1)
    have k_xG6 : xG6 W := by
      rw [hW]
      exact (uxG6 rfl hI.2.2.2.2.2.2.2.2.2.2.2.2.2.2.2.2.2.2.2.2.1)
    have k_xS1 : xS1 W := by
      rw [hW]
      exact (uxS1 rfl hI.2.2.2.2.2.2.2.2.2.2.2.2.2.2.2.2.2.2.2.2.2.1)
    have k_xS2 : xS2 W := by
      rw [hW]
      exact (uxS2 rfl hI.2.2.2.2.2.2.2.2.2.2.2.2.2.2.2.2.2.2.2.2.2.2.1)
    have k_xS3 : xS3 W := by
      rw [hW]
      exact (uxS3 rfl hI.2.2.2.2.2.2.2.2.2.2.2.2.2.2.2.2.2.2.2.2.2.2.2.1)
    have k_xS4 : xS4 W := by
      rw [hW]
      exact (uxS4 rfl hI.2.2.2.2.2.2.2.2.2.2.2.2.2.2.2.2.2.2.2.2.2.2.2.2.1)
    have k_xS5 : xS5 W := by
      rw [hW]
      exact (uxS5 rfl hI.2.2.2.2.2.2.2.2.2.2.2.2.2.2.2.2.2.2.2.2.2.2.2.2.2.1)
    have k_xS6 : xS6 W := by
      rw [hW]
      exact (uxS6 rfl hI.2.2.2.2.2.2.2.2.2.2.2.2.2.2.2.2.2.2.2.2.2.2.2.2.2.2.1)
    have k_xS7 : xS7 W := by
      rw [hW]
      exact (uxS7 rfl hI.2.2.2.2.2.2.2.2.2.2.2.2.2.2.2.2.2.2.2.2.2.2.2.2.2.2.2.1)
    have k_xS8 : xS8 W := by
      rw [hW]
      exact (uxS8 rfl hI.2.2.2.2.2.2.2.2.2.2.2.2.2.2.2.2.2.2.2.2.2.2.2.2.2.2.2.2.1)
    have k_xS9 : xS9 W := by
      rw [hW]
      exact (uxS9 rfl hI.2.2.2.2.2.2.2.2.2.2.2.2.2.2.2.2.2.2.2.2.2.2.2.2.2.2.2.2.2.1)
    have k_xSA : xSA W := by
      rw [hW]
      exact (uxSA rfl hI.2.2.2.2.2.2.2.2.2.2.2.2.2.2.2.2.2.2.2.2.2.2.2.2.2.2.2.2.2.2.1)
    have k_xSG : xSG W := by
      rw [hW]
      exact (uxSG rfl hI.2.2.2.2.2.2.2.2.2.2.2.2.2.2.2.2.2.2.2.2.2.2.2.2.2.2.2.2.2.2.2.1)
    have k_xSF : xSF W := by
      rw [hW]
      exact (uxSF rfl hI.2.2.2.2.2.2.2.2.2.2.2.2.2.2.2.2.2.2.2.2.2.2.2.2.2.2.2.2.2.2.2.2.1)
    have k_xSB : xSB W := by
      rw [hW]
      exact (uxSB rfl hI.2.2.2.2.2.2.2.2.2.2.2.2.2.2.2.2.2.2.2.2.2.2.2.2.2.2.2.2.2.2.2.2.2.1)
    have k_xSC : xSC W := by
      have r4_226 : W 4 226 = M 4 226 := by rw [hW, sU_ne (fun z => by omega)]
      have r4_227 : W 4 227 = 20 * ρ 0 + 0 := by rw [hW, sU_at]
      have r4_219 : W 4 219 = M 4 219 := by rw [hW, sU_ne (fun z => by omega)]
      intro h
      rw [r4_227, r4_219, h0]
      refine ⟨by omega, by omega, ?_⟩
      have e1 := tki_on (x := M 4 219) (w := 19) (show tLa[19]? = some (273980692 : Int) from rfl)
      rw [if_neg (by omega)] at e1
      rw [show M 4 227 = 19 by omega] at l3
      rw [← l3]
      exact e1.symm
    have k_xSD : xSD W := by
      rw [hW]
      exact (uxSD rfl hI.2.2.2.2.2.2.2.2.2.2.2.2.2.2.2.2.2.2.2.2.2.2.2.2.2.2.2.2.2.2.2.2.2.2.2.1)
    have k_xSE : xSE W := by
      rw [hW]
      exact (uxSE rfl hI.2.2.2.2.2.2.2.2.2.2.2.2.2.2.2.2.2.2.2.2.2.2.2.2.2.2.2.2.2.2.2.2.2.2.2.2.1)
    have k_xSW : xSW W := by
      rw [hW]
      exact (uxSW rfl hI.2.2.2.2.2.2.2.2.2.2.2.2.2.2.2.2.2.2.2.2.2.2.2.2.2.2.2.2.2.2.2.2.2.2.2.2.2.1)
    have k_xST : xST W := by
      rw [hW]
      exact (uxST rfl hI.2.2.2.2.2.2.2.2.2.2.2.2.2.2.2.2.2.2.2.2.2.2.2.2.2.2.2.2.2.2.2.2.2.2.2.2.2.2.1)
    have k_xSP : xSP W := by
      rw [hW]
      exact (uxSP rfl hI.2.2.2.2.2.2.2.2.2.2.2.2.2.2.2.2.2.2.2.2.2.2.2.2.2.2.2.2.2.2.2.2.2.2.2.2.2.2.2.1)
    have k_xSL : xSL W := by
      rw [hW]
      exact (uxSL rfl hI.2.2.2.2.2.2.2.2.2.2.2.2.2.2.2.2.2.2.2.2.2.2.2.2.2.2.2.2.2.2.2.2.2.2.2.2.2.2.2.2.1)
    have k_xSM : xSM W := by
      rw [hW]
      exact (uxSM rfl hI.2.2.2.2.2.2.2.2.2.2.2.2.2.2.2.2.2.2.2.2.2.2.2.2.2.2.2.2.2.2.2.2.2.2.2.2.2.2.2.2.2.1)
    have k_xSI : xSI W := by
      rw [hW]
      exact (uxSI rfl hI.2.2.2.2.2.2.2.2.2.2.2.2.2.2.2.2.2.2.2.2.2.2.2.2.2.2.2.2.2.2.2.2.2.2.2.2.2.2.2.2.2.2.1)
    have k_xD3 : xD3 W := by
      rw [hW]
      exact (uxD3 rfl hI.2.2.2.2.2.2.2.2.2.2.2.2.2.2.2.2.2.2.2.2.2.2.2.2.2.2.2.2.2.2.2.2.2.2.2.2.2.2.2.2.2.2.2.1)
    have k_xDV : xDV W := by
      rw [hW]
      exact (uxDV rfl hI.2.2.2.2.2.2.2.2.2.2.2.2.2.2.2.2.2.2.2.2.2.2.2.2.2.2.2.2.2.2.2.2.2.2.2.2.2.2.2.2.2.2.2.2.1)
    have k_xDP : xDP W := by
      rw [hW]
      exact (uxDP rfl hI.2.2.2.2.2.2.2.2.2.2.2.2.2.2.2.2.2.2.2.2.2.2.2.2.2.2.2.2.2.2.2.2.2.2.2.2.2.2.2.2.2.2.2.2.2.1)
    have k_xDE : xDE W := by
      rw [hW]
      exact (uxDE rfl hI.2.2.2.2.2.2.2.2.2.2.2.2.2.2.2.2.2.2.2.2.2.2.2.2.2.2.2.2.2.2.2.2.2.2.2.2.2.2.2.2.2.2.2.2.2.2.1)
    have k_xQ5 : xQ5 W := by
      rw [hW]
      exact (uxQ5 rfl hI.2.2.2.2.2.2.2.2.2.2.2.2.2.2.2.2.2.2.2.2.2.2.2.2.2.2.2.2.2.2.2.2.2.2.2.2.2.2.2.2.2.2.2.2.2.2.2.1)
    have k_xQL : xQL W := by
      rw [hW]
      exact (uxQL rfl hI.2.2.2.2.2.2.2.2.2.2.2.2.2.2.2.2.2.2.2.2.2.2.2.2.2.2.2.2.2.2.2.2.2.2.2.2.2.2.2.2.2.2.2.2.2.2.2.2.1)
    have k_xQW : xQW W := by
      rw [hW]
      exact (uxQW rfl hI.2.2.2.2.2.2.2.2.2.2.2.2.2.2.2.2.2.2.2.2.2.2.2.2.2.2.2.2.2.2.2.2.2.2.2.2.2.2.2.2.2.2.2.2.2.2.2.2.2.1)
    have k_xQM : xQM W := by
      rw [hW]
      exact (uxQM rfl hI.2.2.2.2.2.2.2.2.2.2.2.2.2.2.2.2.2.2.2.2.2.2.2.2.2.2.2.2.2.2.2.2.2.2.2.2.2.2.2.2.2.2.2.2.2.2.2.2.2.2.1)
    have k_xQH : xQH W := by
      rw [hW]
      exact (uxQH rfl hI.2.2.2.2.2.2.2.2.2.2.2.2.2.2.2.2.2.2.2.2.2.2.2.2.2.2.2.2.2.2.2.2.2.2.2.2.2.2.2.2.2.2.2.2.2.2.2.2.2.2.2)
    have k_XC : XC W := ⟨k_xS1, k_xS2, k_xS3, k_xS4, k_xS5, k_xS6, k_xS7, k_xS8, k_xS9, k_xSA, k_xSG, k_xSF, k_xSB, k_xSC, k_xSD, k_xSE, k_xSW, k_xST, k_xSP, k_xSL, k_xSM, k_xSI, k_xD3, k_xDV, k_xDP, k_xDE, k_xQ5, k_xQL, k_xQW, k_xQM, k_xQH⟩
    have kXB : XB W := ⟨k_xN1, k_xN2, k_xN3, k_xN4, k_xN5, k_xN6, k_xH1, k_xK1, k_xC1, k_xRW, k_xWT, k_xCU, k_xG2, k_xG3, k_xG4, k_xG5, k_xG6, k_XC⟩
    exact ⟨base, k2, k3, kXA, kXB⟩
-- langMissR19H
def xr_475 : qRu := (3, [[(-273980693, 0), (1, 2)]], [(4, 226, [(1, 0)]), (4, 227, [(19, 0)]), (4, 219, [(1, 2)])], [], [(4, 227, [(20, 0)])], [])
theorem xo_475 : qRok xr_475 := by
  intro ρ M h0 hf hm hI
  have f0 := hf [(-273980693, 0), (1, 2)] (by decide)
  simp only [qD, h0] at f0
  have m0 : M 4 226 = 1 * ρ 0 + 0 := hm (4, 226, [(1, 0)]) (by decide)
  have m1 : M 4 227 = 19 * ρ 0 + 0 := hm (4, 227, [(19, 0)]) (by decide)
  have m2 : M 4 219 = 1 * ρ 2 + 0 := hm (4, 219, [(1, 2)]) (by decide)
  simp only [h0] at m0 m1
  have qxSC := hI.2.2.2.2.2.2.2.2.2.2.2.2.2.2.2.2.2.2.2.2.2.2.2.2.2.2.2.2.2.2.2.2.2.2.1
  obtain ⟨l1, l2, l3⟩ := gx_xSC hI (by omega)
  refine ⟨ρ, fun _ _ => rfl, fun f h => ?_, ?_⟩
  · exact nomatch h
  · show sI (sU M 4 227 (20 * ρ 0 + 0))
    obtain ⟨W, hW⟩ : ∃ W, W = (sU M 4 227 (20 * ρ 0 + 0)) := ⟨_, rfl⟩
    rw [← hW]
    have base : sI0 W := by
      rw [hW]
      exact (si_u0 hI.1 (fun r hr => by cases hr))
    have k2 : XI2 W := by
      rw [hW]
      exact (xi2_u rfl hI.2.1)
    have k3 : XI3 W := by
      rw [hW]
      exact (xi3_u rfl hI.2.2.1)
    have kXA : XA W := by
      rw [hW]
      exact (uXA rfl hI.2.2.2.1)
    have k_xN1 : xN1 W := by
      rw [hW]
      exact (uxN1 rfl hI.2.2.2.2.1)
    have k_xN2 : xN2 W := by
      rw [hW]
      exact (uxN2 rfl hI.2.2.2.2.2.1)
    have k_xN3 : xN3 W := by
      rw [hW]
      exact (uxN3 rfl hI.2.2.2.2.2.2.1)
    have k_xN4 : xN4 W := by
      rw [hW]
      exact (uxN4 rfl hI.2.2.2.2.2.2.2.1)
    have k_xN5 : xN5 W := by
      rw [hW]
      exact (uxN5 rfl hI.2.2.2.2.2.2.2.2.1)
    have k_xN6 : xN6 W := by
      rw [hW]
      exact (uxN6 rfl hI.2.2.2.2.2.2.2.2.2.1)
    have k_xH1 : xH1 W := by
      rw [hW]
      exact (uxH1 rfl hI.2.2.2.2.2.2.2.2.2.2.1)
    have k_xK1 : xK1 W := by
      rw [hW]
      exact (uxK1 rfl hI.2.2.2.2.2.2.2.2.2.2.2.1)
    have k_xC1 : xC1 W := by
      rw [hW]
      exact (uxC1 rfl hI.2.2.2.2.2.2.2.2.2.2.2.2.1)
    have k_xRW : xRW W := by
      rw [hW]
      exact (uxRW rfl hI.2.2.2.2.2.2.2.2.2.2.2.2.2.1)
    have k_xWT : xWT W := by
      rw [hW]
      exact (uxWT rfl hI.2.2.2.2.2.2.2.2.2.2.2.2.2.2.1)
    have k_xCU : xCU W := by
      rw [hW]
      exact (uxCU rfl hI.2.2.2.2.2.2.2.2.2.2.2.2.2.2.2.1)
    have k_xG2 : xG2 W := by
      rw [hW]
      exact (uxG2 rfl hI.2.2.2.2.2.2.2.2.2.2.2.2.2.2.2.2.1)
    have k_xG3 : xG3 W := by
      rw [hW]
      exact (uxG3 rfl hI.2.2.2.2.2.2.2.2.2.2.2.2.2.2.2.2.2.1)
    have k_xG4 : xG4 W := by
      rw [hW]
      exact (uxG4 rfl hI.2.2.2.2.2.2.2.2.2.2.2.2.2.2.2.2.2.2.1)
    have k_xG5 : xG5 W := by
      rw [hW]
      exact (uxG5 rfl hI.2.2.2.2.2.2.2.2.2.2.2.2.2.2.2.2.2.2.2.1)
    have k_xG6 : xG6 W := by
      rw [hW]
      exact (uxG6 rfl hI.2.2.2.2.2.2.2.2.2.2.2.2.2.2.2.2.2.2.2.2.1)
    have k_xS1 : xS1 W := by
      rw [hW]
      exact (uxS1 rfl hI.2.2.2.2.2.2.2.2.2.2.2.2.2.2.2.2.2.2.2.2.2.1)
    have k_xS2 : xS2 W := by
      rw [hW]
      exact (uxS2 rfl hI.2.2.2.2.2.2.2.2.2.2.2.2.2.2.2.2.2.2.2.2.2.2.1)
    have k_xS3 : xS3 W := by
      rw [hW]
      exact (uxS3 rfl hI.2.2.2.2.2.2.2.2.2.2.2.2.2.2.2.2.2.2.2.2.2.2.2.1)
    have k_xS4 : xS4 W := by
      rw [hW]
      exact (uxS4 rfl hI.2.2.2.2.2.2.2.2.2.2.2.2.2.2.2.2.2.2.2.2.2.2.2.2.1)
    have k_xS5 : xS5 W := by
      rw [hW]
      exact (uxS5 rfl hI.2.2.2.2.2.2.2.2.2.2.2.2.2.2.2.2.2.2.2.2.2.2.2.2.2.1)
    have k_xS6 : xS6 W := by
      rw [hW]
      exact (uxS6 rfl hI.2.2.2.2.2.2.2.2.2.2.2.2.2.2.2.2.2.2.2.2.2.2.2.2.2.2.1)
    have k_xS7 : xS7 W := by
      rw [hW]
      exact (uxS7 rfl hI.2.2.2.2.2.2.2.2.2.2.2.2.2.2.2.2.2.2.2.2.2.2.2.2.2.2.2.1)
    have k_xS8 : xS8 W := by
      rw [hW]
      exact (uxS8 rfl hI.2.2.2.2.2.2.2.2.2.2.2.2.2.2.2.2.2.2.2.2.2.2.2.2.2.2.2.2.1)
    have k_xS9 : xS9 W := by
      rw [hW]
      exact (uxS9 rfl hI.2.2.2.2.2.2.2.2.2.2.2.2.2.2.2.2.2.2.2.2.2.2.2.2.2.2.2.2.2.1)
    have k_xSA : xSA W := by
      rw [hW]
      exact (uxSA rfl hI.2.2.2.2.2.2.2.2.2.2.2.2.2.2.2.2.2.2.2.2.2.2.2.2.2.2.2.2.2.2.1)
    have k_xSG : xSG W := by
      rw [hW]
      exact (uxSG rfl hI.2.2.2.2.2.2.2.2.2.2.2.2.2.2.2.2.2.2.2.2.2.2.2.2.2.2.2.2.2.2.2.1)
    have k_xSF : xSF W := by
      rw [hW]
      exact (uxSF rfl hI.2.2.2.2.2.2.2.2.2.2.2.2.2.2.2.2.2.2.2.2.2.2.2.2.2.2.2.2.2.2.2.2.1)
    have k_xSB : xSB W := by
      rw [hW]
      exact (uxSB rfl hI.2.2.2.2.2.2.2.2.2.2.2.2.2.2.2.2.2.2.2.2.2.2.2.2.2.2.2.2.2.2.2.2.2.1)
    have k_xSC : xSC W := by
      have r4_226 : W 4 226 = M 4 226 := by rw [hW, sU_ne (fun z => by omega)]
      have r4_227 : W 4 227 = 20 * ρ 0 + 0 := by rw [hW, sU_at]
      have r4_219 : W 4 219 = M 4 219 := by rw [hW, sU_ne (fun z => by omega)]
      intro h
      rw [r4_227, r4_219, h0]
      refine ⟨by omega, by omega, ?_⟩
      have e1 := tki_on (x := M 4 219) (w := 19) (show tLa[19]? = some (273980692 : Int) from rfl)
      rw [if_neg (by omega)] at e1
      rw [show M 4 227 = 19 by omega] at l3
      rw [← l3]
      exact e1.symm
    have k_xSD : xSD W := by
      rw [hW]
      exact (uxSD rfl hI.2.2.2.2.2.2.2.2.2.2.2.2.2.2.2.2.2.2.2.2.2.2.2.2.2.2.2.2.2.2.2.2.2.2.2.1)
    have k_xSE : xSE W := by
      rw [hW]
      exact (uxSE rfl hI.2.2.2.2.2.2.2.2.2.2.2.2.2.2.2.2.2.2.2.2.2.2.2.2.2.2.2.2.2.2.2.2.2.2.2.2.1)
    have k_xSW : xSW W := by
      rw [hW]
      exact (uxSW rfl hI.2.2.2.2.2.2.2.2.2.2.2.2.2.2.2.2.2.2.2.2.2.2.2.2.2.2.2.2.2.2.2.2.2.2.2.2.2.1)
    have k_xST : xST W := by
      rw [hW]
      exact (uxST rfl hI.2.2.2.2.2.2.2.2.2.2.2.2.2.2.2.2.2.2.2.2.2.2.2.2.2.2.2.2.2.2.2.2.2.2.2.2.2.2.1)
    have k_xSP : xSP W := by
      rw [hW]
      exact (uxSP rfl hI.2.2.2.2.2.2.2.2.2.2.2.2.2.2.2.2.2.2.2.2.2.2.2.2.2.2.2.2.2.2.2.2.2.2.2.2.2.2.2.1)
    have k_xSL : xSL W := by
      rw [hW]
      exact (uxSL rfl hI.2.2.2.2.2.2.2.2.2.2.2.2.2.2.2.2.2.2.2.2.2.2.2.2.2.2.2.2.2.2.2.2.2.2.2.2.2.2.2.2.1)
    have k_xSM : xSM W := by
      rw [hW]
      exact (uxSM rfl hI.2.2.2.2.2.2.2.2.2.2.2.2.2.2.2.2.2.2.2.2.2.2.2.2.2.2.2.2.2.2.2.2.2.2.2.2.2.2.2.2.2.1)
    have k_xSI : xSI W := by
      rw [hW]
      exact (uxSI rfl hI.2.2.2.2.2.2.2.2.2.2.2.2.2.2.2.2.2.2.2.2.2.2.2.2.2.2.2.2.2.2.2.2.2.2.2.2.2.2.2.2.2.2.1)
    have k_xD3 : xD3 W := by
      rw [hW]
      exact (uxD3 rfl hI.2.2.2.2.2.2.2.2.2.2.2.2.2.2.2.2.2.2.2.2.2.2.2.2.2.2.2.2.2.2.2.2.2.2.2.2.2.2.2.2.2.2.2.1)
    have k_xDV : xDV W := by
      rw [hW]
      exact (uxDV rfl hI.2.2.2.2.2.2.2.2.2.2.2.2.2.2.2.2.2.2.2.2.2.2.2.2.2.2.2.2.2.2.2.2.2.2.2.2.2.2.2.2.2.2.2.2.1)
    have k_xDP : xDP W := by
      rw [hW]
      exact (uxDP rfl hI.2.2.2.2.2.2.2.2.2.2.2.2.2.2.2.2.2.2.2.2.2.2.2.2.2.2.2.2.2.2.2.2.2.2.2.2.2.2.2.2.2.2.2.2.2.1)
    have k_xDE : xDE W := by
      rw [hW]
      exact (uxDE rfl hI.2.2.2.2.2.2.2.2.2.2.2.2.2.2.2.2.2.2.2.2.2.2.2.2.2.2.2.2.2.2.2.2.2.2.2.2.2.2.2.2.2.2.2.2.2.2.1)
    have k_xQ5 : xQ5 W := by
      rw [hW]
      exact (uxQ5 rfl hI.2.2.2.2.2.2.2.2.2.2.2.2.2.2.2.2.2.2.2.2.2.2.2.2.2.2.2.2.2.2.2.2.2.2.2.2.2.2.2.2.2.2.2.2.2.2.2.1)
    have k_xQL : xQL W := by
      rw [hW]
      exact (uxQL rfl hI.2.2.2.2.2.2.2.2.2.2.2.2.2.2.2.2.2.2.2.2.2.2.2.2.2.2.2.2.2.2.2.2.2.2.2.2.2.2.2.2.2.2.2.2.2.2.2.2.1)
    have k_xQW : xQW W := by
      rw [hW]
      exact (uxQW rfl hI.2.2.2.2.2.2.2.2.2.2.2.2.2.2.2.2.2.2.2.2.2.2.2.2.2.2.2.2.2.2.2.2.2.2.2.2.2.2.2.2.2.2.2.2.2.2.2.2.2.1)
    have k_xQM : xQM W := by
      rw [hW]
      exact (uxQM rfl hI.2.2.2.2.2.2.2.2.2.2.2.2.2.2.2.2.2.2.2.2.2.2.2.2.2.2.2.2.2.2.2.2.2.2.2.2.2.2.2.2.2.2.2.2.2.2.2.2.2.2.1)
    have k_xQH : xQH W := by
      rw [hW]
      exact (uxQH rfl hI.2.2.2.2.2.2.2.2.2.2.2.2.2.2.2.2.2.2.2.2.2.2.2.2.2.2.2.2.2.2.2.2.2.2.2.2.2.2.2.2.2.2.2.2.2.2.2.2.2.2.2)
    have k_XC : XC W := ⟨k_xS1, k_xS2, k_xS3, k_xS4, k_xS5, k_xS6, k_xS7, k_xS8, k_xS9, k_xSA, k_xSG, k_xSF, k_xSB, k_xSC, k_xSD, k_xSE, k_xSW, k_xST, k_xSP, k_xSL, k_xSM, k_xSI, k_xD3, k_xDV, k_xDP, k_xDE, k_xQ5, k_xQL, k_xQW, k_xQM, k_xQH⟩
    have kXB : XB W := ⟨k_xN1, k_xN2, k_xN3, k_xN4, k_xN5, k_xN6, k_xH1, k_xK1, k_xC1, k_xRW, k_xWT, k_xCU, k_xG2, k_xG3, k_xG4, k_xG5, k_xG6, k_XC⟩
    exact ⟨base, k2, k3, kXA, kXB⟩
-- wHitR20_c
def xr_476 : qRu := (13, [[(-1, 0), (1, 5)], [(1, 1)], [(-1, 1), (1, 9)], [(1, 1), (-1, 9)], [(-1, 0), (-1, 1), (1, 10)], [(6, 0), (1, 9), (-1, 10)], [(-43581440, 0), (1, 11)], [(43581440, 0), (-1, 11)]], [(4, 210, [(1, 0)]), (4, 211, [(1, 1)]), (4, 101, [(1, 2)]), (3, 46, [(1, 3)]), (3, 47, [(1, 4)]), (4, 100, [(1, 5)]), (3, 44, [(1, 6)]), (3, 45, [(1, 7)]), (4, 107, [(1, 8)]), (4, 214, [(1, 0)]), (4, 215, [(1, 9)]), (4, 217, [(1, 10)]), (4, 219, [(1, 11)]), (4, 216, [(1, 12)])], [], [], [[(-1, 1), (1, 3)], [(1, 1), (-1, 3)], [(1, 4), (-1, 10)], [(-1, 4), (1, 10)], [(-38, 0), (1, 6)], [(38, 0), (-1, 6)], [(1, 7), (-1, 11)], [(-1, 7), (1, 11)]])
theorem xo_476 : qRok xr_476 := by
  intro ρ M h0 hf hm hI
  have f0 := hf [(-1, 0), (1, 5)] (by decide)
  have f1 := hf [(1, 1)] (by decide)
  have f2 := hf [(-1, 1), (1, 9)] (by decide)
  have f3 := hf [(1, 1), (-1, 9)] (by decide)
  have f4 := hf [(-1, 0), (-1, 1), (1, 10)] (by decide)
  have f5 := hf [(6, 0), (1, 9), (-1, 10)] (by decide)
  have f6 := hf [(-43581440, 0), (1, 11)] (by decide)
  have f7 := hf [(43581440, 0), (-1, 11)] (by decide)
  simp only [qD, h0] at f0 f1 f2 f3 f4 f5 f6 f7
  have m0 : M 4 210 = 1 * ρ 0 + 0 := hm (4, 210, [(1, 0)]) (by decide)
  have m1 : M 4 211 = 1 * ρ 1 + 0 := hm (4, 211, [(1, 1)]) (by decide)
  have m2 : M 4 101 = 1 * ρ 2 + 0 := hm (4, 101, [(1, 2)]) (by decide)
  have m3 : M 3 46 = 1 * ρ 3 + 0 := hm (3, 46, [(1, 3)]) (by decide)
  have m4 : M 3 47 = 1 * ρ 4 + 0 := hm (3, 47, [(1, 4)]) (by decide)
  have m5 : M 4 100 = 1 * ρ 5 + 0 := hm (4, 100, [(1, 5)]) (by decide)
  have m6 : M 3 44 = 1 * ρ 6 + 0 := hm (3, 44, [(1, 6)]) (by decide)
  have m7 : M 3 45 = 1 * ρ 7 + 0 := hm (3, 45, [(1, 7)]) (by decide)
  have m8 : M 4 107 = 1 * ρ 8 + 0 := hm (4, 107, [(1, 8)]) (by decide)
  have m9 : M 4 214 = 1 * ρ 0 + 0 := hm (4, 214, [(1, 0)]) (by decide)
  have m10 : M 4 215 = 1 * ρ 9 + 0 := hm (4, 215, [(1, 9)]) (by decide)
  have m11 : M 4 217 = 1 * ρ 10 + 0 := hm (4, 217, [(1, 10)]) (by decide)
  have m12 : M 4 219 = 1 * ρ 11 + 0 := hm (4, 219, [(1, 11)]) (by decide)
  have m13 : M 4 216 = 1 * ρ 12 + 0 := hm (4, 216, [(1, 12)]) (by decide)
  simp only [h0] at m0 m9
  obtain ⟨u1, u2, _⟩ := gx_xS8 hI (by omega)

  obtain ⟨a1, a2, a3, a4, a5, a6, a7⟩ := gx_xSA hI (by omega)
  have eq1 : (M 4 215).toNat = (M 4 211).toNat := by omega
  rw [eq1] at a6 a7
  have hgt := ten_gt (g := M 92) (lo := 97) (hi := 122) (n := (M 4 101).toNat) (q := (M 4 211).toNat) (by omega)
  have el1 : (M 4 217 - M 4 215).toNat = tEn (M 92) 97 122 (M 4 101).toNat (M 4 211).toNat - (M 4 211).toNat := by omega
  rw [el1] at a7

  obtain ⟨t1, t2, t3, t4, t5, t6⟩ := tk_of hI (by omega) (by omega) (by omega) (show tAt (M 92) (M 4 101).toNat (M 4 211).toNat (M 4 107) (M 4 108) = (38, M 4 219, ((M 4 211).toNat : Int), M 4 217, 0, 20) from by
    unfold tAt
    rw [if_neg (by omega), if_pos hgt.2]
    unfold tWo
    rw [← a7, ← a6]
    have hk : tKi (M 4 219) 0 = 38 := by
      rw [show M 4 219 = 43581440 by omega]
      decide
    have h6 : ¬ (6 < tEn (M 92) 97 122 (M 4 101).toNat (M 4 211).toNat - (M 4 211).toNat) := by omega
    unfold tWk tWs tWv
    rw [if_neg h6, if_neg h6, if_neg h6, hk]
    rfl)
  refine ⟨ρ, fun _ _ => rfl, fun f h => ?_, ?_⟩
  · have h : f ∈ ([[(-1, 1), (1, 3)], [(1, 1), (-1, 3)], [(1, 4), (-1, 10)], [(-1, 4), (1, 10)], [(-38, 0), (1, 6)], [(38, 0), (-1, 6)], [(1, 7), (-1, 11)], [(-1, 7), (1, 11)]] : List qF) := h
    simp only [List.mem_cons, List.not_mem_nil, or_false] at h
    rcases h with rfl | rfl | rfl | rfl | rfl | rfl | rfl | rfl
    · show 0 ≤ -1 * ρ 1 + (1 * ρ 3 + 0)
      (try rw [h0]); omega
    · show 0 ≤ 1 * ρ 1 + (-1 * ρ 3 + 0)
      (try rw [h0]); omega
    · show 0 ≤ 1 * ρ 4 + (-1 * ρ 10 + 0)
      (try rw [h0]); omega
    · show 0 ≤ -1 * ρ 4 + (1 * ρ 10 + 0)
      (try rw [h0]); omega
    · show 0 ≤ -38 * ρ 0 + (1 * ρ 6 + 0)
      (try rw [h0]); omega
    · show 0 ≤ 38 * ρ 0 + (-1 * ρ 6 + 0)
      (try rw [h0]); omega
    · show 0 ≤ 1 * ρ 7 + (-1 * ρ 11 + 0)
      (try rw [h0]); omega
    · show 0 ≤ -1 * ρ 7 + (1 * ρ 11 + 0)
      (try rw [h0]); omega
  · show sI M
    exact hI
-- wHitR20_r
def xr_477 : qRu := (13, [[(-1, 0), (1, 5)], [(1, 1)], [(-1, 1), (1, 9)], [(1, 1), (-1, 9)], [(-1, 0), (-1, 1), (1, 10)], [(6, 0), (1, 9), (-1, 10)], [(-43581440, 0), (1, 11)], [(43581440, 0), (-1, 11)]], [(4, 210, [(1, 0)]), (4, 211, [(1, 1)]), (4, 101, [(1, 2)]), (3, 46, [(1, 3)]), (3, 47, [(1, 4)]), (4, 100, [(1, 5)]), (3, 50, [(1, 6)]), (3, 51, [(1, 7)]), (4, 108, [(1, 8)]), (4, 214, [(1, 0)]), (4, 215, [(1, 9)]), (4, 217, [(1, 10)]), (4, 219, [(1, 11)]), (4, 216, [(1, 12)])], [], [], [[(-1, 1), (1, 3)], [(1, 1), (-1, 3)], [(1, 4), (-1, 10)], [(-1, 4), (1, 10)], [(1, 6)], [(-1, 6)], [(-20, 0), (1, 7)], [(20, 0), (-1, 7)]])
theorem xo_477 : qRok xr_477 := by
  intro ρ M h0 hf hm hI
  have f0 := hf [(-1, 0), (1, 5)] (by decide)
  have f1 := hf [(1, 1)] (by decide)
  have f2 := hf [(-1, 1), (1, 9)] (by decide)
  have f3 := hf [(1, 1), (-1, 9)] (by decide)
  have f4 := hf [(-1, 0), (-1, 1), (1, 10)] (by decide)
  have f5 := hf [(6, 0), (1, 9), (-1, 10)] (by decide)
  have f6 := hf [(-43581440, 0), (1, 11)] (by decide)
  have f7 := hf [(43581440, 0), (-1, 11)] (by decide)
  simp only [qD, h0] at f0 f1 f2 f3 f4 f5 f6 f7
  have m0 : M 4 210 = 1 * ρ 0 + 0 := hm (4, 210, [(1, 0)]) (by decide)
  have m1 : M 4 211 = 1 * ρ 1 + 0 := hm (4, 211, [(1, 1)]) (by decide)
  have m2 : M 4 101 = 1 * ρ 2 + 0 := hm (4, 101, [(1, 2)]) (by decide)
  have m3 : M 3 46 = 1 * ρ 3 + 0 := hm (3, 46, [(1, 3)]) (by decide)
  have m4 : M 3 47 = 1 * ρ 4 + 0 := hm (3, 47, [(1, 4)]) (by decide)
  have m5 : M 4 100 = 1 * ρ 5 + 0 := hm (4, 100, [(1, 5)]) (by decide)
  have m6 : M 3 50 = 1 * ρ 6 + 0 := hm (3, 50, [(1, 6)]) (by decide)
  have m7 : M 3 51 = 1 * ρ 7 + 0 := hm (3, 51, [(1, 7)]) (by decide)
  have m8 : M 4 108 = 1 * ρ 8 + 0 := hm (4, 108, [(1, 8)]) (by decide)
  have m9 : M 4 214 = 1 * ρ 0 + 0 := hm (4, 214, [(1, 0)]) (by decide)
  have m10 : M 4 215 = 1 * ρ 9 + 0 := hm (4, 215, [(1, 9)]) (by decide)
  have m11 : M 4 217 = 1 * ρ 10 + 0 := hm (4, 217, [(1, 10)]) (by decide)
  have m12 : M 4 219 = 1 * ρ 11 + 0 := hm (4, 219, [(1, 11)]) (by decide)
  have m13 : M 4 216 = 1 * ρ 12 + 0 := hm (4, 216, [(1, 12)]) (by decide)
  simp only [h0] at m0 m9
  obtain ⟨u1, u2, _⟩ := gx_xS8 hI (by omega)

  obtain ⟨a1, a2, a3, a4, a5, a6, a7⟩ := gx_xSA hI (by omega)
  have eq1 : (M 4 215).toNat = (M 4 211).toNat := by omega
  rw [eq1] at a6 a7
  have hgt := ten_gt (g := M 92) (lo := 97) (hi := 122) (n := (M 4 101).toNat) (q := (M 4 211).toNat) (by omega)
  have el1 : (M 4 217 - M 4 215).toNat = tEn (M 92) 97 122 (M 4 101).toNat (M 4 211).toNat - (M 4 211).toNat := by omega
  rw [el1] at a7

  obtain ⟨t1, t2, t3, t4, t5, t6⟩ := tk_of hI (by omega) (by omega) (by omega) (show tAt (M 92) (M 4 101).toNat (M 4 211).toNat (M 4 107) (M 4 108) = (38, M 4 219, ((M 4 211).toNat : Int), M 4 217, 0, 20) from by
    unfold tAt
    rw [if_neg (by omega), if_pos hgt.2]
    unfold tWo
    rw [← a7, ← a6]
    have hk : tKi (M 4 219) 0 = 38 := by
      rw [show M 4 219 = 43581440 by omega]
      decide
    have h6 : ¬ (6 < tEn (M 92) 97 122 (M 4 101).toNat (M 4 211).toNat - (M 4 211).toNat) := by omega
    unfold tWk tWs tWv
    rw [if_neg h6, if_neg h6, if_neg h6, hk]
    rfl)
  refine ⟨ρ, fun _ _ => rfl, fun f h => ?_, ?_⟩
  · have h : f ∈ ([[(-1, 1), (1, 3)], [(1, 1), (-1, 3)], [(1, 4), (-1, 10)], [(-1, 4), (1, 10)], [(1, 6)], [(-1, 6)], [(-20, 0), (1, 7)], [(20, 0), (-1, 7)]] : List qF) := h
    simp only [List.mem_cons, List.not_mem_nil, or_false] at h
    rcases h with rfl | rfl | rfl | rfl | rfl | rfl | rfl | rfl
    · show 0 ≤ -1 * ρ 1 + (1 * ρ 3 + 0)
      (try rw [h0]); omega
    · show 0 ≤ 1 * ρ 1 + (-1 * ρ 3 + 0)
      (try rw [h0]); omega
    · show 0 ≤ 1 * ρ 4 + (-1 * ρ 10 + 0)
      (try rw [h0]); omega
    · show 0 ≤ -1 * ρ 4 + (1 * ρ 10 + 0)
      (try rw [h0]); omega
    · show 0 ≤ 1 * ρ 6 + 0
      (try rw [h0]); omega
    · show 0 ≤ -1 * ρ 6 + 0
      (try rw [h0]); omega
    · show 0 ≤ -20 * ρ 0 + (1 * ρ 7 + 0)
      (try rw [h0]); omega
    · show 0 ≤ 20 * ρ 0 + (-1 * ρ 7 + 0)
      (try rw [h0]); omega
  · show sI M
    exact hI
-- langMissR20L
def xr_478 : qRu := (3, [[(43581439, 0), (-1, 2)]], [(4, 226, [(1, 0)]), (4, 227, [(20, 0)]), (4, 219, [(1, 2)])], [], [(4, 227, [(21, 0)])], [])
theorem xo_478 : qRok xr_478 := by
  intro ρ M h0 hf hm hI
  have f0 := hf [(43581439, 0), (-1, 2)] (by decide)
  simp only [qD, h0] at f0
  have m0 : M 4 226 = 1 * ρ 0 + 0 := hm (4, 226, [(1, 0)]) (by decide)
  have m1 : M 4 227 = 20 * ρ 0 + 0 := hm (4, 227, [(20, 0)]) (by decide)
  have m2 : M 4 219 = 1 * ρ 2 + 0 := hm (4, 219, [(1, 2)]) (by decide)
  simp only [h0] at m0 m1
  have qxSC := hI.2.2.2.2.2.2.2.2.2.2.2.2.2.2.2.2.2.2.2.2.2.2.2.2.2.2.2.2.2.2.2.2.2.2.1
  obtain ⟨l1, l2, l3⟩ := gx_xSC hI (by omega)
  refine ⟨ρ, fun _ _ => rfl, fun f h => ?_, ?_⟩
  · exact nomatch h
  · show sI (sU M 4 227 (21 * ρ 0 + 0))
    obtain ⟨W, hW⟩ : ∃ W, W = (sU M 4 227 (21 * ρ 0 + 0)) := ⟨_, rfl⟩
    rw [← hW]
    have base : sI0 W := by
      rw [hW]
      exact (si_u0 hI.1 (fun r hr => by cases hr))
    have k2 : XI2 W := by
      rw [hW]
      exact (xi2_u rfl hI.2.1)
    have k3 : XI3 W := by
      rw [hW]
      exact (xi3_u rfl hI.2.2.1)
    have kXA : XA W := by
      rw [hW]
      exact (uXA rfl hI.2.2.2.1)
    have k_xN1 : xN1 W := by
      rw [hW]
      exact (uxN1 rfl hI.2.2.2.2.1)
    have k_xN2 : xN2 W := by
      rw [hW]
      exact (uxN2 rfl hI.2.2.2.2.2.1)
    have k_xN3 : xN3 W := by
      rw [hW]
      exact (uxN3 rfl hI.2.2.2.2.2.2.1)
    have k_xN4 : xN4 W := by
      rw [hW]
      exact (uxN4 rfl hI.2.2.2.2.2.2.2.1)
    have k_xN5 : xN5 W := by
      rw [hW]
      exact (uxN5 rfl hI.2.2.2.2.2.2.2.2.1)
    have k_xN6 : xN6 W := by
      rw [hW]
      exact (uxN6 rfl hI.2.2.2.2.2.2.2.2.2.1)
    have k_xH1 : xH1 W := by
      rw [hW]
      exact (uxH1 rfl hI.2.2.2.2.2.2.2.2.2.2.1)
    have k_xK1 : xK1 W := by
      rw [hW]
      exact (uxK1 rfl hI.2.2.2.2.2.2.2.2.2.2.2.1)
    have k_xC1 : xC1 W := by
      rw [hW]
      exact (uxC1 rfl hI.2.2.2.2.2.2.2.2.2.2.2.2.1)
    have k_xRW : xRW W := by
      rw [hW]
      exact (uxRW rfl hI.2.2.2.2.2.2.2.2.2.2.2.2.2.1)
    have k_xWT : xWT W := by
      rw [hW]
      exact (uxWT rfl hI.2.2.2.2.2.2.2.2.2.2.2.2.2.2.1)
    have k_xCU : xCU W := by
      rw [hW]
      exact (uxCU rfl hI.2.2.2.2.2.2.2.2.2.2.2.2.2.2.2.1)
    have k_xG2 : xG2 W := by
      rw [hW]
      exact (uxG2 rfl hI.2.2.2.2.2.2.2.2.2.2.2.2.2.2.2.2.1)
    have k_xG3 : xG3 W := by
      rw [hW]
      exact (uxG3 rfl hI.2.2.2.2.2.2.2.2.2.2.2.2.2.2.2.2.2.1)
    have k_xG4 : xG4 W := by
      rw [hW]
      exact (uxG4 rfl hI.2.2.2.2.2.2.2.2.2.2.2.2.2.2.2.2.2.2.1)
    have k_xG5 : xG5 W := by
      rw [hW]
      exact (uxG5 rfl hI.2.2.2.2.2.2.2.2.2.2.2.2.2.2.2.2.2.2.2.1)
    have k_xG6 : xG6 W := by
      rw [hW]
      exact (uxG6 rfl hI.2.2.2.2.2.2.2.2.2.2.2.2.2.2.2.2.2.2.2.2.1)
    have k_xS1 : xS1 W := by
      rw [hW]
      exact (uxS1 rfl hI.2.2.2.2.2.2.2.2.2.2.2.2.2.2.2.2.2.2.2.2.2.1)
    have k_xS2 : xS2 W := by
      rw [hW]
      exact (uxS2 rfl hI.2.2.2.2.2.2.2.2.2.2.2.2.2.2.2.2.2.2.2.2.2.2.1)
    have k_xS3 : xS3 W := by
      rw [hW]
      exact (uxS3 rfl hI.2.2.2.2.2.2.2.2.2.2.2.2.2.2.2.2.2.2.2.2.2.2.2.1)
    have k_xS4 : xS4 W := by
      rw [hW]
      exact (uxS4 rfl hI.2.2.2.2.2.2.2.2.2.2.2.2.2.2.2.2.2.2.2.2.2.2.2.2.1)
    have k_xS5 : xS5 W := by
      rw [hW]
      exact (uxS5 rfl hI.2.2.2.2.2.2.2.2.2.2.2.2.2.2.2.2.2.2.2.2.2.2.2.2.2.1)
    have k_xS6 : xS6 W := by
      rw [hW]
      exact (uxS6 rfl hI.2.2.2.2.2.2.2.2.2.2.2.2.2.2.2.2.2.2.2.2.2.2.2.2.2.2.1)
    have k_xS7 : xS7 W := by
      rw [hW]
      exact (uxS7 rfl hI.2.2.2.2.2.2.2.2.2.2.2.2.2.2.2.2.2.2.2.2.2.2.2.2.2.2.2.1)
    have k_xS8 : xS8 W := by
      rw [hW]
      exact (uxS8 rfl hI.2.2.2.2.2.2.2.2.2.2.2.2.2.2.2.2.2.2.2.2.2.2.2.2.2.2.2.2.1)
    have k_xS9 : xS9 W := by
      rw [hW]
      exact (uxS9 rfl hI.2.2.2.2.2.2.2.2.2.2.2.2.2.2.2.2.2.2.2.2.2.2.2.2.2.2.2.2.2.1)
    have k_xSA : xSA W := by
      rw [hW]
      exact (uxSA rfl hI.2.2.2.2.2.2.2.2.2.2.2.2.2.2.2.2.2.2.2.2.2.2.2.2.2.2.2.2.2.2.1)
    have k_xSG : xSG W := by
      rw [hW]
      exact (uxSG rfl hI.2.2.2.2.2.2.2.2.2.2.2.2.2.2.2.2.2.2.2.2.2.2.2.2.2.2.2.2.2.2.2.1)
    have k_xSF : xSF W := by
      rw [hW]
      exact (uxSF rfl hI.2.2.2.2.2.2.2.2.2.2.2.2.2.2.2.2.2.2.2.2.2.2.2.2.2.2.2.2.2.2.2.2.1)
    have k_xSB : xSB W := by
      rw [hW]
      exact (uxSB rfl hI.2.2.2.2.2.2.2.2.2.2.2.2.2.2.2.2.2.2.2.2.2.2.2.2.2.2.2.2.2.2.2.2.2.1)
    have k_xSC : xSC W := by
      have r4_226 : W 4 226 = M 4 226 := by rw [hW, sU_ne (fun z => by omega)]
      have r4_227 : W 4 227 = 21 * ρ 0 + 0 := by rw [hW, sU_at]
      have r4_219 : W 4 219 = M 4 219 := by rw [hW, sU_ne (fun z => by omega)]
      intro h
      rw [r4_227, r4_219, h0]
      refine ⟨by omega, by omega, ?_⟩
      have e1 := tki_on (x := M 4 219) (w := 20) (show tLa[20]? = some (43581440 : Int) from rfl)
      rw [if_neg (by omega)] at e1
      rw [show M 4 227 = 20 by omega] at l3
      rw [← l3]
      exact e1.symm
    have k_xSD : xSD W := by
      rw [hW]
      exact (uxSD rfl hI.2.2.2.2.2.2.2.2.2.2.2.2.2.2.2.2.2.2.2.2.2.2.2.2.2.2.2.2.2.2.2.2.2.2.2.1)
    have k_xSE : xSE W := by
      rw [hW]
      exact (uxSE rfl hI.2.2.2.2.2.2.2.2.2.2.2.2.2.2.2.2.2.2.2.2.2.2.2.2.2.2.2.2.2.2.2.2.2.2.2.2.1)
    have k_xSW : xSW W := by
      rw [hW]
      exact (uxSW rfl hI.2.2.2.2.2.2.2.2.2.2.2.2.2.2.2.2.2.2.2.2.2.2.2.2.2.2.2.2.2.2.2.2.2.2.2.2.2.1)
    have k_xST : xST W := by
      rw [hW]
      exact (uxST rfl hI.2.2.2.2.2.2.2.2.2.2.2.2.2.2.2.2.2.2.2.2.2.2.2.2.2.2.2.2.2.2.2.2.2.2.2.2.2.2.1)
    have k_xSP : xSP W := by
      rw [hW]
      exact (uxSP rfl hI.2.2.2.2.2.2.2.2.2.2.2.2.2.2.2.2.2.2.2.2.2.2.2.2.2.2.2.2.2.2.2.2.2.2.2.2.2.2.2.1)
    have k_xSL : xSL W := by
      rw [hW]
      exact (uxSL rfl hI.2.2.2.2.2.2.2.2.2.2.2.2.2.2.2.2.2.2.2.2.2.2.2.2.2.2.2.2.2.2.2.2.2.2.2.2.2.2.2.2.1)
    have k_xSM : xSM W := by
      rw [hW]
      exact (uxSM rfl hI.2.2.2.2.2.2.2.2.2.2.2.2.2.2.2.2.2.2.2.2.2.2.2.2.2.2.2.2.2.2.2.2.2.2.2.2.2.2.2.2.2.1)
    have k_xSI : xSI W := by
      rw [hW]
      exact (uxSI rfl hI.2.2.2.2.2.2.2.2.2.2.2.2.2.2.2.2.2.2.2.2.2.2.2.2.2.2.2.2.2.2.2.2.2.2.2.2.2.2.2.2.2.2.1)
    have k_xD3 : xD3 W := by
      rw [hW]
      exact (uxD3 rfl hI.2.2.2.2.2.2.2.2.2.2.2.2.2.2.2.2.2.2.2.2.2.2.2.2.2.2.2.2.2.2.2.2.2.2.2.2.2.2.2.2.2.2.2.1)
    have k_xDV : xDV W := by
      rw [hW]
      exact (uxDV rfl hI.2.2.2.2.2.2.2.2.2.2.2.2.2.2.2.2.2.2.2.2.2.2.2.2.2.2.2.2.2.2.2.2.2.2.2.2.2.2.2.2.2.2.2.2.1)
    have k_xDP : xDP W := by
      rw [hW]
      exact (uxDP rfl hI.2.2.2.2.2.2.2.2.2.2.2.2.2.2.2.2.2.2.2.2.2.2.2.2.2.2.2.2.2.2.2.2.2.2.2.2.2.2.2.2.2.2.2.2.2.1)
    have k_xDE : xDE W := by
      rw [hW]
      exact (uxDE rfl hI.2.2.2.2.2.2.2.2.2.2.2.2.2.2.2.2.2.2.2.2.2.2.2.2.2.2.2.2.2.2.2.2.2.2.2.2.2.2.2.2.2.2.2.2.2.2.1)
    have k_xQ5 : xQ5 W := by
      rw [hW]
      exact (uxQ5 rfl hI.2.2.2.2.2.2.2.2.2.2.2.2.2.2.2.2.2.2.2.2.2.2.2.2.2.2.2.2.2.2.2.2.2.2.2.2.2.2.2.2.2.2.2.2.2.2.2.1)
    have k_xQL : xQL W := by
      rw [hW]
      exact (uxQL rfl hI.2.2.2.2.2.2.2.2.2.2.2.2.2.2.2.2.2.2.2.2.2.2.2.2.2.2.2.2.2.2.2.2.2.2.2.2.2.2.2.2.2.2.2.2.2.2.2.2.1)
    have k_xQW : xQW W := by
      rw [hW]
      exact (uxQW rfl hI.2.2.2.2.2.2.2.2.2.2.2.2.2.2.2.2.2.2.2.2.2.2.2.2.2.2.2.2.2.2.2.2.2.2.2.2.2.2.2.2.2.2.2.2.2.2.2.2.2.1)
    have k_xQM : xQM W := by
      rw [hW]
      exact (uxQM rfl hI.2.2.2.2.2.2.2.2.2.2.2.2.2.2.2.2.2.2.2.2.2.2.2.2.2.2.2.2.2.2.2.2.2.2.2.2.2.2.2.2.2.2.2.2.2.2.2.2.2.2.1)
    have k_xQH : xQH W := by
      rw [hW]
      exact (uxQH rfl hI.2.2.2.2.2.2.2.2.2.2.2.2.2.2.2.2.2.2.2.2.2.2.2.2.2.2.2.2.2.2.2.2.2.2.2.2.2.2.2.2.2.2.2.2.2.2.2.2.2.2.2)
    have k_XC : XC W := ⟨k_xS1, k_xS2, k_xS3, k_xS4, k_xS5, k_xS6, k_xS7, k_xS8, k_xS9, k_xSA, k_xSG, k_xSF, k_xSB, k_xSC, k_xSD, k_xSE, k_xSW, k_xST, k_xSP, k_xSL, k_xSM, k_xSI, k_xD3, k_xDV, k_xDP, k_xDE, k_xQ5, k_xQL, k_xQW, k_xQM, k_xQH⟩
    have kXB : XB W := ⟨k_xN1, k_xN2, k_xN3, k_xN4, k_xN5, k_xN6, k_xH1, k_xK1, k_xC1, k_xRW, k_xWT, k_xCU, k_xG2, k_xG3, k_xG4, k_xG5, k_xG6, k_XC⟩
    exact ⟨base, k2, k3, kXA, kXB⟩
-- langMissR20H
def xr_479 : qRu := (3, [[(-43581441, 0), (1, 2)]], [(4, 226, [(1, 0)]), (4, 227, [(20, 0)]), (4, 219, [(1, 2)])], [], [(4, 227, [(21, 0)])], [])
theorem xo_479 : qRok xr_479 := by
  intro ρ M h0 hf hm hI
  have f0 := hf [(-43581441, 0), (1, 2)] (by decide)
  simp only [qD, h0] at f0
  have m0 : M 4 226 = 1 * ρ 0 + 0 := hm (4, 226, [(1, 0)]) (by decide)
  have m1 : M 4 227 = 20 * ρ 0 + 0 := hm (4, 227, [(20, 0)]) (by decide)
  have m2 : M 4 219 = 1 * ρ 2 + 0 := hm (4, 219, [(1, 2)]) (by decide)
  simp only [h0] at m0 m1
  have qxSC := hI.2.2.2.2.2.2.2.2.2.2.2.2.2.2.2.2.2.2.2.2.2.2.2.2.2.2.2.2.2.2.2.2.2.2.1
  obtain ⟨l1, l2, l3⟩ := gx_xSC hI (by omega)
  refine ⟨ρ, fun _ _ => rfl, fun f h => ?_, ?_⟩
  · exact nomatch h
  · show sI (sU M 4 227 (21 * ρ 0 + 0))
    obtain ⟨W, hW⟩ : ∃ W, W = (sU M 4 227 (21 * ρ 0 + 0)) := ⟨_, rfl⟩
    rw [← hW]
    have base : sI0 W := by
      rw [hW]
      exact (si_u0 hI.1 (fun r hr => by cases hr))
    have k2 : XI2 W := by
      rw [hW]
      exact (xi2_u rfl hI.2.1)
    have k3 : XI3 W := by
      rw [hW]
      exact (xi3_u rfl hI.2.2.1)
    have kXA : XA W := by
      rw [hW]
      exact (uXA rfl hI.2.2.2.1)
    have k_xN1 : xN1 W := by
      rw [hW]
      exact (uxN1 rfl hI.2.2.2.2.1)
    have k_xN2 : xN2 W := by
      rw [hW]
      exact (uxN2 rfl hI.2.2.2.2.2.1)
    have k_xN3 : xN3 W := by
      rw [hW]
      exact (uxN3 rfl hI.2.2.2.2.2.2.1)
    have k_xN4 : xN4 W := by
      rw [hW]
      exact (uxN4 rfl hI.2.2.2.2.2.2.2.1)
    have k_xN5 : xN5 W := by
      rw [hW]
      exact (uxN5 rfl hI.2.2.2.2.2.2.2.2.1)
    have k_xN6 : xN6 W := by
      rw [hW]
      exact (uxN6 rfl hI.2.2.2.2.2.2.2.2.2.1)
    have k_xH1 : xH1 W := by
      rw [hW]
      exact (uxH1 rfl hI.2.2.2.2.2.2.2.2.2.2.1)
    have k_xK1 : xK1 W := by
      rw [hW]
      exact (uxK1 rfl hI.2.2.2.2.2.2.2.2.2.2.2.1)
    have k_xC1 : xC1 W := by
      rw [hW]
      exact (uxC1 rfl hI.2.2.2.2.2.2.2.2.2.2.2.2.1)
    have k_xRW : xRW W := by
      rw [hW]
      exact (uxRW rfl hI.2.2.2.2.2.2.2.2.2.2.2.2.2.1)
    have k_xWT : xWT W := by
      rw [hW]
      exact (uxWT rfl hI.2.2.2.2.2.2.2.2.2.2.2.2.2.2.1)
    have k_xCU : xCU W := by
      rw [hW]
      exact (uxCU rfl hI.2.2.2.2.2.2.2.2.2.2.2.2.2.2.2.1)
    have k_xG2 : xG2 W := by
      rw [hW]
      exact (uxG2 rfl hI.2.2.2.2.2.2.2.2.2.2.2.2.2.2.2.2.1)
    have k_xG3 : xG3 W := by
      rw [hW]
      exact (uxG3 rfl hI.2.2.2.2.2.2.2.2.2.2.2.2.2.2.2.2.2.1)
    have k_xG4 : xG4 W := by
      rw [hW]
      exact (uxG4 rfl hI.2.2.2.2.2.2.2.2.2.2.2.2.2.2.2.2.2.2.1)
    have k_xG5 : xG5 W := by
      rw [hW]
      exact (uxG5 rfl hI.2.2.2.2.2.2.2.2.2.2.2.2.2.2.2.2.2.2.2.1)
    have k_xG6 : xG6 W := by
      rw [hW]
      exact (uxG6 rfl hI.2.2.2.2.2.2.2.2.2.2.2.2.2.2.2.2.2.2.2.2.1)
    have k_xS1 : xS1 W := by
      rw [hW]
      exact (uxS1 rfl hI.2.2.2.2.2.2.2.2.2.2.2.2.2.2.2.2.2.2.2.2.2.1)
    have k_xS2 : xS2 W := by
      rw [hW]
      exact (uxS2 rfl hI.2.2.2.2.2.2.2.2.2.2.2.2.2.2.2.2.2.2.2.2.2.2.1)
    have k_xS3 : xS3 W := by
      rw [hW]
      exact (uxS3 rfl hI.2.2.2.2.2.2.2.2.2.2.2.2.2.2.2.2.2.2.2.2.2.2.2.1)
    have k_xS4 : xS4 W := by
      rw [hW]
      exact (uxS4 rfl hI.2.2.2.2.2.2.2.2.2.2.2.2.2.2.2.2.2.2.2.2.2.2.2.2.1)
    have k_xS5 : xS5 W := by
      rw [hW]
      exact (uxS5 rfl hI.2.2.2.2.2.2.2.2.2.2.2.2.2.2.2.2.2.2.2.2.2.2.2.2.2.1)
    have k_xS6 : xS6 W := by
      rw [hW]
      exact (uxS6 rfl hI.2.2.2.2.2.2.2.2.2.2.2.2.2.2.2.2.2.2.2.2.2.2.2.2.2.2.1)
    have k_xS7 : xS7 W := by
      rw [hW]
      exact (uxS7 rfl hI.2.2.2.2.2.2.2.2.2.2.2.2.2.2.2.2.2.2.2.2.2.2.2.2.2.2.2.1)
    have k_xS8 : xS8 W := by
      rw [hW]
      exact (uxS8 rfl hI.2.2.2.2.2.2.2.2.2.2.2.2.2.2.2.2.2.2.2.2.2.2.2.2.2.2.2.2.1)
    have k_xS9 : xS9 W := by
      rw [hW]
      exact (uxS9 rfl hI.2.2.2.2.2.2.2.2.2.2.2.2.2.2.2.2.2.2.2.2.2.2.2.2.2.2.2.2.2.1)
    have k_xSA : xSA W := by
      rw [hW]
      exact (uxSA rfl hI.2.2.2.2.2.2.2.2.2.2.2.2.2.2.2.2.2.2.2.2.2.2.2.2.2.2.2.2.2.2.1)
    have k_xSG : xSG W := by
      rw [hW]
      exact (uxSG rfl hI.2.2.2.2.2.2.2.2.2.2.2.2.2.2.2.2.2.2.2.2.2.2.2.2.2.2.2.2.2.2.2.1)
    have k_xSF : xSF W := by
      rw [hW]
      exact (uxSF rfl hI.2.2.2.2.2.2.2.2.2.2.2.2.2.2.2.2.2.2.2.2.2.2.2.2.2.2.2.2.2.2.2.2.1)
    have k_xSB : xSB W := by
      rw [hW]
      exact (uxSB rfl hI.2.2.2.2.2.2.2.2.2.2.2.2.2.2.2.2.2.2.2.2.2.2.2.2.2.2.2.2.2.2.2.2.2.1)
    have k_xSC : xSC W := by
      have r4_226 : W 4 226 = M 4 226 := by rw [hW, sU_ne (fun z => by omega)]
      have r4_227 : W 4 227 = 21 * ρ 0 + 0 := by rw [hW, sU_at]
      have r4_219 : W 4 219 = M 4 219 := by rw [hW, sU_ne (fun z => by omega)]
      intro h
      rw [r4_227, r4_219, h0]
      refine ⟨by omega, by omega, ?_⟩
      have e1 := tki_on (x := M 4 219) (w := 20) (show tLa[20]? = some (43581440 : Int) from rfl)
      rw [if_neg (by omega)] at e1
      rw [show M 4 227 = 20 by omega] at l3
      rw [← l3]
      exact e1.symm
    have k_xSD : xSD W := by
      rw [hW]
      exact (uxSD rfl hI.2.2.2.2.2.2.2.2.2.2.2.2.2.2.2.2.2.2.2.2.2.2.2.2.2.2.2.2.2.2.2.2.2.2.2.1)
    have k_xSE : xSE W := by
      rw [hW]
      exact (uxSE rfl hI.2.2.2.2.2.2.2.2.2.2.2.2.2.2.2.2.2.2.2.2.2.2.2.2.2.2.2.2.2.2.2.2.2.2.2.2.1)
    have k_xSW : xSW W := by
      rw [hW]
      exact (uxSW rfl hI.2.2.2.2.2.2.2.2.2.2.2.2.2.2.2.2.2.2.2.2.2.2.2.2.2.2.2.2.2.2.2.2.2.2.2.2.2.1)
    have k_xST : xST W := by
      rw [hW]
      exact (uxST rfl hI.2.2.2.2.2.2.2.2.2.2.2.2.2.2.2.2.2.2.2.2.2.2.2.2.2.2.2.2.2.2.2.2.2.2.2.2.2.2.1)
    have k_xSP : xSP W := by
      rw [hW]
      exact (uxSP rfl hI.2.2.2.2.2.2.2.2.2.2.2.2.2.2.2.2.2.2.2.2.2.2.2.2.2.2.2.2.2.2.2.2.2.2.2.2.2.2.2.1)
    have k_xSL : xSL W := by
      rw [hW]
      exact (uxSL rfl hI.2.2.2.2.2.2.2.2.2.2.2.2.2.2.2.2.2.2.2.2.2.2.2.2.2.2.2.2.2.2.2.2.2.2.2.2.2.2.2.2.1)
    have k_xSM : xSM W := by
      rw [hW]
      exact (uxSM rfl hI.2.2.2.2.2.2.2.2.2.2.2.2.2.2.2.2.2.2.2.2.2.2.2.2.2.2.2.2.2.2.2.2.2.2.2.2.2.2.2.2.2.1)
    have k_xSI : xSI W := by
      rw [hW]
      exact (uxSI rfl hI.2.2.2.2.2.2.2.2.2.2.2.2.2.2.2.2.2.2.2.2.2.2.2.2.2.2.2.2.2.2.2.2.2.2.2.2.2.2.2.2.2.2.1)
    have k_xD3 : xD3 W := by
      rw [hW]
      exact (uxD3 rfl hI.2.2.2.2.2.2.2.2.2.2.2.2.2.2.2.2.2.2.2.2.2.2.2.2.2.2.2.2.2.2.2.2.2.2.2.2.2.2.2.2.2.2.2.1)
    have k_xDV : xDV W := by
      rw [hW]
      exact (uxDV rfl hI.2.2.2.2.2.2.2.2.2.2.2.2.2.2.2.2.2.2.2.2.2.2.2.2.2.2.2.2.2.2.2.2.2.2.2.2.2.2.2.2.2.2.2.2.1)
    have k_xDP : xDP W := by
      rw [hW]
      exact (uxDP rfl hI.2.2.2.2.2.2.2.2.2.2.2.2.2.2.2.2.2.2.2.2.2.2.2.2.2.2.2.2.2.2.2.2.2.2.2.2.2.2.2.2.2.2.2.2.2.1)
    have k_xDE : xDE W := by
      rw [hW]
      exact (uxDE rfl hI.2.2.2.2.2.2.2.2.2.2.2.2.2.2.2.2.2.2.2.2.2.2.2.2.2.2.2.2.2.2.2.2.2.2.2.2.2.2.2.2.2.2.2.2.2.2.1)
    have k_xQ5 : xQ5 W := by
      rw [hW]
      exact (uxQ5 rfl hI.2.2.2.2.2.2.2.2.2.2.2.2.2.2.2.2.2.2.2.2.2.2.2.2.2.2.2.2.2.2.2.2.2.2.2.2.2.2.2.2.2.2.2.2.2.2.2.1)
    have k_xQL : xQL W := by
      rw [hW]
      exact (uxQL rfl hI.2.2.2.2.2.2.2.2.2.2.2.2.2.2.2.2.2.2.2.2.2.2.2.2.2.2.2.2.2.2.2.2.2.2.2.2.2.2.2.2.2.2.2.2.2.2.2.2.1)
    have k_xQW : xQW W := by
      rw [hW]
      exact (uxQW rfl hI.2.2.2.2.2.2.2.2.2.2.2.2.2.2.2.2.2.2.2.2.2.2.2.2.2.2.2.2.2.2.2.2.2.2.2.2.2.2.2.2.2.2.2.2.2.2.2.2.2.1)
    have k_xQM : xQM W := by
      rw [hW]
      exact (uxQM rfl hI.2.2.2.2.2.2.2.2.2.2.2.2.2.2.2.2.2.2.2.2.2.2.2.2.2.2.2.2.2.2.2.2.2.2.2.2.2.2.2.2.2.2.2.2.2.2.2.2.2.2.1)
    have k_xQH : xQH W := by
      rw [hW]
      exact (uxQH rfl hI.2.2.2.2.2.2.2.2.2.2.2.2.2.2.2.2.2.2.2.2.2.2.2.2.2.2.2.2.2.2.2.2.2.2.2.2.2.2.2.2.2.2.2.2.2.2.2.2.2.2.2)
    have k_XC : XC W := ⟨k_xS1, k_xS2, k_xS3, k_xS4, k_xS5, k_xS6, k_xS7, k_xS8, k_xS9, k_xSA, k_xSG, k_xSF, k_xSB, k_xSC, k_xSD, k_xSE, k_xSW, k_xST, k_xSP, k_xSL, k_xSM, k_xSI, k_xD3, k_xDV, k_xDP, k_xDE, k_xQ5, k_xQL, k_xQW, k_xQM, k_xQH⟩
    have kXB : XB W := ⟨k_xN1, k_xN2, k_xN3, k_xN4, k_xN5, k_xN6, k_xH1, k_xK1, k_xC1, k_xRW, k_xWT, k_xCU, k_xG2, k_xG3, k_xG4, k_xG5, k_xG6, k_XC⟩
    exact ⟨base, k2, k3, kXA, kXB⟩
-- wHitR21_c
def xr_480 : qRu := (13, [[(-1, 0), (1, 5)], [(1, 1)], [(-1, 1), (1, 9)], [(1, 1), (-1, 9)], [(-1, 0), (-1, 1), (1, 10)], [(6, 0), (1, 9), (-1, 10)], [(-284870656, 0), (1, 11)], [(284870656, 0), (-1, 11)]], [(4, 210, [(1, 0)]), (4, 211, [(1, 1)]), (4, 101, [(1, 2)]), (3, 46, [(1, 3)]), (3, 47, [(1, 4)]), (4, 100, [(1, 5)]), (3, 44, [(1, 6)]), (3, 45, [(1, 7)]), (4, 107, [(1, 8)]), (4, 214, [(1, 0)]), (4, 215, [(1, 9)]), (4, 217, [(1, 10)]), (4, 219, [(1, 11)]), (4, 216, [(1, 12)])], [], [], [[(-1, 1), (1, 3)], [(1, 1), (-1, 3)], [(1, 4), (-1, 10)], [(-1, 4), (1, 10)], [(-39, 0), (1, 6)], [(39, 0), (-1, 6)], [(1, 7), (-1, 11)], [(-1, 7), (1, 11)]])
theorem xo_480 : qRok xr_480 := by
  intro ρ M h0 hf hm hI
  have f0 := hf [(-1, 0), (1, 5)] (by decide)
  have f1 := hf [(1, 1)] (by decide)
  have f2 := hf [(-1, 1), (1, 9)] (by decide)
  have f3 := hf [(1, 1), (-1, 9)] (by decide)
  have f4 := hf [(-1, 0), (-1, 1), (1, 10)] (by decide)
  have f5 := hf [(6, 0), (1, 9), (-1, 10)] (by decide)
  have f6 := hf [(-284870656, 0), (1, 11)] (by decide)
  have f7 := hf [(284870656, 0), (-1, 11)] (by decide)
  simp only [qD, h0] at f0 f1 f2 f3 f4 f5 f6 f7
  have m0 : M 4 210 = 1 * ρ 0 + 0 := hm (4, 210, [(1, 0)]) (by decide)
  have m1 : M 4 211 = 1 * ρ 1 + 0 := hm (4, 211, [(1, 1)]) (by decide)
  have m2 : M 4 101 = 1 * ρ 2 + 0 := hm (4, 101, [(1, 2)]) (by decide)
  have m3 : M 3 46 = 1 * ρ 3 + 0 := hm (3, 46, [(1, 3)]) (by decide)
  have m4 : M 3 47 = 1 * ρ 4 + 0 := hm (3, 47, [(1, 4)]) (by decide)
  have m5 : M 4 100 = 1 * ρ 5 + 0 := hm (4, 100, [(1, 5)]) (by decide)
  have m6 : M 3 44 = 1 * ρ 6 + 0 := hm (3, 44, [(1, 6)]) (by decide)
  have m7 : M 3 45 = 1 * ρ 7 + 0 := hm (3, 45, [(1, 7)]) (by decide)
  have m8 : M 4 107 = 1 * ρ 8 + 0 := hm (4, 107, [(1, 8)]) (by decide)
  have m9 : M 4 214 = 1 * ρ 0 + 0 := hm (4, 214, [(1, 0)]) (by decide)
  have m10 : M 4 215 = 1 * ρ 9 + 0 := hm (4, 215, [(1, 9)]) (by decide)
  have m11 : M 4 217 = 1 * ρ 10 + 0 := hm (4, 217, [(1, 10)]) (by decide)
  have m12 : M 4 219 = 1 * ρ 11 + 0 := hm (4, 219, [(1, 11)]) (by decide)
  have m13 : M 4 216 = 1 * ρ 12 + 0 := hm (4, 216, [(1, 12)]) (by decide)
  simp only [h0] at m0 m9
  obtain ⟨u1, u2, _⟩ := gx_xS8 hI (by omega)

  obtain ⟨a1, a2, a3, a4, a5, a6, a7⟩ := gx_xSA hI (by omega)
  have eq1 : (M 4 215).toNat = (M 4 211).toNat := by omega
  rw [eq1] at a6 a7
  have hgt := ten_gt (g := M 92) (lo := 97) (hi := 122) (n := (M 4 101).toNat) (q := (M 4 211).toNat) (by omega)
  have el1 : (M 4 217 - M 4 215).toNat = tEn (M 92) 97 122 (M 4 101).toNat (M 4 211).toNat - (M 4 211).toNat := by omega
  rw [el1] at a7

  obtain ⟨t1, t2, t3, t4, t5, t6⟩ := tk_of hI (by omega) (by omega) (by omega) (show tAt (M 92) (M 4 101).toNat (M 4 211).toNat (M 4 107) (M 4 108) = (39, M 4 219, ((M 4 211).toNat : Int), M 4 217, 0, 21) from by
    unfold tAt
    rw [if_neg (by omega), if_pos hgt.2]
    unfold tWo
    rw [← a7, ← a6]
    have hk : tKi (M 4 219) 0 = 39 := by
      rw [show M 4 219 = 284870656 by omega]
      decide
    have h6 : ¬ (6 < tEn (M 92) 97 122 (M 4 101).toNat (M 4 211).toNat - (M 4 211).toNat) := by omega
    unfold tWk tWs tWv
    rw [if_neg h6, if_neg h6, if_neg h6, hk]
    rfl)
  refine ⟨ρ, fun _ _ => rfl, fun f h => ?_, ?_⟩
  · have h : f ∈ ([[(-1, 1), (1, 3)], [(1, 1), (-1, 3)], [(1, 4), (-1, 10)], [(-1, 4), (1, 10)], [(-39, 0), (1, 6)], [(39, 0), (-1, 6)], [(1, 7), (-1, 11)], [(-1, 7), (1, 11)]] : List qF) := h
    simp only [List.mem_cons, List.not_mem_nil, or_false] at h
    rcases h with rfl | rfl | rfl | rfl | rfl | rfl | rfl | rfl
    · show 0 ≤ -1 * ρ 1 + (1 * ρ 3 + 0)
      (try rw [h0]); omega
    · show 0 ≤ 1 * ρ 1 + (-1 * ρ 3 + 0)
      (try rw [h0]); omega
    · show 0 ≤ 1 * ρ 4 + (-1 * ρ 10 + 0)
      (try rw [h0]); omega
    · show 0 ≤ -1 * ρ 4 + (1 * ρ 10 + 0)
      (try rw [h0]); omega
    · show 0 ≤ -39 * ρ 0 + (1 * ρ 6 + 0)
      (try rw [h0]); omega
    · show 0 ≤ 39 * ρ 0 + (-1 * ρ 6 + 0)
      (try rw [h0]); omega
    · show 0 ≤ 1 * ρ 7 + (-1 * ρ 11 + 0)
      (try rw [h0]); omega
    · show 0 ≤ -1 * ρ 7 + (1 * ρ 11 + 0)
      (try rw [h0]); omega
  · show sI M
    exact hI
-- wHitR21_r
def xr_481 : qRu := (13, [[(-1, 0), (1, 5)], [(1, 1)], [(-1, 1), (1, 9)], [(1, 1), (-1, 9)], [(-1, 0), (-1, 1), (1, 10)], [(6, 0), (1, 9), (-1, 10)], [(-284870656, 0), (1, 11)], [(284870656, 0), (-1, 11)]], [(4, 210, [(1, 0)]), (4, 211, [(1, 1)]), (4, 101, [(1, 2)]), (3, 46, [(1, 3)]), (3, 47, [(1, 4)]), (4, 100, [(1, 5)]), (3, 50, [(1, 6)]), (3, 51, [(1, 7)]), (4, 108, [(1, 8)]), (4, 214, [(1, 0)]), (4, 215, [(1, 9)]), (4, 217, [(1, 10)]), (4, 219, [(1, 11)]), (4, 216, [(1, 12)])], [], [], [[(-1, 1), (1, 3)], [(1, 1), (-1, 3)], [(1, 4), (-1, 10)], [(-1, 4), (1, 10)], [(1, 6)], [(-1, 6)], [(-21, 0), (1, 7)], [(21, 0), (-1, 7)]])
theorem xo_481 : qRok xr_481 := by
  intro ρ M h0 hf hm hI
  have f0 := hf [(-1, 0), (1, 5)] (by decide)
  have f1 := hf [(1, 1)] (by decide)
  have f2 := hf [(-1, 1), (1, 9)] (by decide)
  have f3 := hf [(1, 1), (-1, 9)] (by decide)
  have f4 := hf [(-1, 0), (-1, 1), (1, 10)] (by decide)
  have f5 := hf [(6, 0), (1, 9), (-1, 10)] (by decide)
  have f6 := hf [(-284870656, 0), (1, 11)] (by decide)
  have f7 := hf [(284870656, 0), (-1, 11)] (by decide)
  simp only [qD, h0] at f0 f1 f2 f3 f4 f5 f6 f7
  have m0 : M 4 210 = 1 * ρ 0 + 0 := hm (4, 210, [(1, 0)]) (by decide)
  have m1 : M 4 211 = 1 * ρ 1 + 0 := hm (4, 211, [(1, 1)]) (by decide)
  have m2 : M 4 101 = 1 * ρ 2 + 0 := hm (4, 101, [(1, 2)]) (by decide)
  have m3 : M 3 46 = 1 * ρ 3 + 0 := hm (3, 46, [(1, 3)]) (by decide)
  have m4 : M 3 47 = 1 * ρ 4 + 0 := hm (3, 47, [(1, 4)]) (by decide)
  have m5 : M 4 100 = 1 * ρ 5 + 0 := hm (4, 100, [(1, 5)]) (by decide)
  have m6 : M 3 50 = 1 * ρ 6 + 0 := hm (3, 50, [(1, 6)]) (by decide)
  have m7 : M 3 51 = 1 * ρ 7 + 0 := hm (3, 51, [(1, 7)]) (by decide)
  have m8 : M 4 108 = 1 * ρ 8 + 0 := hm (4, 108, [(1, 8)]) (by decide)
  have m9 : M 4 214 = 1 * ρ 0 + 0 := hm (4, 214, [(1, 0)]) (by decide)
  have m10 : M 4 215 = 1 * ρ 9 + 0 := hm (4, 215, [(1, 9)]) (by decide)
  have m11 : M 4 217 = 1 * ρ 10 + 0 := hm (4, 217, [(1, 10)]) (by decide)
  have m12 : M 4 219 = 1 * ρ 11 + 0 := hm (4, 219, [(1, 11)]) (by decide)
  have m13 : M 4 216 = 1 * ρ 12 + 0 := hm (4, 216, [(1, 12)]) (by decide)
  simp only [h0] at m0 m9
  obtain ⟨u1, u2, _⟩ := gx_xS8 hI (by omega)

  obtain ⟨a1, a2, a3, a4, a5, a6, a7⟩ := gx_xSA hI (by omega)
  have eq1 : (M 4 215).toNat = (M 4 211).toNat := by omega
  rw [eq1] at a6 a7
  have hgt := ten_gt (g := M 92) (lo := 97) (hi := 122) (n := (M 4 101).toNat) (q := (M 4 211).toNat) (by omega)
  have el1 : (M 4 217 - M 4 215).toNat = tEn (M 92) 97 122 (M 4 101).toNat (M 4 211).toNat - (M 4 211).toNat := by omega
  rw [el1] at a7

  obtain ⟨t1, t2, t3, t4, t5, t6⟩ := tk_of hI (by omega) (by omega) (by omega) (show tAt (M 92) (M 4 101).toNat (M 4 211).toNat (M 4 107) (M 4 108) = (39, M 4 219, ((M 4 211).toNat : Int), M 4 217, 0, 21) from by
    unfold tAt
    rw [if_neg (by omega), if_pos hgt.2]
    unfold tWo
    rw [← a7, ← a6]
    have hk : tKi (M 4 219) 0 = 39 := by
      rw [show M 4 219 = 284870656 by omega]
      decide
    have h6 : ¬ (6 < tEn (M 92) 97 122 (M 4 101).toNat (M 4 211).toNat - (M 4 211).toNat) := by omega
    unfold tWk tWs tWv
    rw [if_neg h6, if_neg h6, if_neg h6, hk]
    rfl)
  refine ⟨ρ, fun _ _ => rfl, fun f h => ?_, ?_⟩
  · have h : f ∈ ([[(-1, 1), (1, 3)], [(1, 1), (-1, 3)], [(1, 4), (-1, 10)], [(-1, 4), (1, 10)], [(1, 6)], [(-1, 6)], [(-21, 0), (1, 7)], [(21, 0), (-1, 7)]] : List qF) := h
    simp only [List.mem_cons, List.not_mem_nil, or_false] at h
    rcases h with rfl | rfl | rfl | rfl | rfl | rfl | rfl | rfl
    · show 0 ≤ -1 * ρ 1 + (1 * ρ 3 + 0)
      (try rw [h0]); omega
    · show 0 ≤ 1 * ρ 1 + (-1 * ρ 3 + 0)
      (try rw [h0]); omega
    · show 0 ≤ 1 * ρ 4 + (-1 * ρ 10 + 0)
      (try rw [h0]); omega
    · show 0 ≤ -1 * ρ 4 + (1 * ρ 10 + 0)
      (try rw [h0]); omega
    · show 0 ≤ 1 * ρ 6 + 0
      (try rw [h0]); omega
    · show 0 ≤ -1 * ρ 6 + 0
      (try rw [h0]); omega
    · show 0 ≤ -21 * ρ 0 + (1 * ρ 7 + 0)
      (try rw [h0]); omega
    · show 0 ≤ 21 * ρ 0 + (-1 * ρ 7 + 0)
      (try rw [h0]); omega
  · show sI M
    exact hI
-- langMissR21L
def xr_482 : qRu := (3, [[(284870655, 0), (-1, 2)]], [(4, 226, [(1, 0)]), (4, 227, [(21, 0)]), (4, 219, [(1, 2)])], [], [(4, 227, [(22, 0)])], [])
theorem xo_482 : qRok xr_482 := by
  intro ρ M h0 hf hm hI
  have f0 := hf [(284870655, 0), (-1, 2)] (by decide)
  simp only [qD, h0] at f0
  have m0 : M 4 226 = 1 * ρ 0 + 0 := hm (4, 226, [(1, 0)]) (by decide)
  have m1 : M 4 227 = 21 * ρ 0 + 0 := hm (4, 227, [(21, 0)]) (by decide)
  have m2 : M 4 219 = 1 * ρ 2 + 0 := hm (4, 219, [(1, 2)]) (by decide)
  simp only [h0] at m0 m1
  have qxSC := hI.2.2.2.2.2.2.2.2.2.2.2.2.2.2.2.2.2.2.2.2.2.2.2.2.2.2.2.2.2.2.2.2.2.2.1
  obtain ⟨l1, l2, l3⟩ := gx_xSC hI (by omega)
  refine ⟨ρ, fun _ _ => rfl, fun f h => ?_, ?_⟩
  · exact nomatch h
  · show sI (sU M 4 227 (22 * ρ 0 + 0))
    obtain ⟨W, hW⟩ : ∃ W, W = (sU M 4 227 (22 * ρ 0 + 0)) := ⟨_, rfl⟩
    rw [← hW]
    have base : sI0 W := by
      rw [hW]
      exact (si_u0 hI.1 (fun r hr => by cases hr))
    have k2 : XI2 W := by
      rw [hW]
      exact (xi2_u rfl hI.2.1)
    have k3 : XI3 W := by
      rw [hW]
      exact (xi3_u rfl hI.2.2.1)
    have kXA : XA W := by
      rw [hW]
      exact (uXA rfl hI.2.2.2.1)
    have k_xN1 : xN1 W := by
      rw [hW]
      exact (uxN1 rfl hI.2.2.2.2.1)
    have k_xN2 : xN2 W := by
      rw [hW]
      exact (uxN2 rfl hI.2.2.2.2.2.1)
    have k_xN3 : xN3 W := by
      rw [hW]
      exact (uxN3 rfl hI.2.2.2.2.2.2.1)
    have k_xN4 : xN4 W := by
      rw [hW]
      exact (uxN4 rfl hI.2.2.2.2.2.2.2.1)
    have k_xN5 : xN5 W := by
      rw [hW]
      exact (uxN5 rfl hI.2.2.2.2.2.2.2.2.1)
    have k_xN6 : xN6 W := by
      rw [hW]
      exact (uxN6 rfl hI.2.2.2.2.2.2.2.2.2.1)
    have k_xH1 : xH1 W := by
      rw [hW]
      exact (uxH1 rfl hI.2.2.2.2.2.2.2.2.2.2.1)
    have k_xK1 : xK1 W := by
      rw [hW]
      exact (uxK1 rfl hI.2.2.2.2.2.2.2.2.2.2.2.1)
    have k_xC1 : xC1 W := by
      rw [hW]
      exact (uxC1 rfl hI.2.2.2.2.2.2.2.2.2.2.2.2.1)
    have k_xRW : xRW W := by
      rw [hW]
      exact (uxRW rfl hI.2.2.2.2.2.2.2.2.2.2.2.2.2.1)
    have k_xWT : xWT W := by
      rw [hW]
      exact (uxWT rfl hI.2.2.2.2.2.2.2.2.2.2.2.2.2.2.1)
    have k_xCU : xCU W := by
      rw [hW]
      exact (uxCU rfl hI.2.2.2.2.2.2.2.2.2.2.2.2.2.2.2.1)
    have k_xG2 : xG2 W := by
      rw [hW]
      exact (uxG2 rfl hI.2.2.2.2.2.2.2.2.2.2.2.2.2.2.2.2.1)
    have k_xG3 : xG3 W := by
      rw [hW]
      exact (uxG3 rfl hI.2.2.2.2.2.2.2.2.2.2.2.2.2.2.2.2.2.1)
    have k_xG4 : xG4 W := by
      rw [hW]
      exact (uxG4 rfl hI.2.2.2.2.2.2.2.2.2.2.2.2.2.2.2.2.2.2.1)
    have k_xG5 : xG5 W := by
      rw [hW]
      exact (uxG5 rfl hI.2.2.2.2.2.2.2.2.2.2.2.2.2.2.2.2.2.2.2.1)
    have k_xG6 : xG6 W := by
      rw [hW]
      exact (uxG6 rfl hI.2.2.2.2.2.2.2.2.2.2.2.2.2.2.2.2.2.2.2.2.1)
    have k_xS1 : xS1 W := by
      rw [hW]
      exact (uxS1 rfl hI.2.2.2.2.2.2.2.2.2.2.2.2.2.2.2.2.2.2.2.2.2.1)
    have k_xS2 : xS2 W := by
      rw [hW]
      exact (uxS2 rfl hI.2.2.2.2.2.2.2.2.2.2.2.2.2.2.2.2.2.2.2.2.2.2.1)
    have k_xS3 : xS3 W := by
      rw [hW]
      exact (uxS3 rfl hI.2.2.2.2.2.2.2.2.2.2.2.2.2.2.2.2.2.2.2.2.2.2.2.1)
    have k_xS4 : xS4 W := by
      rw [hW]
      exact (uxS4 rfl hI.2.2.2.2.2.2.2.2.2.2.2.2.2.2.2.2.2.2.2.2.2.2.2.2.1)
    have k_xS5 : xS5 W := by
      rw [hW]
      exact (uxS5 rfl hI.2.2.2.2.2.2.2.2.2.2.2.2.2.2.2.2.2.2.2.2.2.2.2.2.2.1)
    have k_xS6 : xS6 W := by
      rw [hW]
      exact (uxS6 rfl hI.2.2.2.2.2.2.2.2.2.2.2.2.2.2.2.2.2.2.2.2.2.2.2.2.2.2.1)
    have k_xS7 : xS7 W := by
      rw [hW]
      exact (uxS7 rfl hI.2.2.2.2.2.2.2.2.2.2.2.2.2.2.2.2.2.2.2.2.2.2.2.2.2.2.2.1)
    have k_xS8 : xS8 W := by
      rw [hW]
      exact (uxS8 rfl hI.2.2.2.2.2.2.2.2.2.2.2.2.2.2.2.2.2.2.2.2.2.2.2.2.2.2.2.2.1)
    have k_xS9 : xS9 W := by
      rw [hW]
      exact (uxS9 rfl hI.2.2.2.2.2.2.2.2.2.2.2.2.2.2.2.2.2.2.2.2.2.2.2.2.2.2.2.2.2.1)
    have k_xSA : xSA W := by
      rw [hW]
      exact (uxSA rfl hI.2.2.2.2.2.2.2.2.2.2.2.2.2.2.2.2.2.2.2.2.2.2.2.2.2.2.2.2.2.2.1)
    have k_xSG : xSG W := by
      rw [hW]
      exact (uxSG rfl hI.2.2.2.2.2.2.2.2.2.2.2.2.2.2.2.2.2.2.2.2.2.2.2.2.2.2.2.2.2.2.2.1)
    have k_xSF : xSF W := by
      rw [hW]
      exact (uxSF rfl hI.2.2.2.2.2.2.2.2.2.2.2.2.2.2.2.2.2.2.2.2.2.2.2.2.2.2.2.2.2.2.2.2.1)
    have k_xSB : xSB W := by
      rw [hW]
      exact (uxSB rfl hI.2.2.2.2.2.2.2.2.2.2.2.2.2.2.2.2.2.2.2.2.2.2.2.2.2.2.2.2.2.2.2.2.2.1)
    have k_xSC : xSC W := by
      have r4_226 : W 4 226 = M 4 226 := by rw [hW, sU_ne (fun z => by omega)]
      have r4_227 : W 4 227 = 22 * ρ 0 + 0 := by rw [hW, sU_at]
      have r4_219 : W 4 219 = M 4 219 := by rw [hW, sU_ne (fun z => by omega)]
      intro h
      rw [r4_227, r4_219, h0]
      refine ⟨by omega, by omega, ?_⟩
      have e1 := tki_on (x := M 4 219) (w := 21) (show tLa[21]? = some (284870656 : Int) from rfl)
      rw [if_neg (by omega)] at e1
      rw [show M 4 227 = 21 by omega] at l3
      rw [← l3]
      exact e1.symm
    have k_xSD : xSD W := by
      rw [hW]
      exact (uxSD rfl hI.2.2.2.2.2.2.2.2.2.2.2.2.2.2.2.2.2.2.2.2.2.2.2.2.2.2.2.2.2.2.2.2.2.2.2.1)
    have k_xSE : xSE W := by
      rw [hW]
      exact (uxSE rfl hI.2.2.2.2.2.2.2.2.2.2.2.2.2.2.2.2.2.2.2.2.2.2.2.2.2.2.2.2.2.2.2.2.2.2.2.2.1)
    have k_xSW : xSW W := by
      rw [hW]
      exact (uxSW rfl hI.2.2.2.2.2.2.2.2.2.2.2.2.2.2.2.2.2.2.2.2.2.2.2.2.2.2.2.2.2.2.2.2.2.2.2.2.2.1)
    have k_xST : xST W := by
      rw [hW]
      exact (uxST rfl hI.2.2.2.2.2.2.2.2.2.2.2.2.2.2.2.2.2.2.2.2.2.2.2.2.2.2.2.2.2.2.2.2.2.2.2.2.2.2.1)
    have k_xSP : xSP W := by
      rw [hW]
      exact (uxSP rfl hI.2.2.2.2.2.2.2.2.2.2.2.2.2.2.2.2.2.2.2.2.2.2.2.2.2.2.2.2.2.2.2.2.2.2.2.2.2.2.2.1)
    have k_xSL : xSL W := by
      rw [hW]
      exact (uxSL rfl hI.2.2.2.2.2.2.2.2.2.2.2.2.2.2.2.2.2.2.2.2.2.2.2.2.2.2.2.2.2.2.2.2.2.2.2.2.2.2.2.2.1)
    have k_xSM : xSM W := by
      rw [hW]
      exact (uxSM rfl hI.2.2.2.2.2.2.2.2.2.2.2.2.2.2.2.2.2.2.2.2.2.2.2.2.2.2.2.2.2.2.2.2.2.2.2.2.2.2.2.2.2.1)
    have k_xSI : xSI W := by
      rw [hW]
      exact (uxSI rfl hI.2.2.2.2.2.2.2.2.2.2.2.2.2.2.2.2.2.2.2.2.2.2.2.2.2.2.2.2.2.2.2.2.2.2.2.2.2.2.2.2.2.2.1)
    have k_xD3 : xD3 W := by
      rw [hW]
      exact (uxD3 rfl hI.2.2.2.2.2.2.2.2.2.2.2.2.2.2.2.2.2.2.2.2.2.2.2.2.2.2.2.2.2.2.2.2.2.2.2.2.2.2.2.2.2.2.2.1)
    have k_xDV : xDV W := by
      rw [hW]
      exact (uxDV rfl hI.2.2.2.2.2.2.2.2.2.2.2.2.2.2.2.2.2.2.2.2.2.2.2.2.2.2.2.2.2.2.2.2.2.2.2.2.2.2.2.2.2.2.2.2.1)
    have k_xDP : xDP W := by
      rw [hW]
      exact (uxDP rfl hI.2.2.2.2.2.2.2.2.2.2.2.2.2.2.2.2.2.2.2.2.2.2.2.2.2.2.2.2.2.2.2.2.2.2.2.2.2.2.2.2.2.2.2.2.2.1)
    have k_xDE : xDE W := by
      rw [hW]
      exact (uxDE rfl hI.2.2.2.2.2.2.2.2.2.2.2.2.2.2.2.2.2.2.2.2.2.2.2.2.2.2.2.2.2.2.2.2.2.2.2.2.2.2.2.2.2.2.2.2.2.2.1)
    have k_xQ5 : xQ5 W := by
      rw [hW]
      exact (uxQ5 rfl hI.2.2.2.2.2.2.2.2.2.2.2.2.2.2.2.2.2.2.2.2.2.2.2.2.2.2.2.2.2.2.2.2.2.2.2.2.2.2.2.2.2.2.2.2.2.2.2.1)
    have k_xQL : xQL W := by
      rw [hW]
      exact (uxQL rfl hI.2.2.2.2.2.2.2.2.2.2.2.2.2.2.2.2.2.2.2.2.2.2.2.2.2.2.2.2.2.2.2.2.2.2.2.2.2.2.2.2.2.2.2.2.2.2.2.2.1)
    have k_xQW : xQW W := by
      rw [hW]
      exact (uxQW rfl hI.2.2.2.2.2.2.2.2.2.2.2.2.2.2.2.2.2.2.2.2.2.2.2.2.2.2.2.2.2.2.2.2.2.2.2.2.2.2.2.2.2.2.2.2.2.2.2.2.2.1)
    have k_xQM : xQM W := by
      rw [hW]
      exact (uxQM rfl hI.2.2.2.2.2.2.2.2.2.2.2.2.2.2.2.2.2.2.2.2.2.2.2.2.2.2.2.2.2.2.2.2.2.2.2.2.2.2.2.2.2.2.2.2.2.2.2.2.2.2.1)
    have k_xQH : xQH W := by
      rw [hW]
      exact (uxQH rfl hI.2.2.2.2.2.2.2.2.2.2.2.2.2.2.2.2.2.2.2.2.2.2.2.2.2.2.2.2.2.2.2.2.2.2.2.2.2.2.2.2.2.2.2.2.2.2.2.2.2.2.2)
    have k_XC : XC W := ⟨k_xS1, k_xS2, k_xS3, k_xS4, k_xS5, k_xS6, k_xS7, k_xS8, k_xS9, k_xSA, k_xSG, k_xSF, k_xSB, k_xSC, k_xSD, k_xSE, k_xSW, k_xST, k_xSP, k_xSL, k_xSM, k_xSI, k_xD3, k_xDV, k_xDP, k_xDE, k_xQ5, k_xQL, k_xQW, k_xQM, k_xQH⟩
    have kXB : XB W := ⟨k_xN1, k_xN2, k_xN3, k_xN4, k_xN5, k_xN6, k_xH1, k_xK1, k_xC1, k_xRW, k_xWT, k_xCU, k_xG2, k_xG3, k_xG4, k_xG5, k_xG6, k_XC⟩
    exact ⟨base, k2, k3, kXA, kXB⟩
-- langMissR21H
def xr_483 : qRu := (3, [[(-284870657, 0), (1, 2)]], [(4, 226, [(1, 0)]), (4, 227, [(21, 0)]), (4, 219, [(1, 2)])], [], [(4, 227, [(22, 0)])], [])
theorem xo_483 : qRok xr_483 := by
  intro ρ M h0 hf hm hI
  have f0 := hf [(-284870657, 0), (1, 2)] (by decide)
  simp only [qD, h0] at f0
  have m0 : M 4 226 = 1 * ρ 0 + 0 := hm (4, 226, [(1, 0)]) (by decide)
  have m1 : M 4 227 = 21 * ρ 0 + 0 := hm (4, 227, [(21, 0)]) (by decide)
  have m2 : M 4 219 = 1 * ρ 2 + 0 := hm (4, 219, [(1, 2)]) (by decide)
  simp only [h0] at m0 m1
  have qxSC := hI.2.2.2.2.2.2.2.2.2.2.2.2.2.2.2.2.2.2.2.2.2.2.2.2.2.2.2.2.2.2.2.2.2.2.1
  obtain ⟨l1, l2, l3⟩ := gx_xSC hI (by omega)
  refine ⟨ρ, fun _ _ => rfl, fun f h => ?_, ?_⟩
  · exact nomatch h
  · show sI (sU M 4 227 (22 * ρ 0 + 0))
    obtain ⟨W, hW⟩ : ∃ W, W = (sU M 4 227 (22 * ρ 0 + 0)) := ⟨_, rfl⟩
    rw [← hW]
    have base : sI0 W := by
      rw [hW]
      exact (si_u0 hI.1 (fun r hr => by cases hr))
    have k2 : XI2 W := by
      rw [hW]
      exact (xi2_u rfl hI.2.1)
    have k3 : XI3 W := by
      rw [hW]
      exact (xi3_u rfl hI.2.2.1)
    have kXA : XA W := by
      rw [hW]
      exact (uXA rfl hI.2.2.2.1)
    have k_xN1 : xN1 W := by
      rw [hW]
      exact (uxN1 rfl hI.2.2.2.2.1)
    have k_xN2 : xN2 W := by
      rw [hW]
      exact (uxN2 rfl hI.2.2.2.2.2.1)
    have k_xN3 : xN3 W := by
      rw [hW]
      exact (uxN3 rfl hI.2.2.2.2.2.2.1)
    have k_xN4 : xN4 W := by
      rw [hW]
      exact (uxN4 rfl hI.2.2.2.2.2.2.2.1)
    have k_xN5 : xN5 W := by
      rw [hW]
      exact (uxN5 rfl hI.2.2.2.2.2.2.2.2.1)
    have k_xN6 : xN6 W := by
      rw [hW]
      exact (uxN6 rfl hI.2.2.2.2.2.2.2.2.2.1)
    have k_xH1 : xH1 W := by
      rw [hW]
      exact (uxH1 rfl hI.2.2.2.2.2.2.2.2.2.2.1)
    have k_xK1 : xK1 W := by
      rw [hW]
      exact (uxK1 rfl hI.2.2.2.2.2.2.2.2.2.2.2.1)
    have k_xC1 : xC1 W := by
      rw [hW]
      exact (uxC1 rfl hI.2.2.2.2.2.2.2.2.2.2.2.2.1)
    have k_xRW : xRW W := by
      rw [hW]
      exact (uxRW rfl hI.2.2.2.2.2.2.2.2.2.2.2.2.2.1)
    have k_xWT : xWT W := by
      rw [hW]
      exact (uxWT rfl hI.2.2.2.2.2.2.2.2.2.2.2.2.2.2.1)
    have k_xCU : xCU W := by
      rw [hW]
      exact (uxCU rfl hI.2.2.2.2.2.2.2.2.2.2.2.2.2.2.2.1)
    have k_xG2 : xG2 W := by
      rw [hW]
      exact (uxG2 rfl hI.2.2.2.2.2.2.2.2.2.2.2.2.2.2.2.2.1)
    have k_xG3 : xG3 W := by
      rw [hW]
      exact (uxG3 rfl hI.2.2.2.2.2.2.2.2.2.2.2.2.2.2.2.2.2.1)
    have k_xG4 : xG4 W := by
      rw [hW]
      exact (uxG4 rfl hI.2.2.2.2.2.2.2.2.2.2.2.2.2.2.2.2.2.2.1)
    have k_xG5 : xG5 W := by
      rw [hW]
      exact (uxG5 rfl hI.2.2.2.2.2.2.2.2.2.2.2.2.2.2.2.2.2.2.2.1)
    have k_xG6 : xG6 W := by
      rw [hW]
      exact (uxG6 rfl hI.2.2.2.2.2.2.2.2.2.2.2.2.2.2.2.2.2.2.2.2.1)
    have k_xS1 : xS1 W := by
      rw [hW]
      exact (uxS1 rfl hI.2.2.2.2.2.2.2.2.2.2.2.2.2.2.2.2.2.2.2.2.2.1)
    have k_xS2 : xS2 W := by
      rw [hW]
      exact (uxS2 rfl hI.2.2.2.2.2.2.2.2.2.2.2.2.2.2.2.2.2.2.2.2.2.2.1)
    have k_xS3 : xS3 W := by
      rw [hW]
      exact (uxS3 rfl hI.2.2.2.2.2.2.2.2.2.2.2.2.2.2.2.2.2.2.2.2.2.2.2.1)
    have k_xS4 : xS4 W := by
      rw [hW]
      exact (uxS4 rfl hI.2.2.2.2.2.2.2.2.2.2.2.2.2.2.2.2.2.2.2.2.2.2.2.2.1)
    have k_xS5 : xS5 W := by
      rw [hW]
      exact (uxS5 rfl hI.2.2.2.2.2.2.2.2.2.2.2.2.2.2.2.2.2.2.2.2.2.2.2.2.2.1)
    have k_xS6 : xS6 W := by
      rw [hW]
      exact (uxS6 rfl hI.2.2.2.2.2.2.2.2.2.2.2.2.2.2.2.2.2.2.2.2.2.2.2.2.2.2.1)
    have k_xS7 : xS7 W := by
      rw [hW]
      exact (uxS7 rfl hI.2.2.2.2.2.2.2.2.2.2.2.2.2.2.2.2.2.2.2.2.2.2.2.2.2.2.2.1)
    have k_xS8 : xS8 W := by
      rw [hW]
      exact (uxS8 rfl hI.2.2.2.2.2.2.2.2.2.2.2.2.2.2.2.2.2.2.2.2.2.2.2.2.2.2.2.2.1)
    have k_xS9 : xS9 W := by
      rw [hW]
      exact (uxS9 rfl hI.2.2.2.2.2.2.2.2.2.2.2.2.2.2.2.2.2.2.2.2.2.2.2.2.2.2.2.2.2.1)
    have k_xSA : xSA W := by
      rw [hW]
      exact (uxSA rfl hI.2.2.2.2.2.2.2.2.2.2.2.2.2.2.2.2.2.2.2.2.2.2.2.2.2.2.2.2.2.2.1)
    have k_xSG : xSG W := by
      rw [hW]
      exact (uxSG rfl hI.2.2.2.2.2.2.2.2.2.2.2.2.2.2.2.2.2.2.2.2.2.2.2.2.2.2.2.2.2.2.2.1)
    have k_xSF : xSF W := by
      rw [hW]
      exact (uxSF rfl hI.2.2.2.2.2.2.2.2.2.2.2.2.2.2.2.2.2.2.2.2.2.2.2.2.2.2.2.2.2.2.2.2.1)
    have k_xSB : xSB W := by
      rw [hW]
      exact (uxSB rfl hI.2.2.2.2.2.2.2.2.2.2.2.2.2.2.2.2.2.2.2.2.2.2.2.2.2.2.2.2.2.2.2.2.2.1)
    have k_xSC : xSC W := by
      have r4_226 : W 4 226 = M 4 226 := by rw [hW, sU_ne (fun z => by omega)]
      have r4_227 : W 4 227 = 22 * ρ 0 + 0 := by rw [hW, sU_at]
      have r4_219 : W 4 219 = M 4 219 := by rw [hW, sU_ne (fun z => by omega)]
      intro h
      rw [r4_227, r4_219, h0]
      refine ⟨by omega, by omega, ?_⟩
      have e1 := tki_on (x := M 4 219) (w := 21) (show tLa[21]? = some (284870656 : Int) from rfl)
      rw [if_neg (by omega)] at e1
      rw [show M 4 227 = 21 by omega] at l3
      rw [← l3]
      exact e1.symm
    have k_xSD : xSD W := by
      rw [hW]
      exact (uxSD rfl hI.2.2.2.2.2.2.2.2.2.2.2.2.2.2.2.2.2.2.2.2.2.2.2.2.2.2.2.2.2.2.2.2.2.2.2.1)
    have k_xSE : xSE W := by
      rw [hW]
      exact (uxSE rfl hI.2.2.2.2.2.2.2.2.2.2.2.2.2.2.2.2.2.2.2.2.2.2.2.2.2.2.2.2.2.2.2.2.2.2.2.2.1)
    have k_xSW : xSW W := by
      rw [hW]
      exact (uxSW rfl hI.2.2.2.2.2.2.2.2.2.2.2.2.2.2.2.2.2.2.2.2.2.2.2.2.2.2.2.2.2.2.2.2.2.2.2.2.2.1)
    have k_xST : xST W := by
      rw [hW]
      exact (uxST rfl hI.2.2.2.2.2.2.2.2.2.2.2.2.2.2.2.2.2.2.2.2.2.2.2.2.2.2.2.2.2.2.2.2.2.2.2.2.2.2.1)
    have k_xSP : xSP W := by
      rw [hW]
      exact (uxSP rfl hI.2.2.2.2.2.2.2.2.2.2.2.2.2.2.2.2.2.2.2.2.2.2.2.2.2.2.2.2.2.2.2.2.2.2.2.2.2.2.2.1)
    have k_xSL : xSL W := by
      rw [hW]
      exact (uxSL rfl hI.2.2.2.2.2.2.2.2.2.2.2.2.2.2.2.2.2.2.2.2.2.2.2.2.2.2.2.2.2.2.2.2.2.2.2.2.2.2.2.2.1)
    have k_xSM : xSM W := by
      rw [hW]
      exact (uxSM rfl hI.2.2.2.2.2.2.2.2.2.2.2.2.2.2.2.2.2.2.2.2.2.2.2.2.2.2.2.2.2.2.2.2.2.2.2.2.2.2.2.2.2.1)
    have k_xSI : xSI W := by
      rw [hW]
      exact (uxSI rfl hI.2.2.2.2.2.2.2.2.2.2.2.2.2.2.2.2.2.2.2.2.2.2.2.2.2.2.2.2.2.2.2.2.2.2.2.2.2.2.2.2.2.2.1)
    have k_xD3 : xD3 W := by
      rw [hW]
      exact (uxD3 rfl hI.2.2.2.2.2.2.2.2.2.2.2.2.2.2.2.2.2.2.2.2.2.2.2.2.2.2.2.2.2.2.2.2.2.2.2.2.2.2.2.2.2.2.2.1)
    have k_xDV : xDV W := by
      rw [hW]
      exact (uxDV rfl hI.2.2.2.2.2.2.2.2.2.2.2.2.2.2.2.2.2.2.2.2.2.2.2.2.2.2.2.2.2.2.2.2.2.2.2.2.2.2.2.2.2.2.2.2.1)
    have k_xDP : xDP W := by
      rw [hW]
      exact (uxDP rfl hI.2.2.2.2.2.2.2.2.2.2.2.2.2.2.2.2.2.2.2.2.2.2.2.2.2.2.2.2.2.2.2.2.2.2.2.2.2.2.2.2.2.2.2.2.2.1)
    have k_xDE : xDE W := by
      rw [hW]
      exact (uxDE rfl hI.2.2.2.2.2.2.2.2.2.2.2.2.2.2.2.2.2.2.2.2.2.2.2.2.2.2.2.2.2.2.2.2.2.2.2.2.2.2.2.2.2.2.2.2.2.2.1)
    have k_xQ5 : xQ5 W := by
      rw [hW]
      exact (uxQ5 rfl hI.2.2.2.2.2.2.2.2.2.2.2.2.2.2.2.2.2.2.2.2.2.2.2.2.2.2.2.2.2.2.2.2.2.2.2.2.2.2.2.2.2.2.2.2.2.2.2.1)
    have k_xQL : xQL W := by
      rw [hW]
      exact (uxQL rfl hI.2.2.2.2.2.2.2.2.2.2.2.2.2.2.2.2.2.2.2.2.2.2.2.2.2.2.2.2.2.2.2.2.2.2.2.2.2.2.2.2.2.2.2.2.2.2.2.2.1)
    have k_xQW : xQW W := by
      rw [hW]
      exact (uxQW rfl hI.2.2.2.2.2.2.2.2.2.2.2.2.2.2.2.2.2.2.2.2.2.2.2.2.2.2.2.2.2.2.2.2.2.2.2.2.2.2.2.2.2.2.2.2.2.2.2.2.2.1)
    have k_xQM : xQM W := by
      rw [hW]
      exact (uxQM rfl hI.2.2.2.2.2.2.2.2.2.2.2.2.2.2.2.2.2.2.2.2.2.2.2.2.2.2.2.2.2.2.2.2.2.2.2.2.2.2.2.2.2.2.2.2.2.2.2.2.2.2.1)
    have k_xQH : xQH W := by
      rw [hW]
      exact (uxQH rfl hI.2.2.2.2.2.2.2.2.2.2.2.2.2.2.2.2.2.2.2.2.2.2.2.2.2.2.2.2.2.2.2.2.2.2.2.2.2.2.2.2.2.2.2.2.2.2.2.2.2.2.2)
    have k_XC : XC W := ⟨k_xS1, k_xS2, k_xS3, k_xS4, k_xS5, k_xS6, k_xS7, k_xS8, k_xS9, k_xSA, k_xSG, k_xSF, k_xSB, k_xSC, k_xSD, k_xSE, k_xSW, k_xST, k_xSP, k_xSL, k_xSM, k_xSI, k_xD3, k_xDV, k_xDP, k_xDE, k_xQ5, k_xQL, k_xQW, k_xQM, k_xQH⟩
    have kXB : XB W := ⟨k_xN1, k_xN2, k_xN3, k_xN4, k_xN5, k_xN6, k_xH1, k_xK1, k_xC1, k_xRW, k_xWT, k_xCU, k_xG2, k_xG3, k_xG4, k_xG5, k_xG6, k_XC⟩
    exact ⟨base, k2, k3, kXA, kXB⟩
-- wHitR22_c
def xr_484 : qRu := (13, [[(-1, 0), (1, 5)], [(1, 1)], [(-1, 1), (1, 9)], [(1, 1), (-1, 9)], [(-1, 0), (-1, 1), (1, 10)], [(6, 0), (1, 9), (-1, 10)], [(-257544192, 0), (1, 11)], [(257544192, 0), (-1, 11)]], [(4, 210, [(1, 0)]), (4, 211, [(1, 1)]), (4, 101, [(1, 2)]), (3, 46, [(1, 3)]), (3, 47, [(1, 4)]), (4, 100, [(1, 5)]), (3, 44, [(1, 6)]), (3, 45, [(1, 7)]), (4, 107, [(1, 8)]), (4, 214, [(1, 0)]), (4, 215, [(1, 9)]), (4, 217, [(1, 10)]), (4, 219, [(1, 11)]), (4, 216, [(1, 12)])], [], [], [[(-1, 1), (1, 3)], [(1, 1), (-1, 3)], [(1, 4), (-1, 10)], [(-1, 4), (1, 10)], [(-40, 0), (1, 6)], [(40, 0), (-1, 6)], [(1, 7), (-1, 11)], [(-1, 7), (1, 11)]])
theorem xo_484 : qRok xr_484 := by
  intro ρ M h0 hf hm hI
  have f0 := hf [(-1, 0), (1, 5)] (by decide)
  have f1 := hf [(1, 1)] (by decide)
  have f2 := hf [(-1, 1), (1, 9)] (by decide)
  have f3 := hf [(1, 1), (-1, 9)] (by decide)
  have f4 := hf [(-1, 0), (-1, 1), (1, 10)] (by decide)
  have f5 := hf [(6, 0), (1, 9), (-1, 10)] (by decide)
  have f6 := hf [(-257544192, 0), (1, 11)] (by decide)
  have f7 := hf [(257544192, 0), (-1, 11)] (by decide)
  simp only [qD, h0] at f0 f1 f2 f3 f4 f5 f6 f7
  have m0 : M 4 210 = 1 * ρ 0 + 0 := hm (4, 210, [(1, 0)]) (by decide)
  have m1 : M 4 211 = 1 * ρ 1 + 0 := hm (4, 211, [(1, 1)]) (by decide)
  have m2 : M 4 101 = 1 * ρ 2 + 0 := hm (4, 101, [(1, 2)]) (by decide)
  have m3 : M 3 46 = 1 * ρ 3 + 0 := hm (3, 46, [(1, 3)]) (by decide)
  have m4 : M 3 47 = 1 * ρ 4 + 0 := hm (3, 47, [(1, 4)]) (by decide)
  have m5 : M 4 100 = 1 * ρ 5 + 0 := hm (4, 100, [(1, 5)]) (by decide)
  have m6 : M 3 44 = 1 * ρ 6 + 0 := hm (3, 44, [(1, 6)]) (by decide)
  have m7 : M 3 45 = 1 * ρ 7 + 0 := hm (3, 45, [(1, 7)]) (by decide)
  have m8 : M 4 107 = 1 * ρ 8 + 0 := hm (4, 107, [(1, 8)]) (by decide)
  have m9 : M 4 214 = 1 * ρ 0 + 0 := hm (4, 214, [(1, 0)]) (by decide)
  have m10 : M 4 215 = 1 * ρ 9 + 0 := hm (4, 215, [(1, 9)]) (by decide)
  have m11 : M 4 217 = 1 * ρ 10 + 0 := hm (4, 217, [(1, 10)]) (by decide)
  have m12 : M 4 219 = 1 * ρ 11 + 0 := hm (4, 219, [(1, 11)]) (by decide)
  have m13 : M 4 216 = 1 * ρ 12 + 0 := hm (4, 216, [(1, 12)]) (by decide)
  simp only [h0] at m0 m9
  obtain ⟨u1, u2, _⟩ := gx_xS8 hI (by omega)

  obtain ⟨a1, a2, a3, a4, a5, a6, a7⟩ := gx_xSA hI (by omega)
  have eq1 : (M 4 215).toNat = (M 4 211).toNat := by omega
  rw [eq1] at a6 a7
  have hgt := ten_gt (g := M 92) (lo := 97) (hi := 122) (n := (M 4 101).toNat) (q := (M 4 211).toNat) (by omega)
  have el1 : (M 4 217 - M 4 215).toNat = tEn (M 92) 97 122 (M 4 101).toNat (M 4 211).toNat - (M 4 211).toNat := by omega
  rw [el1] at a7

  obtain ⟨t1, t2, t3, t4, t5, t6⟩ := tk_of hI (by omega) (by omega) (by omega) (show tAt (M 92) (M 4 101).toNat (M 4 211).toNat (M 4 107) (M 4 108) = (40, M 4 219, ((M 4 211).toNat : Int), M 4 217, 0, 22) from by
    unfold tAt
    rw [if_neg (by omega), if_pos hgt.2]
    unfold tWo
    rw [← a7, ← a6]
    have hk : tKi (M 4 219) 0 = 40 := by
      rw [show M 4 219 = 257544192 by omega]
      decide
    have h6 : ¬ (6 < tEn (M 92) 97 122 (M 4 101).toNat (M 4 211).toNat - (M 4 211).toNat) := by omega
    unfold tWk tWs tWv
    rw [if_neg h6, if_neg h6, if_neg h6, hk]
    rfl)
  refine ⟨ρ, fun _ _ => rfl, fun f h => ?_, ?_⟩
  · have h : f ∈ ([[(-1, 1), (1, 3)], [(1, 1), (-1, 3)], [(1, 4), (-1, 10)], [(-1, 4), (1, 10)], [(-40, 0), (1, 6)], [(40, 0), (-1, 6)], [(1, 7), (-1, 11)], [(-1, 7), (1, 11)]] : List qF) := h
    simp only [List.mem_cons, List.not_mem_nil, or_false] at h
    rcases h with rfl | rfl | rfl | rfl | rfl | rfl | rfl | rfl
    · show 0 ≤ -1 * ρ 1 + (1 * ρ 3 + 0)
      (try rw [h0]); omega
    · show 0 ≤ 1 * ρ 1 + (-1 * ρ 3 + 0)
      (try rw [h0]); omega
    · show 0 ≤ 1 * ρ 4 + (-1 * ρ 10 + 0)
      (try rw [h0]); omega
    · show 0 ≤ -1 * ρ 4 + (1 * ρ 10 + 0)
      (try rw [h0]); omega
    · show 0 ≤ -40 * ρ 0 + (1 * ρ 6 + 0)
      (try rw [h0]); omega
    · show 0 ≤ 40 * ρ 0 + (-1 * ρ 6 + 0)
      (try rw [h0]); omega
    · show 0 ≤ 1 * ρ 7 + (-1 * ρ 11 + 0)
      (try rw [h0]); omega
    · show 0 ≤ -1 * ρ 7 + (1 * ρ 11 + 0)
      (try rw [h0]); omega
  · show sI M
    exact hI
-- wHitR22_r
def xr_485 : qRu := (13, [[(-1, 0), (1, 5)], [(1, 1)], [(-1, 1), (1, 9)], [(1, 1), (-1, 9)], [(-1, 0), (-1, 1), (1, 10)], [(6, 0), (1, 9), (-1, 10)], [(-257544192, 0), (1, 11)], [(257544192, 0), (-1, 11)]], [(4, 210, [(1, 0)]), (4, 211, [(1, 1)]), (4, 101, [(1, 2)]), (3, 46, [(1, 3)]), (3, 47, [(1, 4)]), (4, 100, [(1, 5)]), (3, 50, [(1, 6)]), (3, 51, [(1, 7)]), (4, 108, [(1, 8)]), (4, 214, [(1, 0)]), (4, 215, [(1, 9)]), (4, 217, [(1, 10)]), (4, 219, [(1, 11)]), (4, 216, [(1, 12)])], [], [], [[(-1, 1), (1, 3)], [(1, 1), (-1, 3)], [(1, 4), (-1, 10)], [(-1, 4), (1, 10)], [(1, 6)], [(-1, 6)], [(-22, 0), (1, 7)], [(22, 0), (-1, 7)]])
theorem xo_485 : qRok xr_485 := by
  intro ρ M h0 hf hm hI
  have f0 := hf [(-1, 0), (1, 5)] (by decide)
  have f1 := hf [(1, 1)] (by decide)
  have f2 := hf [(-1, 1), (1, 9)] (by decide)
  have f3 := hf [(1, 1), (-1, 9)] (by decide)
  have f4 := hf [(-1, 0), (-1, 1), (1, 10)] (by decide)
  have f5 := hf [(6, 0), (1, 9), (-1, 10)] (by decide)
  have f6 := hf [(-257544192, 0), (1, 11)] (by decide)
  have f7 := hf [(257544192, 0), (-1, 11)] (by decide)
  simp only [qD, h0] at f0 f1 f2 f3 f4 f5 f6 f7
  have m0 : M 4 210 = 1 * ρ 0 + 0 := hm (4, 210, [(1, 0)]) (by decide)
  have m1 : M 4 211 = 1 * ρ 1 + 0 := hm (4, 211, [(1, 1)]) (by decide)
  have m2 : M 4 101 = 1 * ρ 2 + 0 := hm (4, 101, [(1, 2)]) (by decide)
  have m3 : M 3 46 = 1 * ρ 3 + 0 := hm (3, 46, [(1, 3)]) (by decide)
  have m4 : M 3 47 = 1 * ρ 4 + 0 := hm (3, 47, [(1, 4)]) (by decide)
  have m5 : M 4 100 = 1 * ρ 5 + 0 := hm (4, 100, [(1, 5)]) (by decide)
  have m6 : M 3 50 = 1 * ρ 6 + 0 := hm (3, 50, [(1, 6)]) (by decide)
  have m7 : M 3 51 = 1 * ρ 7 + 0 := hm (3, 51, [(1, 7)]) (by decide)
  have m8 : M 4 108 = 1 * ρ 8 + 0 := hm (4, 108, [(1, 8)]) (by decide)
  have m9 : M 4 214 = 1 * ρ 0 + 0 := hm (4, 214, [(1, 0)]) (by decide)
  have m10 : M 4 215 = 1 * ρ 9 + 0 := hm (4, 215, [(1, 9)]) (by decide)
  have m11 : M 4 217 = 1 * ρ 10 + 0 := hm (4, 217, [(1, 10)]) (by decide)
  have m12 : M 4 219 = 1 * ρ 11 + 0 := hm (4, 219, [(1, 11)]) (by decide)
  have m13 : M 4 216 = 1 * ρ 12 + 0 := hm (4, 216, [(1, 12)]) (by decide)
  simp only [h0] at m0 m9
  obtain ⟨u1, u2, _⟩ := gx_xS8 hI (by omega)

  obtain ⟨a1, a2, a3, a4, a5, a6, a7⟩ := gx_xSA hI (by omega)
  have eq1 : (M 4 215).toNat = (M 4 211).toNat := by omega
  rw [eq1] at a6 a7
  have hgt := ten_gt (g := M 92) (lo := 97) (hi := 122) (n := (M 4 101).toNat) (q := (M 4 211).toNat) (by omega)
  have el1 : (M 4 217 - M 4 215).toNat = tEn (M 92) 97 122 (M 4 101).toNat (M 4 211).toNat - (M 4 211).toNat := by omega
  rw [el1] at a7

  obtain ⟨t1, t2, t3, t4, t5, t6⟩ := tk_of hI (by omega) (by omega) (by omega) (show tAt (M 92) (M 4 101).toNat (M 4 211).toNat (M 4 107) (M 4 108) = (40, M 4 219, ((M 4 211).toNat : Int), M 4 217, 0, 22) from by
    unfold tAt
    rw [if_neg (by omega), if_pos hgt.2]
    unfold tWo
    rw [← a7, ← a6]
    have hk : tKi (M 4 219) 0 = 40 := by
      rw [show M 4 219 = 257544192 by omega]
      decide
    have h6 : ¬ (6 < tEn (M 92) 97 122 (M 4 101).toNat (M 4 211).toNat - (M 4 211).toNat) := by omega
    unfold tWk tWs tWv
    rw [if_neg h6, if_neg h6, if_neg h6, hk]
    rfl)
  refine ⟨ρ, fun _ _ => rfl, fun f h => ?_, ?_⟩
  · have h : f ∈ ([[(-1, 1), (1, 3)], [(1, 1), (-1, 3)], [(1, 4), (-1, 10)], [(-1, 4), (1, 10)], [(1, 6)], [(-1, 6)], [(-22, 0), (1, 7)], [(22, 0), (-1, 7)]] : List qF) := h
    simp only [List.mem_cons, List.not_mem_nil, or_false] at h
    rcases h with rfl | rfl | rfl | rfl | rfl | rfl | rfl | rfl
    · show 0 ≤ -1 * ρ 1 + (1 * ρ 3 + 0)
      (try rw [h0]); omega
    · show 0 ≤ 1 * ρ 1 + (-1 * ρ 3 + 0)
      (try rw [h0]); omega
    · show 0 ≤ 1 * ρ 4 + (-1 * ρ 10 + 0)
      (try rw [h0]); omega
    · show 0 ≤ -1 * ρ 4 + (1 * ρ 10 + 0)
      (try rw [h0]); omega
    · show 0 ≤ 1 * ρ 6 + 0
      (try rw [h0]); omega
    · show 0 ≤ -1 * ρ 6 + 0
      (try rw [h0]); omega
    · show 0 ≤ -22 * ρ 0 + (1 * ρ 7 + 0)
      (try rw [h0]); omega
    · show 0 ≤ 22 * ρ 0 + (-1 * ρ 7 + 0)
      (try rw [h0]); omega
  · show sI M
    exact hI
-- langMissR22L
def xr_486 : qRu := (3, [[(257544191, 0), (-1, 2)]], [(4, 226, [(1, 0)]), (4, 227, [(22, 0)]), (4, 219, [(1, 2)])], [], [(4, 227, [(23, 0)])], [])
theorem xo_486 : qRok xr_486 := by
  intro ρ M h0 hf hm hI
  have f0 := hf [(257544191, 0), (-1, 2)] (by decide)
  simp only [qD, h0] at f0
  have m0 : M 4 226 = 1 * ρ 0 + 0 := hm (4, 226, [(1, 0)]) (by decide)
  have m1 : M 4 227 = 22 * ρ 0 + 0 := hm (4, 227, [(22, 0)]) (by decide)
  have m2 : M 4 219 = 1 * ρ 2 + 0 := hm (4, 219, [(1, 2)]) (by decide)
  simp only [h0] at m0 m1
  have qxSC := hI.2.2.2.2.2.2.2.2.2.2.2.2.2.2.2.2.2.2.2.2.2.2.2.2.2.2.2.2.2.2.2.2.2.2.1
  obtain ⟨l1, l2, l3⟩ := gx_xSC hI (by omega)
  refine ⟨ρ, fun _ _ => rfl, fun f h => ?_, ?_⟩
  · exact nomatch h
  · show sI (sU M 4 227 (23 * ρ 0 + 0))
    obtain ⟨W, hW⟩ : ∃ W, W = (sU M 4 227 (23 * ρ 0 + 0)) := ⟨_, rfl⟩
    rw [← hW]
    have base : sI0 W := by
      rw [hW]
      exact (si_u0 hI.1 (fun r hr => by cases hr))
    have k2 : XI2 W := by
      rw [hW]
      exact (xi2_u rfl hI.2.1)
    have k3 : XI3 W := by
      rw [hW]
      exact (xi3_u rfl hI.2.2.1)
    have kXA : XA W := by
      rw [hW]
      exact (uXA rfl hI.2.2.2.1)
    have k_xN1 : xN1 W := by
      rw [hW]
      exact (uxN1 rfl hI.2.2.2.2.1)
    have k_xN2 : xN2 W := by
      rw [hW]
      exact (uxN2 rfl hI.2.2.2.2.2.1)
    have k_xN3 : xN3 W := by
      rw [hW]
      exact (uxN3 rfl hI.2.2.2.2.2.2.1)
    have k_xN4 : xN4 W := by
      rw [hW]
      exact (uxN4 rfl hI.2.2.2.2.2.2.2.1)
    have k_xN5 : xN5 W := by
      rw [hW]
      exact (uxN5 rfl hI.2.2.2.2.2.2.2.2.1)
    have k_xN6 : xN6 W := by
      rw [hW]
      exact (uxN6 rfl hI.2.2.2.2.2.2.2.2.2.1)
    have k_xH1 : xH1 W := by
      rw [hW]
      exact (uxH1 rfl hI.2.2.2.2.2.2.2.2.2.2.1)
    have k_xK1 : xK1 W := by
      rw [hW]
      exact (uxK1 rfl hI.2.2.2.2.2.2.2.2.2.2.2.1)
    have k_xC1 : xC1 W := by
      rw [hW]
      exact (uxC1 rfl hI.2.2.2.2.2.2.2.2.2.2.2.2.1)
    have k_xRW : xRW W := by
      rw [hW]
      exact (uxRW rfl hI.2.2.2.2.2.2.2.2.2.2.2.2.2.1)
    have k_xWT : xWT W := by
      rw [hW]
      exact (uxWT rfl hI.2.2.2.2.2.2.2.2.2.2.2.2.2.2.1)
    have k_xCU : xCU W := by
      rw [hW]
      exact (uxCU rfl hI.2.2.2.2.2.2.2.2.2.2.2.2.2.2.2.1)
    have k_xG2 : xG2 W := by
      rw [hW]
      exact (uxG2 rfl hI.2.2.2.2.2.2.2.2.2.2.2.2.2.2.2.2.1)
    have k_xG3 : xG3 W := by
      rw [hW]
      exact (uxG3 rfl hI.2.2.2.2.2.2.2.2.2.2.2.2.2.2.2.2.2.1)
    have k_xG4 : xG4 W := by
      rw [hW]
      exact (uxG4 rfl hI.2.2.2.2.2.2.2.2.2.2.2.2.2.2.2.2.2.2.1)
    have k_xG5 : xG5 W := by
      rw [hW]
      exact (uxG5 rfl hI.2.2.2.2.2.2.2.2.2.2.2.2.2.2.2.2.2.2.2.1)
    have k_xG6 : xG6 W := by
      rw [hW]
      exact (uxG6 rfl hI.2.2.2.2.2.2.2.2.2.2.2.2.2.2.2.2.2.2.2.2.1)
    have k_xS1 : xS1 W := by
      rw [hW]
      exact (uxS1 rfl hI.2.2.2.2.2.2.2.2.2.2.2.2.2.2.2.2.2.2.2.2.2.1)
    have k_xS2 : xS2 W := by
      rw [hW]
      exact (uxS2 rfl hI.2.2.2.2.2.2.2.2.2.2.2.2.2.2.2.2.2.2.2.2.2.2.1)
    have k_xS3 : xS3 W := by
      rw [hW]
      exact (uxS3 rfl hI.2.2.2.2.2.2.2.2.2.2.2.2.2.2.2.2.2.2.2.2.2.2.2.1)
    have k_xS4 : xS4 W := by
      rw [hW]
      exact (uxS4 rfl hI.2.2.2.2.2.2.2.2.2.2.2.2.2.2.2.2.2.2.2.2.2.2.2.2.1)
    have k_xS5 : xS5 W := by
      rw [hW]
      exact (uxS5 rfl hI.2.2.2.2.2.2.2.2.2.2.2.2.2.2.2.2.2.2.2.2.2.2.2.2.2.1)
    have k_xS6 : xS6 W := by
      rw [hW]
      exact (uxS6 rfl hI.2.2.2.2.2.2.2.2.2.2.2.2.2.2.2.2.2.2.2.2.2.2.2.2.2.2.1)
    have k_xS7 : xS7 W := by
      rw [hW]
      exact (uxS7 rfl hI.2.2.2.2.2.2.2.2.2.2.2.2.2.2.2.2.2.2.2.2.2.2.2.2.2.2.2.1)
    have k_xS8 : xS8 W := by
      rw [hW]
      exact (uxS8 rfl hI.2.2.2.2.2.2.2.2.2.2.2.2.2.2.2.2.2.2.2.2.2.2.2.2.2.2.2.2.1)
    have k_xS9 : xS9 W := by
      rw [hW]
      exact (uxS9 rfl hI.2.2.2.2.2.2.2.2.2.2.2.2.2.2.2.2.2.2.2.2.2.2.2.2.2.2.2.2.2.1)
    have k_xSA : xSA W := by
      rw [hW]
      exact (uxSA rfl hI.2.2.2.2.2.2.2.2.2.2.2.2.2.2.2.2.2.2.2.2.2.2.2.2.2.2.2.2.2.2.1)
    have k_xSG : xSG W := by
      rw [hW]
      exact (uxSG rfl hI.2.2.2.2.2.2.2.2.2.2.2.2.2.2.2.2.2.2.2.2.2.2.2.2.2.2.2.2.2.2.2.1)
    have k_xSF : xSF W := by
      rw [hW]
      exact (uxSF rfl hI.2.2.2.2.2.2.2.2.2.2.2.2.2.2.2.2.2.2.2.2.2.2.2.2.2.2.2.2.2.2.2.2.1)
    have k_xSB : xSB W := by
      rw [hW]
      exact (uxSB rfl hI.2.2.2.2.2.2.2.2.2.2.2.2.2.2.2.2.2.2.2.2.2.2.2.2.2.2.2.2.2.2.2.2.2.1)
    have k_xSC : xSC W := by
      have r4_226 : W 4 226 = M 4 226 := by rw [hW, sU_ne (fun z => by omega)]
      have r4_227 : W 4 227 = 23 * ρ 0 + 0 := by rw [hW, sU_at]
      have r4_219 : W 4 219 = M 4 219 := by rw [hW, sU_ne (fun z => by omega)]
      intro h
      rw [r4_227, r4_219, h0]
      refine ⟨by omega, by omega, ?_⟩
      have e1 := tki_on (x := M 4 219) (w := 22) (show tLa[22]? = some (257544192 : Int) from rfl)
      rw [if_neg (by omega)] at e1
      rw [show M 4 227 = 22 by omega] at l3
      rw [← l3]
      exact e1.symm
    have k_xSD : xSD W := by
      rw [hW]
      exact (uxSD rfl hI.2.2.2.2.2.2.2.2.2.2.2.2.2.2.2.2.2.2.2.2.2.2.2.2.2.2.2.2.2.2.2.2.2.2.2.1)
    have k_xSE : xSE W := by
      rw [hW]
      exact (uxSE rfl hI.2.2.2.2.2.2.2.2.2.2.2.2.2.2.2.2.2.2.2.2.2.2.2.2.2.2.2.2.2.2.2.2.2.2.2.2.1)
    have k_xSW : xSW W := by
      rw [hW]
      exact (uxSW rfl hI.2.2.2.2.2.2.2.2.2.2.2.2.2.2.2.2.2.2.2.2.2.2.2.2.2.2.2.2.2.2.2.2.2.2.2.2.2.1)
    have k_xST : xST W := by
      rw [hW]
      exact (uxST rfl hI.2.2.2.2.2.2.2.2.2.2.2.2.2.2.2.2.2.2.2.2.2.2.2.2.2.2.2.2.2.2.2.2.2.2.2.2.2.2.1)
    have k_xSP : xSP W := by
      rw [hW]
      exact (uxSP rfl hI.2.2.2.2.2.2.2.2.2.2.2.2.2.2.2.2.2.2.2.2.2.2.2.2.2.2.2.2.2.2.2.2.2.2.2.2.2.2.2.1)
    have k_xSL : xSL W := by
      rw [hW]
      exact (uxSL rfl hI.2.2.2.2.2.2.2.2.2.2.2.2.2.2.2.2.2.2.2.2.2.2.2.2.2.2.2.2.2.2.2.2.2.2.2.2.2.2.2.2.1)
    have k_xSM : xSM W := by
      rw [hW]
      exact (uxSM rfl hI.2.2.2.2.2.2.2.2.2.2.2.2.2.2.2.2.2.2.2.2.2.2.2.2.2.2.2.2.2.2.2.2.2.2.2.2.2.2.2.2.2.1)
    have k_xSI : xSI W := by
      rw [hW]
      exact (uxSI rfl hI.2.2.2.2.2.2.2.2.2.2.2.2.2.2.2.2.2.2.2.2.2.2.2.2.2.2.2.2.2.2.2.2.2.2.2.2.2.2.2.2.2.2.1)
    have k_xD3 : xD3 W := by
      rw [hW]
      exact (uxD3 rfl hI.2.2.2.2.2.2.2.2.2.2.2.2.2.2.2.2.2.2.2.2.2.2.2.2.2.2.2.2.2.2.2.2.2.2.2.2.2.2.2.2.2.2.2.1)
    have k_xDV : xDV W := by
      rw [hW]
      exact (uxDV rfl hI.2.2.2.2.2.2.2.2.2.2.2.2.2.2.2.2.2.2.2.2.2.2.2.2.2.2.2.2.2.2.2.2.2.2.2.2.2.2.2.2.2.2.2.2.1)
    have k_xDP : xDP W := by
      rw [hW]
      exact (uxDP rfl hI.2.2.2.2.2.2.2.2.2.2.2.2.2.2.2.2.2.2.2.2.2.2.2.2.2.2.2.2.2.2.2.2.2.2.2.2.2.2.2.2.2.2.2.2.2.1)
    have k_xDE : xDE W := by
      rw [hW]
      exact (uxDE rfl hI.2.2.2.2.2.2.2.2.2.2.2.2.2.2.2.2.2.2.2.2.2.2.2.2.2.2.2.2.2.2.2.2.2.2.2.2.2.2.2.2.2.2.2.2.2.2.1)
    have k_xQ5 : xQ5 W := by
      rw [hW]
      exact (uxQ5 rfl hI.2.2.2.2.2.2.2.2.2.2.2.2.2.2.2.2.2.2.2.2.2.2.2.2.2.2.2.2.2.2.2.2.2.2.2.2.2.2.2.2.2.2.2.2.2.2.2.1)
    have k_xQL : xQL W := by
      rw [hW]
      exact (uxQL rfl hI.2.2.2.2.2.2.2.2.2.2.2.2.2.2.2.2.2.2.2.2.2.2.2.2.2.2.2.2.2.2.2.2.2.2.2.2.2.2.2.2.2.2.2.2.2.2.2.2.1)
    have k_xQW : xQW W := by
      rw [hW]
      exact (uxQW rfl hI.2.2.2.2.2.2.2.2.2.2.2.2.2.2.2.2.2.2.2.2.2.2.2.2.2.2.2.2.2.2.2.2.2.2.2.2.2.2.2.2.2.2.2.2.2.2.2.2.2.1)
    have k_xQM : xQM W := by
      rw [hW]
      exact (uxQM rfl hI.2.2.2.2.2.2.2.2.2.2.2.2.2.2.2.2.2.2.2.2.2.2.2.2.2.2.2.2.2.2.2.2.2.2.2.2.2.2.2.2.2.2.2.2.2.2.2.2.2.2.1)
    have k_xQH : xQH W := by
      rw [hW]
      exact (uxQH rfl hI.2.2.2.2.2.2.2.2.2.2.2.2.2.2.2.2.2.2.2.2.2.2.2.2.2.2.2.2.2.2.2.2.2.2.2.2.2.2.2.2.2.2.2.2.2.2.2.2.2.2.2)
    have k_XC : XC W := ⟨k_xS1, k_xS2, k_xS3, k_xS4, k_xS5, k_xS6, k_xS7, k_xS8, k_xS9, k_xSA, k_xSG, k_xSF, k_xSB, k_xSC, k_xSD, k_xSE, k_xSW, k_xST, k_xSP, k_xSL, k_xSM, k_xSI, k_xD3, k_xDV, k_xDP, k_xDE, k_xQ5, k_xQL, k_xQW, k_xQM, k_xQH⟩
    have kXB : XB W := ⟨k_xN1, k_xN2, k_xN3, k_xN4, k_xN5, k_xN6, k_xH1, k_xK1, k_xC1, k_xRW, k_xWT, k_xCU, k_xG2, k_xG3, k_xG4, k_xG5, k_xG6, k_XC⟩
    exact ⟨base, k2, k3, kXA, kXB⟩
-- langMissR22H
def xr_487 : qRu := (3, [[(-257544193, 0), (1, 2)]], [(4, 226, [(1, 0)]), (4, 227, [(22, 0)]), (4, 219, [(1, 2)])], [], [(4, 227, [(23, 0)])], [])
theorem xo_487 : qRok xr_487 := by
  intro ρ M h0 hf hm hI
  have f0 := hf [(-257544193, 0), (1, 2)] (by decide)
  simp only [qD, h0] at f0
  have m0 : M 4 226 = 1 * ρ 0 + 0 := hm (4, 226, [(1, 0)]) (by decide)
  have m1 : M 4 227 = 22 * ρ 0 + 0 := hm (4, 227, [(22, 0)]) (by decide)
  have m2 : M 4 219 = 1 * ρ 2 + 0 := hm (4, 219, [(1, 2)]) (by decide)
  simp only [h0] at m0 m1
  have qxSC := hI.2.2.2.2.2.2.2.2.2.2.2.2.2.2.2.2.2.2.2.2.2.2.2.2.2.2.2.2.2.2.2.2.2.2.1
  obtain ⟨l1, l2, l3⟩ := gx_xSC hI (by omega)
  refine ⟨ρ, fun _ _ => rfl, fun f h => ?_, ?_⟩
  · exact nomatch h
  · show sI (sU M 4 227 (23 * ρ 0 + 0))
    obtain ⟨W, hW⟩ : ∃ W, W = (sU M 4 227 (23 * ρ 0 + 0)) := ⟨_, rfl⟩
    rw [← hW]
    have base : sI0 W := by
      rw [hW]
      exact (si_u0 hI.1 (fun r hr => by cases hr))
    have k2 : XI2 W := by
      rw [hW]
      exact (xi2_u rfl hI.2.1)
    have k3 : XI3 W := by
      rw [hW]
      exact (xi3_u rfl hI.2.2.1)
    have kXA : XA W := by
      rw [hW]
      exact (uXA rfl hI.2.2.2.1)
    have k_xN1 : xN1 W := by
      rw [hW]
      exact (uxN1 rfl hI.2.2.2.2.1)
    have k_xN2 : xN2 W := by
      rw [hW]
      exact (uxN2 rfl hI.2.2.2.2.2.1)
    have k_xN3 : xN3 W := by
      rw [hW]
      exact (uxN3 rfl hI.2.2.2.2.2.2.1)
    have k_xN4 : xN4 W := by
      rw [hW]
      exact (uxN4 rfl hI.2.2.2.2.2.2.2.1)
    have k_xN5 : xN5 W := by
      rw [hW]
      exact (uxN5 rfl hI.2.2.2.2.2.2.2.2.1)
    have k_xN6 : xN6 W := by
      rw [hW]
      exact (uxN6 rfl hI.2.2.2.2.2.2.2.2.2.1)
    have k_xH1 : xH1 W := by
      rw [hW]
      exact (uxH1 rfl hI.2.2.2.2.2.2.2.2.2.2.1)
    have k_xK1 : xK1 W := by
      rw [hW]
      exact (uxK1 rfl hI.2.2.2.2.2.2.2.2.2.2.2.1)
    have k_xC1 : xC1 W := by
      rw [hW]
      exact (uxC1 rfl hI.2.2.2.2.2.2.2.2.2.2.2.2.1)
    have k_xRW : xRW W := by
      rw [hW]
      exact (uxRW rfl hI.2.2.2.2.2.2.2.2.2.2.2.2.2.1)
    have k_xWT : xWT W := by
      rw [hW]
      exact (uxWT rfl hI.2.2.2.2.2.2.2.2.2.2.2.2.2.2.1)
    have k_xCU : xCU W := by
      rw [hW]
      exact (uxCU rfl hI.2.2.2.2.2.2.2.2.2.2.2.2.2.2.2.1)
    have k_xG2 : xG2 W := by
      rw [hW]
      exact (uxG2 rfl hI.2.2.2.2.2.2.2.2.2.2.2.2.2.2.2.2.1)
    have k_xG3 : xG3 W := by
      rw [hW]
      exact (uxG3 rfl hI.2.2.2.2.2.2.2.2.2.2.2.2.2.2.2.2.2.1)
    have k_xG4 : xG4 W := by
      rw [hW]
      exact (uxG4 rfl hI.2.2.2.2.2.2.2.2.2.2.2.2.2.2.2.2.2.2.1)
    have k_xG5 : xG5 W := by
      rw [hW]
      exact (uxG5 rfl hI.2.2.2.2.2.2.2.2.2.2.2.2.2.2.2.2.2.2.2.1)
    have k_xG6 : xG6 W := by
      rw [hW]
      exact (uxG6 rfl hI.2.2.2.2.2.2.2.2.2.2.2.2.2.2.2.2.2.2.2.2.1)
    have k_xS1 : xS1 W := by
      rw [hW]
      exact (uxS1 rfl hI.2.2.2.2.2.2.2.2.2.2.2.2.2.2.2.2.2.2.2.2.2.1)
    have k_xS2 : xS2 W := by
      rw [hW]
      exact (uxS2 rfl hI.2.2.2.2.2.2.2.2.2.2.2.2.2.2.2.2.2.2.2.2.2.2.1)
    have k_xS3 : xS3 W := by
      rw [hW]
      exact (uxS3 rfl hI.2.2.2.2.2.2.2.2.2.2.2.2.2.2.2.2.2.2.2.2.2.2.2.1)
    have k_xS4 : xS4 W := by
      rw [hW]
      exact (uxS4 rfl hI.2.2.2.2.2.2.2.2.2.2.2.2.2.2.2.2.2.2.2.2.2.2.2.2.1)
    have k_xS5 : xS5 W := by
      rw [hW]
      exact (uxS5 rfl hI.2.2.2.2.2.2.2.2.2.2.2.2.2.2.2.2.2.2.2.2.2.2.2.2.2.1)
    have k_xS6 : xS6 W := by
      rw [hW]
      exact (uxS6 rfl hI.2.2.2.2.2.2.2.2.2.2.2.2.2.2.2.2.2.2.2.2.2.2.2.2.2.2.1)
    have k_xS7 : xS7 W := by
      rw [hW]
      exact (uxS7 rfl hI.2.2.2.2.2.2.2.2.2.2.2.2.2.2.2.2.2.2.2.2.2.2.2.2.2.2.2.1)
    have k_xS8 : xS8 W := by
      rw [hW]
      exact (uxS8 rfl hI.2.2.2.2.2.2.2.2.2.2.2.2.2.2.2.2.2.2.2.2.2.2.2.2.2.2.2.2.1)
    have k_xS9 : xS9 W := by
      rw [hW]
      exact (uxS9 rfl hI.2.2.2.2.2.2.2.2.2.2.2.2.2.2.2.2.2.2.2.2.2.2.2.2.2.2.2.2.2.1)
    have k_xSA : xSA W := by
      rw [hW]
      exact (uxSA rfl hI.2.2.2.2.2.2.2.2.2.2.2.2.2.2.2.2.2.2.2.2.2.2.2.2.2.2.2.2.2.2.1)
    have k_xSG : xSG W := by
      rw [hW]
      exact (uxSG rfl hI.2.2.2.2.2.2.2.2.2.2.2.2.2.2.2.2.2.2.2.2.2.2.2.2.2.2.2.2.2.2.2.1)
    have k_xSF : xSF W := by
      rw [hW]
      exact (uxSF rfl hI.2.2.2.2.2.2.2.2.2.2.2.2.2.2.2.2.2.2.2.2.2.2.2.2.2.2.2.2.2.2.2.2.1)
    have k_xSB : xSB W := by
      rw [hW]
      exact (uxSB rfl hI.2.2.2.2.2.2.2.2.2.2.2.2.2.2.2.2.2.2.2.2.2.2.2.2.2.2.2.2.2.2.2.2.2.1)
    have k_xSC : xSC W := by
      have r4_226 : W 4 226 = M 4 226 := by rw [hW, sU_ne (fun z => by omega)]
      have r4_227 : W 4 227 = 23 * ρ 0 + 0 := by rw [hW, sU_at]
      have r4_219 : W 4 219 = M 4 219 := by rw [hW, sU_ne (fun z => by omega)]
      intro h
      rw [r4_227, r4_219, h0]
      refine ⟨by omega, by omega, ?_⟩
      have e1 := tki_on (x := M 4 219) (w := 22) (show tLa[22]? = some (257544192 : Int) from rfl)
      rw [if_neg (by omega)] at e1
      rw [show M 4 227 = 22 by omega] at l3
      rw [← l3]
      exact e1.symm
    have k_xSD : xSD W := by
      rw [hW]
      exact (uxSD rfl hI.2.2.2.2.2.2.2.2.2.2.2.2.2.2.2.2.2.2.2.2.2.2.2.2.2.2.2.2.2.2.2.2.2.2.2.1)
    have k_xSE : xSE W := by
      rw [hW]
      exact (uxSE rfl hI.2.2.2.2.2.2.2.2.2.2.2.2.2.2.2.2.2.2.2.2.2.2.2.2.2.2.2.2.2.2.2.2.2.2.2.2.1)
    have k_xSW : xSW W := by
      rw [hW]
      exact (uxSW rfl hI.2.2.2.2.2.2.2.2.2.2.2.2.2.2.2.2.2.2.2.2.2.2.2.2.2.2.2.2.2.2.2.2.2.2.2.2.2.1)
    have k_xST : xST W := by
      rw [hW]
      exact (uxST rfl hI.2.2.2.2.2.2.2.2.2.2.2.2.2.2.2.2.2.2.2.2.2.2.2.2.2.2.2.2.2.2.2.2.2.2.2.2.2.2.1)
    have k_xSP : xSP W := by
      rw [hW]
      exact (uxSP rfl hI.2.2.2.2.2.2.2.2.2.2.2.2.2.2.2.2.2.2.2.2.2.2.2.2.2.2.2.2.2.2.2.2.2.2.2.2.2.2.2.1)
    have k_xSL : xSL W := by
      rw [hW]
      exact (uxSL rfl hI.2.2.2.2.2.2.2.2.2.2.2.2.2.2.2.2.2.2.2.2.2.2.2.2.2.2.2.2.2.2.2.2.2.2.2.2.2.2.2.2.1)
    have k_xSM : xSM W := by
      rw [hW]
      exact (uxSM rfl hI.2.2.2.2.2.2.2.2.2.2.2.2.2.2.2.2.2.2.2.2.2.2.2.2.2.2.2.2.2.2.2.2.2.2.2.2.2.2.2.2.2.1)
    have k_xSI : xSI W := by
      rw [hW]
      exact (uxSI rfl hI.2.2.2.2.2.2.2.2.2.2.2.2.2.2.2.2.2.2.2.2.2.2.2.2.2.2.2.2.2.2.2.2.2.2.2.2.2.2.2.2.2.2.1)
    have k_xD3 : xD3 W := by
      rw [hW]
      exact (uxD3 rfl hI.2.2.2.2.2.2.2.2.2.2.2.2.2.2.2.2.2.2.2.2.2.2.2.2.2.2.2.2.2.2.2.2.2.2.2.2.2.2.2.2.2.2.2.1)
    have k_xDV : xDV W := by
      rw [hW]
      exact (uxDV rfl hI.2.2.2.2.2.2.2.2.2.2.2.2.2.2.2.2.2.2.2.2.2.2.2.2.2.2.2.2.2.2.2.2.2.2.2.2.2.2.2.2.2.2.2.2.1)
    have k_xDP : xDP W := by
      rw [hW]
      exact (uxDP rfl hI.2.2.2.2.2.2.2.2.2.2.2.2.2.2.2.2.2.2.2.2.2.2.2.2.2.2.2.2.2.2.2.2.2.2.2.2.2.2.2.2.2.2.2.2.2.1)
    have k_xDE : xDE W := by
      rw [hW]
      exact (uxDE rfl hI.2.2.2.2.2.2.2.2.2.2.2.2.2.2.2.2.2.2.2.2.2.2.2.2.2.2.2.2.2.2.2.2.2.2.2.2.2.2.2.2.2.2.2.2.2.2.1)
    have k_xQ5 : xQ5 W := by
      rw [hW]
      exact (uxQ5 rfl hI.2.2.2.2.2.2.2.2.2.2.2.2.2.2.2.2.2.2.2.2.2.2.2.2.2.2.2.2.2.2.2.2.2.2.2.2.2.2.2.2.2.2.2.2.2.2.2.1)
    have k_xQL : xQL W := by
      rw [hW]
      exact (uxQL rfl hI.2.2.2.2.2.2.2.2.2.2.2.2.2.2.2.2.2.2.2.2.2.2.2.2.2.2.2.2.2.2.2.2.2.2.2.2.2.2.2.2.2.2.2.2.2.2.2.2.1)
    have k_xQW : xQW W := by
      rw [hW]
      exact (uxQW rfl hI.2.2.2.2.2.2.2.2.2.2.2.2.2.2.2.2.2.2.2.2.2.2.2.2.2.2.2.2.2.2.2.2.2.2.2.2.2.2.2.2.2.2.2.2.2.2.2.2.2.1)
    have k_xQM : xQM W := by
      rw [hW]
      exact (uxQM rfl hI.2.2.2.2.2.2.2.2.2.2.2.2.2.2.2.2.2.2.2.2.2.2.2.2.2.2.2.2.2.2.2.2.2.2.2.2.2.2.2.2.2.2.2.2.2.2.2.2.2.2.1)
    have k_xQH : xQH W := by
      rw [hW]
      exact (uxQH rfl hI.2.2.2.2.2.2.2.2.2.2.2.2.2.2.2.2.2.2.2.2.2.2.2.2.2.2.2.2.2.2.2.2.2.2.2.2.2.2.2.2.2.2.2.2.2.2.2.2.2.2.2)
    have k_XC : XC W := ⟨k_xS1, k_xS2, k_xS3, k_xS4, k_xS5, k_xS6, k_xS7, k_xS8, k_xS9, k_xSA, k_xSG, k_xSF, k_xSB, k_xSC, k_xSD, k_xSE, k_xSW, k_xST, k_xSP, k_xSL, k_xSM, k_xSI, k_xD3, k_xDV, k_xDP, k_xDE, k_xQ5, k_xQL, k_xQW, k_xQM, k_xQH⟩
    have kXB : XB W := ⟨k_xN1, k_xN2, k_xN3, k_xN4, k_xN5, k_xN6, k_xH1, k_xK1, k_xC1, k_xRW, k_xWT, k_xCU, k_xG2, k_xG3, k_xG4, k_xG5, k_xG6, k_XC⟩
    exact ⟨base, k2, k3, kXA, kXB⟩
-- wHitR23_c
def xr_488 : qRu := (13, [[(-1, 0), (1, 5)], [(1, 1)], [(-1, 1), (1, 9)], [(1, 1), (-1, 9)], [(-1, 0), (-1, 1), (1, 10)], [(6, 0), (1, 9), (-1, 10)], [(-650625184, 0), (1, 11)], [(650625184, 0), (-1, 11)]], [(4, 210, [(1, 0)]), (4, 211, [(1, 1)]), (4, 101, [(1, 2)]), (3, 46, [(1, 3)]), (3, 47, [(1, 4)]), (4, 100, [(1, 5)]), (3, 44, [(1, 6)]), (3, 45, [(1, 7)]), (4, 107, [(1, 8)]), (4, 214, [(1, 0)]), (4, 215, [(1, 9)]), (4, 217, [(1, 10)]), (4, 219, [(1, 11)]), (4, 216, [(1, 12)])], [], [], [[(-1, 1), (1, 3)], [(1, 1), (-1, 3)], [(1, 4), (-1, 10)], [(-1, 4), (1, 10)], [(-41, 0), (1, 6)], [(41, 0), (-1, 6)], [(1, 7), (-1, 11)], [(-1, 7), (1, 11)]])
theorem xo_488 : qRok xr_488 := by
  intro ρ M h0 hf hm hI
  have f0 := hf [(-1, 0), (1, 5)] (by decide)
  have f1 := hf [(1, 1)] (by decide)
  have f2 := hf [(-1, 1), (1, 9)] (by decide)
  have f3 := hf [(1, 1), (-1, 9)] (by decide)
  have f4 := hf [(-1, 0), (-1, 1), (1, 10)] (by decide)
  have f5 := hf [(6, 0), (1, 9), (-1, 10)] (by decide)
  have f6 := hf [(-650625184, 0), (1, 11)] (by decide)
  have f7 := hf [(650625184, 0), (-1, 11)] (by decide)
  simp only [qD, h0] at f0 f1 f2 f3 f4 f5 f6 f7
  have m0 : M 4 210 = 1 * ρ 0 + 0 := hm (4, 210, [(1, 0)]) (by decide)
  have m1 : M 4 211 = 1 * ρ 1 + 0 := hm (4, 211, [(1, 1)]) (by decide)
  have m2 : M 4 101 = 1 * ρ 2 + 0 := hm (4, 101, [(1, 2)]) (by decide)
  have m3 : M 3 46 = 1 * ρ 3 + 0 := hm (3, 46, [(1, 3)]) (by decide)
  have m4 : M 3 47 = 1 * ρ 4 + 0 := hm (3, 47, [(1, 4)]) (by decide)
  have m5 : M 4 100 = 1 * ρ 5 + 0 := hm (4, 100, [(1, 5)]) (by decide)
  have m6 : M 3 44 = 1 * ρ 6 + 0 := hm (3, 44, [(1, 6)]) (by decide)
  have m7 : M 3 45 = 1 * ρ 7 + 0 := hm (3, 45, [(1, 7)]) (by decide)
  have m8 : M 4 107 = 1 * ρ 8 + 0 := hm (4, 107, [(1, 8)]) (by decide)
  have m9 : M 4 214 = 1 * ρ 0 + 0 := hm (4, 214, [(1, 0)]) (by decide)
  have m10 : M 4 215 = 1 * ρ 9 + 0 := hm (4, 215, [(1, 9)]) (by decide)
  have m11 : M 4 217 = 1 * ρ 10 + 0 := hm (4, 217, [(1, 10)]) (by decide)
  have m12 : M 4 219 = 1 * ρ 11 + 0 := hm (4, 219, [(1, 11)]) (by decide)
  have m13 : M 4 216 = 1 * ρ 12 + 0 := hm (4, 216, [(1, 12)]) (by decide)
  simp only [h0] at m0 m9
  obtain ⟨u1, u2, _⟩ := gx_xS8 hI (by omega)

  obtain ⟨a1, a2, a3, a4, a5, a6, a7⟩ := gx_xSA hI (by omega)
  have eq1 : (M 4 215).toNat = (M 4 211).toNat := by omega
  rw [eq1] at a6 a7
  have hgt := ten_gt (g := M 92) (lo := 97) (hi := 122) (n := (M 4 101).toNat) (q := (M 4 211).toNat) (by omega)
  have el1 : (M 4 217 - M 4 215).toNat = tEn (M 92) 97 122 (M 4 101).toNat (M 4 211).toNat - (M 4 211).toNat := by omega
  rw [el1] at a7

  obtain ⟨t1, t2, t3, t4, t5, t6⟩ := tk_of hI (by omega) (by omega) (by omega) (show tAt (M 92) (M 4 101).toNat (M 4 211).toNat (M 4 107) (M 4 108) = (41, M 4 219, ((M 4 211).toNat : Int), M 4 217, 0, 23) from by
    unfold tAt
    rw [if_neg (by omega), if_pos hgt.2]
    unfold tWo
    rw [← a7, ← a6]
    have hk : tKi (M 4 219) 0 = 41 := by
      rw [show M 4 219 = 650625184 by omega]
      decide
    have h6 : ¬ (6 < tEn (M 92) 97 122 (M 4 101).toNat (M 4 211).toNat - (M 4 211).toNat) := by omega
    unfold tWk tWs tWv
    rw [if_neg h6, if_neg h6, if_neg h6, hk]
    rfl)
  refine ⟨ρ, fun _ _ => rfl, fun f h => ?_, ?_⟩
  · have h : f ∈ ([[(-1, 1), (1, 3)], [(1, 1), (-1, 3)], [(1, 4), (-1, 10)], [(-1, 4), (1, 10)], [(-41, 0), (1, 6)], [(41, 0), (-1, 6)], [(1, 7), (-1, 11)], [(-1, 7), (1, 11)]] : List qF) := h
    simp only [List.mem_cons, List.not_mem_nil, or_false] at h
    rcases h with rfl | rfl | rfl | rfl | rfl | rfl | rfl | rfl
    · show 0 ≤ -1 * ρ 1 + (1 * ρ 3 + 0)
      (try rw [h0]); omega
    · show 0 ≤ 1 * ρ 1 + (-1 * ρ 3 + 0)
      (try rw [h0]); omega
    · show 0 ≤ 1 * ρ 4 + (-1 * ρ 10 + 0)
      (try rw [h0]); omega
    · show 0 ≤ -1 * ρ 4 + (1 * ρ 10 + 0)
      (try rw [h0]); omega
    · show 0 ≤ -41 * ρ 0 + (1 * ρ 6 + 0)
      (try rw [h0]); omega
    · show 0 ≤ 41 * ρ 0 + (-1 * ρ 6 + 0)
      (try rw [h0]); omega
    · show 0 ≤ 1 * ρ 7 + (-1 * ρ 11 + 0)
      (try rw [h0]); omega
    · show 0 ≤ -1 * ρ 7 + (1 * ρ 11 + 0)
      (try rw [h0]); omega
  · show sI M
    exact hI
-- wHitR23_r
def xr_489 : qRu := (13, [[(-1, 0), (1, 5)], [(1, 1)], [(-1, 1), (1, 9)], [(1, 1), (-1, 9)], [(-1, 0), (-1, 1), (1, 10)], [(6, 0), (1, 9), (-1, 10)], [(-650625184, 0), (1, 11)], [(650625184, 0), (-1, 11)]], [(4, 210, [(1, 0)]), (4, 211, [(1, 1)]), (4, 101, [(1, 2)]), (3, 46, [(1, 3)]), (3, 47, [(1, 4)]), (4, 100, [(1, 5)]), (3, 50, [(1, 6)]), (3, 51, [(1, 7)]), (4, 108, [(1, 8)]), (4, 214, [(1, 0)]), (4, 215, [(1, 9)]), (4, 217, [(1, 10)]), (4, 219, [(1, 11)]), (4, 216, [(1, 12)])], [], [], [[(-1, 1), (1, 3)], [(1, 1), (-1, 3)], [(1, 4), (-1, 10)], [(-1, 4), (1, 10)], [(1, 6)], [(-1, 6)], [(-23, 0), (1, 7)], [(23, 0), (-1, 7)]])
theorem xo_489 : qRok xr_489 := by
  intro ρ M h0 hf hm hI
  have f0 := hf [(-1, 0), (1, 5)] (by decide)
  have f1 := hf [(1, 1)] (by decide)
  have f2 := hf [(-1, 1), (1, 9)] (by decide)
  have f3 := hf [(1, 1), (-1, 9)] (by decide)
  have f4 := hf [(-1, 0), (-1, 1), (1, 10)] (by decide)
  have f5 := hf [(6, 0), (1, 9), (-1, 10)] (by decide)
  have f6 := hf [(-650625184, 0), (1, 11)] (by decide)
  have f7 := hf [(650625184, 0), (-1, 11)] (by decide)
  simp only [qD, h0] at f0 f1 f2 f3 f4 f5 f6 f7
  have m0 : M 4 210 = 1 * ρ 0 + 0 := hm (4, 210, [(1, 0)]) (by decide)
  have m1 : M 4 211 = 1 * ρ 1 + 0 := hm (4, 211, [(1, 1)]) (by decide)
  have m2 : M 4 101 = 1 * ρ 2 + 0 := hm (4, 101, [(1, 2)]) (by decide)
  have m3 : M 3 46 = 1 * ρ 3 + 0 := hm (3, 46, [(1, 3)]) (by decide)
  have m4 : M 3 47 = 1 * ρ 4 + 0 := hm (3, 47, [(1, 4)]) (by decide)
  have m5 : M 4 100 = 1 * ρ 5 + 0 := hm (4, 100, [(1, 5)]) (by decide)
  have m6 : M 3 50 = 1 * ρ 6 + 0 := hm (3, 50, [(1, 6)]) (by decide)
  have m7 : M 3 51 = 1 * ρ 7 + 0 := hm (3, 51, [(1, 7)]) (by decide)
  have m8 : M 4 108 = 1 * ρ 8 + 0 := hm (4, 108, [(1, 8)]) (by decide)
  have m9 : M 4 214 = 1 * ρ 0 + 0 := hm (4, 214, [(1, 0)]) (by decide)
  have m10 : M 4 215 = 1 * ρ 9 + 0 := hm (4, 215, [(1, 9)]) (by decide)
  have m11 : M 4 217 = 1 * ρ 10 + 0 := hm (4, 217, [(1, 10)]) (by decide)
  have m12 : M 4 219 = 1 * ρ 11 + 0 := hm (4, 219, [(1, 11)]) (by decide)
  have m13 : M 4 216 = 1 * ρ 12 + 0 := hm (4, 216, [(1, 12)]) (by decide)
  simp only [h0] at m0 m9
  obtain ⟨u1, u2, _⟩ := gx_xS8 hI (by omega)

  obtain ⟨a1, a2, a3, a4, a5, a6, a7⟩ := gx_xSA hI (by omega)
  have eq1 : (M 4 215).toNat = (M 4 211).toNat := by omega
  rw [eq1] at a6 a7
  have hgt := ten_gt (g := M 92) (lo := 97) (hi := 122) (n := (M 4 101).toNat) (q := (M 4 211).toNat) (by omega)
  have el1 : (M 4 217 - M 4 215).toNat = tEn (M 92) 97 122 (M 4 101).toNat (M 4 211).toNat - (M 4 211).toNat := by omega
  rw [el1] at a7

  obtain ⟨t1, t2, t3, t4, t5, t6⟩ := tk_of hI (by omega) (by omega) (by omega) (show tAt (M 92) (M 4 101).toNat (M 4 211).toNat (M 4 107) (M 4 108) = (41, M 4 219, ((M 4 211).toNat : Int), M 4 217, 0, 23) from by
    unfold tAt
    rw [if_neg (by omega), if_pos hgt.2]
    unfold tWo
    rw [← a7, ← a6]
    have hk : tKi (M 4 219) 0 = 41 := by
      rw [show M 4 219 = 650625184 by omega]
      decide
    have h6 : ¬ (6 < tEn (M 92) 97 122 (M 4 101).toNat (M 4 211).toNat - (M 4 211).toNat) := by omega
    unfold tWk tWs tWv
    rw [if_neg h6, if_neg h6, if_neg h6, hk]
    rfl)
  refine ⟨ρ, fun _ _ => rfl, fun f h => ?_, ?_⟩
  · have h : f ∈ ([[(-1, 1), (1, 3)], [(1, 1), (-1, 3)], [(1, 4), (-1, 10)], [(-1, 4), (1, 10)], [(1, 6)], [(-1, 6)], [(-23, 0), (1, 7)], [(23, 0), (-1, 7)]] : List qF) := h
    simp only [List.mem_cons, List.not_mem_nil, or_false] at h
    rcases h with rfl | rfl | rfl | rfl | rfl | rfl | rfl | rfl
    · show 0 ≤ -1 * ρ 1 + (1 * ρ 3 + 0)
      (try rw [h0]); omega
    · show 0 ≤ 1 * ρ 1 + (-1 * ρ 3 + 0)
      (try rw [h0]); omega
    · show 0 ≤ 1 * ρ 4 + (-1 * ρ 10 + 0)
      (try rw [h0]); omega
    · show 0 ≤ -1 * ρ 4 + (1 * ρ 10 + 0)
      (try rw [h0]); omega
    · show 0 ≤ 1 * ρ 6 + 0
      (try rw [h0]); omega
    · show 0 ≤ -1 * ρ 6 + 0
      (try rw [h0]); omega
    · show 0 ≤ -23 * ρ 0 + (1 * ρ 7 + 0)
      (try rw [h0]); omega
    · show 0 ≤ 23 * ρ 0 + (-1 * ρ 7 + 0)
      (try rw [h0]); omega
  · show sI M
    exact hI
