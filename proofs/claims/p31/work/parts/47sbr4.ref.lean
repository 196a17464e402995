/-! RULES OF THE REFERENCE (wip/p3/xsf.py). -/
-- fdC7
def xr_620 : qRu := (11, [[(-7, 0), (1, 1), (-1, 4)], [(7, 0), (-1, 1), (1, 4)], [(1, 1), (-1, 3)], [(1, 4)], [(699, 0), (-1, 1)], [(1, 1)], [(1, 6)], [(-1, 6)], [(1, 5), (-1, 8)], [(-1, 5), (1, 8)], [(-1, 2), (1, 9)], [(1, 2), (-1, 9)], [(-1, 7), (1, 10)], [(1, 7), (-1, 10)], [(128, 0), (1, 2)], [(127, 0), (-1, 2)]], [(4, 100, []), (4, 261, [(1, 3)]), (4, 262, [(7, 0)]), (4, 263, [(1, 4)]), (4, 266, [(1, 8)]), (91, 259, [(1, 0)]), (91, 248, [(1, 10)]), (91, 258, [(1, 9)]), (91, 249, [(1, 0)]), (91, 250, [(1, 5)]), (91, 251, [(1, 6)]), (91, 252, [(1, 7)])], [(1, [(1, 1)], [(1, 2)])], [(4, 262, [(8, 0)])], [])
theorem xo_620 : qRok xr_620 := by
  intro ρ M h0 hf hm hI
  have f0 := hf [(-7, 0), (1, 1), (-1, 4)] (by decide)
  have f1 := hf [(7, 0), (-1, 1), (1, 4)] (by decide)
  have f2 := hf [(1, 1), (-1, 3)] (by decide)
  have f3 := hf [(1, 4)] (by decide)
  have f4 := hf [(699, 0), (-1, 1)] (by decide)
  have f5 := hf [(1, 1)] (by decide)
  have f6 := hf [(1, 6)] (by decide)
  have f7 := hf [(-1, 6)] (by decide)
  have f8 := hf [(1, 5), (-1, 8)] (by decide)
  have f9 := hf [(-1, 5), (1, 8)] (by decide)
  have f10 := hf [(-1, 2), (1, 9)] (by decide)
  have f11 := hf [(1, 2), (-1, 9)] (by decide)
  have f12 := hf [(-1, 7), (1, 10)] (by decide)
  have f13 := hf [(1, 7), (-1, 10)] (by decide)
  have f14 := hf [(128, 0), (1, 2)] (by decide)
  have f15 := hf [(127, 0), (-1, 2)] (by decide)
  simp only [qD, h0] at f0 f1 f2 f3 f4 f5 f6 f7 f8 f9 f10 f11 f12 f13 f14 f15
  have m0 : M 4 100 = 0 := hm (4, 100, []) (by decide)
  have m1 : M 4 261 = 1 * ρ 3 + 0 := hm (4, 261, [(1, 3)]) (by decide)
  have m2 : M 4 262 = 7 * ρ 0 + 0 := hm (4, 262, [(7, 0)]) (by decide)
  have m3 : M 4 263 = 1 * ρ 4 + 0 := hm (4, 263, [(1, 4)]) (by decide)
  have m4 : M 4 266 = 1 * ρ 8 + 0 := hm (4, 266, [(1, 8)]) (by decide)
  have m5 : M 91 259 = 1 * ρ 0 + 0 := hm (91, 259, [(1, 0)]) (by decide)
  have m6 : M 91 248 = 1 * ρ 10 + 0 := hm (91, 248, [(1, 10)]) (by decide)
  have m7 : M 91 258 = 1 * ρ 9 + 0 := hm (91, 258, [(1, 9)]) (by decide)
  have m8 : M 91 249 = 1 * ρ 0 + 0 := hm (91, 249, [(1, 0)]) (by decide)
  have m9 : M 91 250 = 1 * ρ 5 + 0 := hm (91, 250, [(1, 5)]) (by decide)
  have m10 : M 91 251 = 1 * ρ 6 + 0 := hm (91, 251, [(1, 6)]) (by decide)
  have m11 : M 91 252 = 1 * ρ 7 + 0 := hm (91, 252, [(1, 7)]) (by decide)
  simp only [h0] at m2 m5 m8
  have qxST := hI.2.2.2.2.2.2.2.2.2.2.2.2.2.2.2.2.2.2.2.2.2.2.2.2.2.2.2.2.2.2.2.2.2.2.2.2.2.2.1
  have qxSP := hI.2.2.2.2.2.2.2.2.2.2.2.2.2.2.2.2.2.2.2.2.2.2.2.2.2.2.2.2.2.2.2.2.2.2.2.2.2.2.2.1
  obtain ⟨g1, g2, g3, g4⟩ := gx_xSE hI (by omega)
  have tb : xop 1 (M 91 252) 255 = tBy (M 4 266) 7 := by
    unfold tBy
    rw [g1, show M 91 250 = M 4 266 by omega, show M 91 251 = 0 by omega]
    rfl

  have gi := gx_xSI hI (by omega)
  rw [show M 91 248 = M 91 252 by omega] at gi
  refine ⟨ρ, fun _ _ => rfl, fun f h => ?_, ?_⟩
  · exact nomatch h
  · show sI (sU (sU M 1 (1 * ρ 1 + 0 : Int).toNat (1 * ρ 2 + 0)) 4 262 (8 * ρ 0 + 0))
    obtain ⟨W, hW⟩ : ∃ W, W = (sU (sU M 1 (1 * ρ 1 + 0).toNat (1 * ρ 2 + 0)) 4 262 (8 * ρ 0 + 0)) := ⟨_, rfl⟩
    rw [← hW]
    have base : sI0 W := by
      rw [hW]
      exact (si_u0 (si_u0 hI.1 (fun r hr => by rw [xt_1 hr]; exact ⟨by show (-128 : Int) ≤ _; omega, by show _ ≤ (127 : Int); omega⟩)) (fun r hr => by cases hr))
    have k2 : XI2 W := by
      rw [hW]
      exact (xi2_u rfl (xi2_u (sinc_ok rfl _) hI.2.1))
    have k3 : XI3 W := by
      rw [hW]
      exact (xi3_u rfl (xi3_u (sinc_ok rfl _) hI.2.2.1))
    have kXA : XA W := by
      rw [hW]
      exact (uXA rfl (uXA (sinc_ok rfl _) hI.2.2.2.1))
    have k_xN1 : xN1 W := by
      rw [hW]
      exact (uxN1 rfl (uxN1 (sinc_ok rfl _) hI.2.2.2.2.1))
    have k_xN2 : xN2 W := by
      rw [hW]
      exact (uxN2 rfl (uxN2 (sinc_ok rfl _) hI.2.2.2.2.2.1))
    have k_xN3 : xN3 W := by
      rw [hW]
      exact (uxN3 rfl (uxN3 (sinc_ok rfl _) hI.2.2.2.2.2.2.1))
    have k_xN4 : xN4 W := by
      rw [hW]
      exact (uxN4 rfl (uxN4 (sinc_ok rfl _) hI.2.2.2.2.2.2.2.1))
    have k_xN5 : xN5 W := by
      rw [hW]
      exact (uxN5 rfl (uxN5 (sinc_ok rfl _) hI.2.2.2.2.2.2.2.2.1))
    have k_xN6 : xN6 W := by
      rw [hW]
      exact (uxN6 rfl (uxN6 (sinc_ok rfl _) hI.2.2.2.2.2.2.2.2.2.1))
    have k_xH1 : xH1 W := by
      rw [hW]
      exact (uxH1 rfl (uxH1 (sinc_ok rfl _) hI.2.2.2.2.2.2.2.2.2.2.1))
    have k_xK1 : xK1 W := by
      rw [hW]
      exact (uxK1 rfl (uxK1 (sinc_ok rfl _) hI.2.2.2.2.2.2.2.2.2.2.2.1))
    have k_xC1 : xC1 W := by
      rw [hW]
      exact (uxC1 rfl (uxC1 (sinc_ok rfl _) hI.2.2.2.2.2.2.2.2.2.2.2.2.1))
    have k_xRW : xRW W := by
      rw [hW]
      exact (uxRW rfl (uxRW (sinc_ok rfl _) hI.2.2.2.2.2.2.2.2.2.2.2.2.2.1))
    have k_xWT : xWT W := by
      rw [hW]
      exact (uxWT rfl (uxWT (sinc_ok rfl _) hI.2.2.2.2.2.2.2.2.2.2.2.2.2.2.1))
    have k_xCU : xCU W := by
      rw [hW]
      exact (uxCU rfl (uxCU (sinc_ok rfl _) hI.2.2.2.2.2.2.2.2.2.2.2.2.2.2.2.1))
    have k_xG2 : xG2 W := by
      rw [hW]
      exact (uxG2 rfl (uxG2 (sinc_ok rfl _) hI.2.2.2.2.2.2.2.2.2.2.2.2.2.2.2.2.1))
    have k_xG3 : xG3 W := by
      rw [hW]
      exact (uxG3 rfl (uxG3 (sinc_ok rfl _) hI.2.2.2.2.2.2.2.2.2.2.2.2.2.2.2.2.2.1))
    have k_xG4 : xG4 W := by
      rw [hW]
      exact (uxG4 rfl (uxG4 (sinc_ok rfl _) hI.2.2.2.2.2.2.2.2.2.2.2.2.2.2.2.2.2.2.1))
    have k_xG5 : xG5 W := by
      rw [hW]
      exact (uxG5 rfl (uxG5 (sinc_ok rfl _) hI.2.2.2.2.2.2.2.2.2.2.2.2.2.2.2.2.2.2.2.1))
    have k_xG6 : xG6 W := by
      rw [hW]
      exact (uxG6 rfl (uxG6 (sinc_ok rfl _) hI.2.2.2.2.2.2.2.2.2.2.2.2.2.2.2.2.2.2.2.2.1))
    have k_xS1 : xS1 W := by
      have r : W 4 100 = 0 := by
        have e := m0
        rw [hW, sU_ne (fun z => by omega), sU_ne (fun z => by omega)]
        omega
      intro h
      rw [r] at h
      exact absurd rfl h
    have k_xS2 : xS2 W := by
      rw [hW]
      exact (uxS2 rfl (uxS2 (sinc_ok rfl _) hI.2.2.2.2.2.2.2.2.2.2.2.2.2.2.2.2.2.2.2.2.2.2.1))
    have k_xS3 : xS3 W := by
      rw [hW]
      exact (uxS3 rfl (uxS3 (sinc_ok rfl _) hI.2.2.2.2.2.2.2.2.2.2.2.2.2.2.2.2.2.2.2.2.2.2.2.1))
    have k_xS4 : xS4 W := by
      rw [hW]
      exact (uxS4 rfl (uxS4 (sinc_ok rfl _) hI.2.2.2.2.2.2.2.2.2.2.2.2.2.2.2.2.2.2.2.2.2.2.2.2.1))
    have k_xS5 : xS5 W := by
      rw [hW]
      exact (uxS5 rfl (uxS5 (sinc_ok rfl _) hI.2.2.2.2.2.2.2.2.2.2.2.2.2.2.2.2.2.2.2.2.2.2.2.2.2.1))
    have k_xS6 : xS6 W := by
      rw [hW]
      exact (uxS6 rfl (uxS6 (sinc_ok rfl _) hI.2.2.2.2.2.2.2.2.2.2.2.2.2.2.2.2.2.2.2.2.2.2.2.2.2.2.1))
    have k_xS7 : xS7 W := by
      rw [hW]
      exact (uxS7 rfl (uxS7 (sinc_ok rfl _) hI.2.2.2.2.2.2.2.2.2.2.2.2.2.2.2.2.2.2.2.2.2.2.2.2.2.2.2.1))
    have k_xS8 : xS8 W := by
      rw [hW]
      exact (uxS8 rfl (uxS8 (sinc_ok rfl _) hI.2.2.2.2.2.2.2.2.2.2.2.2.2.2.2.2.2.2.2.2.2.2.2.2.2.2.2.2.1))
    have k_xS9 : xS9 W := by
      rw [hW]
      exact (uxS9 rfl (uxS9 (sinc_ok rfl _) hI.2.2.2.2.2.2.2.2.2.2.2.2.2.2.2.2.2.2.2.2.2.2.2.2.2.2.2.2.2.1))
    have k_xSA : xSA W := by
      rw [hW]
      exact (uxSA rfl (uxSA (sinc_ok rfl _) hI.2.2.2.2.2.2.2.2.2.2.2.2.2.2.2.2.2.2.2.2.2.2.2.2.2.2.2.2.2.2.1))
    have k_xSG : xSG W := by
      rw [hW]
      exact (uxSG rfl (uxSG (sinc_ok rfl _) hI.2.2.2.2.2.2.2.2.2.2.2.2.2.2.2.2.2.2.2.2.2.2.2.2.2.2.2.2.2.2.2.1))
    have k_xSF : xSF W := by
      rw [hW]
      exact (uxSF rfl (uxSF (sinc_ok rfl _) hI.2.2.2.2.2.2.2.2.2.2.2.2.2.2.2.2.2.2.2.2.2.2.2.2.2.2.2.2.2.2.2.2.1))
    have k_xSB : xSB W := by
      rw [hW]
      exact (uxSB rfl (uxSB (sinc_ok rfl _) hI.2.2.2.2.2.2.2.2.2.2.2.2.2.2.2.2.2.2.2.2.2.2.2.2.2.2.2.2.2.2.2.2.2.1))
    have k_xSC : xSC W := by
      rw [hW]
      exact (uxSC rfl (uxSC (sinc_ok rfl _) hI.2.2.2.2.2.2.2.2.2.2.2.2.2.2.2.2.2.2.2.2.2.2.2.2.2.2.2.2.2.2.2.2.2.2.1))
    have k_xSD : xSD W := by
      rw [hW]
      exact (uxSD rfl (uxSD (sinc_ok rfl _) hI.2.2.2.2.2.2.2.2.2.2.2.2.2.2.2.2.2.2.2.2.2.2.2.2.2.2.2.2.2.2.2.2.2.2.2.1))
    have k_xSE : xSE W := by
      rw [hW]
      exact (uxSE rfl (uxSE (sinc_ok rfl _) hI.2.2.2.2.2.2.2.2.2.2.2.2.2.2.2.2.2.2.2.2.2.2.2.2.2.2.2.2.2.2.2.2.2.2.2.2.1))
    have k_xSW : xSW W := by
      rw [hW]
      exact (uxSW rfl (uxSW (sinc_ok rfl _) hI.2.2.2.2.2.2.2.2.2.2.2.2.2.2.2.2.2.2.2.2.2.2.2.2.2.2.2.2.2.2.2.2.2.2.2.2.2.1))
    have k_xST : xST W := by
      have r4_261 : W 4 261 = M 4 261 := by rw [hW, sU_ne (fun z => by omega), sU_ne (fun z => by omega)]
      have c1 : ∀ k : Nat, k ≠ (1 * ρ 1 + 0).toNat → W 1 k = M 1 k := fun k hk => by rw [hW, sU_ne (fun z => by omega), sU_ne (fun z => by omega)]
      have a1 : W 1 (1 * ρ 1 + 0).toNat = 1 * ρ 2 + 0 := by rw [hW, sU_ne (fun z => by omega), sU_at]
      have c92 : ∀ k, W 92 k = M 92 k := fun k => by rw [hW, sU_ne (fun z => by omega), sU_ne (fun z => by omega)]
      have e92 : W 92 = M 92 := funext c92
      intro i hi
      rw [r4_261] at hi
      rw [c1 i (by omega), e92]
      exact qxST i hi
    have k_xSP : xSP W := by
      have r4_262 : W 4 262 = 8 * ρ 0 + 0 := by rw [hW, sU_at]
      have r4_263 : W 4 263 = M 4 263 := by rw [hW, sU_ne (fun z => by omega), sU_ne (fun z => by omega)]
      have r4_264 : W 4 264 = M 4 264 := by rw [hW, sU_ne (fun z => by omega), sU_ne (fun z => by omega)]
      have r4_265 : W 4 265 = M 4 265 := by rw [hW, sU_ne (fun z => by omega), sU_ne (fun z => by omega)]
      have r4_266 : W 4 266 = M 4 266 := by rw [hW, sU_ne (fun z => by omega), sU_ne (fun z => by omega)]
      have r4_267 : W 4 267 = M 4 267 := by rw [hW, sU_ne (fun z => by omega), sU_ne (fun z => by omega)]
      have r4_268 : W 4 268 = M 4 268 := by rw [hW, sU_ne (fun z => by omega), sU_ne (fun z => by omega)]
      have r4_269 : W 4 269 = M 4 269 := by rw [hW, sU_ne (fun z => by omega), sU_ne (fun z => by omega)]
      have c1 : ∀ k : Nat, k ≠ (1 * ρ 1 + 0).toNat → W 1 k = M 1 k := fun k hk => by rw [hW, sU_ne (fun z => by omega), sU_ne (fun z => by omega)]
      have a1 : W 1 (1 * ρ 1 + 0).toNat = 1 * ρ 2 + 0 := by rw [hW, sU_ne (fun z => by omega), sU_at]
      have c92 : ∀ k, W 92 k = M 92 k := fun k => by rw [hW, sU_ne (fun z => by omega), sU_ne (fun z => by omega)]
      have e92 : W 92 = M 92 := funext c92
      unfold xSP
      rw [r4_262, r4_263, r4_264, e92]
      obtain ⟨p1, p2, p3⟩ := qxSP
      have e4 : ∀ x, x ≠ 262 → W 4 x = M 4 x := fun x hx => by rw [hW, sU_ne (fun z => by omega), sU_ne (fun z => by omega)]
      refine ⟨p1, fun q hq hl => ?_, fun q hq hl => by rw [e4 _ (by omega)]; exact p3 q hq hl⟩
      rw [h0] at hl
      rw [e4 _ (by omega)]
      by_cases hj : q = 7
      · subst hj
        show W 1 ((M 4 263).toNat + 7) = tSn (tBy (M 4 266) 7)
        rw [show (M 4 263).toNat + 7 = (1 * ρ 1 + 0).toNat by omega, a1, ← tb]
        have := xi2b (M 91 252)
        omega
      · rw [c1 _ (by omega)]
        exact p2 q hq (by omega)
    have k_xSL : xSL W := by
      rw [hW]
      exact (uxSL rfl (uxSL (sinc_ok rfl _) hI.2.2.2.2.2.2.2.2.2.2.2.2.2.2.2.2.2.2.2.2.2.2.2.2.2.2.2.2.2.2.2.2.2.2.2.2.2.2.2.2.1))
    have k_xSM : xSM W := by
      rw [hW]
      exact (uxSM rfl (uxSM (sinc_ok rfl _) hI.2.2.2.2.2.2.2.2.2.2.2.2.2.2.2.2.2.2.2.2.2.2.2.2.2.2.2.2.2.2.2.2.2.2.2.2.2.2.2.2.2.1))
    have k_xSI : xSI W := by
      rw [hW]
      exact (uxSI rfl (uxSI (sinc_ok rfl _) hI.2.2.2.2.2.2.2.2.2.2.2.2.2.2.2.2.2.2.2.2.2.2.2.2.2.2.2.2.2.2.2.2.2.2.2.2.2.2.2.2.2.2))
    have k_XC : XC W := ⟨k_xS1, k_xS2, k_xS3, k_xS4, k_xS5, k_xS6, k_xS7, k_xS8, k_xS9, k_xSA, k_xSG, k_xSF, k_xSB, k_xSC, k_xSD, k_xSE, k_xSW, k_xST, k_xSP, k_xSL, k_xSM, k_xSI⟩
    have kXB : XB W := ⟨k_xN1, k_xN2, k_xN3, k_xN4, k_xN5, k_xN6, k_xH1, k_xK1, k_xC1, k_xRW, k_xWT, k_xCU, k_xG2, k_xG3, k_xG4, k_xG5, k_xG6, k_XC⟩
    exact ⟨base, k2, k3, kXA, kXB⟩
-- fdW7
def xr_621 : qRu := (11, [[(-7, 0), (1, 1), (-1, 4)], [(7, 0), (-1, 1), (1, 4)], [(1, 1), (-1, 3)], [(-1, 1), (1, 3)], [(1, 4)], [(699, 0), (-1, 1)], [(1, 1)], [(1, 6)], [(-1, 6)], [(1, 5), (-1, 8)], [(-1, 5), (1, 8)], [(-1, 2), (1, 9)], [(1, 2), (-1, 9)], [(1, 2)], [(255, 0), (-1, 2)]], [(4, 261, [(1, 3)]), (4, 262, [(20, 0)]), (4, 263, [(1, 4)]), (4, 264, []), (4, 266, [(1, 8)]), (91, 257, [(1, 9)]), (4, 100, []), (4, 200, []), (4, 210, []), (4, 212, []), (4, 214, []), (4, 220, []), (4, 233, []), (4, 235, []), (91, 249, [(1, 0)]), (91, 250, [(1, 5)]), (91, 251, [(1, 6)]), (91, 252, [(1, 7)])], [(92, [(1, 1)], [(1, 2)])], [(91, 990, [(1, 11)]), (4, 261, [(1, 0), (1, 3)])], [])
theorem xo_621 : qRok xr_621 := by
  intro ρ M h0 hf hm hI
  have f0 := hf [(-7, 0), (1, 1), (-1, 4)] (by decide)
  have f1 := hf [(7, 0), (-1, 1), (1, 4)] (by decide)
  have f2 := hf [(1, 1), (-1, 3)] (by decide)
  have f3 := hf [(-1, 1), (1, 3)] (by decide)
  have f4 := hf [(1, 4)] (by decide)
  have f5 := hf [(699, 0), (-1, 1)] (by decide)
  have f6 := hf [(1, 1)] (by decide)
  have f7 := hf [(1, 6)] (by decide)
  have f8 := hf [(-1, 6)] (by decide)
  have f9 := hf [(1, 5), (-1, 8)] (by decide)
  have f10 := hf [(-1, 5), (1, 8)] (by decide)
  have f11 := hf [(-1, 2), (1, 9)] (by decide)
  have f12 := hf [(1, 2), (-1, 9)] (by decide)
  have f13 := hf [(1, 2)] (by decide)
  have f14 := hf [(255, 0), (-1, 2)] (by decide)
  simp only [qD, h0] at f0 f1 f2 f3 f4 f5 f6 f7 f8 f9 f10 f11 f12 f13 f14
  have m0 : M 4 261 = 1 * ρ 3 + 0 := hm (4, 261, [(1, 3)]) (by decide)
  have m1 : M 4 262 = 20 * ρ 0 + 0 := hm (4, 262, [(20, 0)]) (by decide)
  have m2 : M 4 263 = 1 * ρ 4 + 0 := hm (4, 263, [(1, 4)]) (by decide)
  have m3 : M 4 264 = 0 := hm (4, 264, []) (by decide)
  have m4 : M 4 266 = 1 * ρ 8 + 0 := hm (4, 266, [(1, 8)]) (by decide)
  have m5 : M 91 257 = 1 * ρ 9 + 0 := hm (91, 257, [(1, 9)]) (by decide)
  have m6 : M 4 100 = 0 := hm (4, 100, []) (by decide)
  have m7 : M 4 200 = 0 := hm (4, 200, []) (by decide)
  have m8 : M 4 210 = 0 := hm (4, 210, []) (by decide)
  have m9 : M 4 212 = 0 := hm (4, 212, []) (by decide)
  have m10 : M 4 214 = 0 := hm (4, 214, []) (by decide)
  have m11 : M 4 220 = 0 := hm (4, 220, []) (by decide)
  have m12 : M 4 233 = 0 := hm (4, 233, []) (by decide)
  have m13 : M 4 235 = 0 := hm (4, 235, []) (by decide)
  have m14 : M 91 249 = 1 * ρ 0 + 0 := hm (91, 249, [(1, 0)]) (by decide)
  have m15 : M 91 250 = 1 * ρ 5 + 0 := hm (91, 250, [(1, 5)]) (by decide)
  have m16 : M 91 251 = 1 * ρ 6 + 0 := hm (91, 251, [(1, 6)]) (by decide)
  have m17 : M 91 252 = 1 * ρ 7 + 0 := hm (91, 252, [(1, 7)]) (by decide)
  simp only [h0] at m1 m14
  have qxST := hI.2.2.2.2.2.2.2.2.2.2.2.2.2.2.2.2.2.2.2.2.2.2.2.2.2.2.2.2.2.2.2.2.2.2.2.2.2.2.1
  have qxSP := hI.2.2.2.2.2.2.2.2.2.2.2.2.2.2.2.2.2.2.2.2.2.2.2.2.2.2.2.2.2.2.2.2.2.2.2.2.2.2.2.1
  obtain ⟨g1, g2, g3, g4⟩ := gx_xSE hI (by omega)
  have tb : xop 1 (M 91 252) 255 = tBy (M 4 266) 7 := by
    unfold tBy
    rw [g1, show M 91 250 = M 4 266 by omega, show M 91 251 = 0 by omega]
    rfl

  have g257 := g4
  refine ⟨fun a => cond (Nat.blt a 11) (ρ a) (([xH (sU M 92 (1 * ρ 1 + 0).toNat (1 * ρ 2 + 0))] : List Int).getD (a - 11) 0), fun a ha => ?_, fun f h => ?_, ?_⟩
  · show cond (Nat.blt a 11) (ρ a) _ = ρ a
    rw [show Nat.blt a 11 = true from Nat.ble_eq_true_of_le ha]; rfl
  · exact nomatch h
  · show sI (sU (sU (sU M 92 (1 * ρ 1 + 0 : Int).toNat (1 * ρ 2 + 0)) 91 990 (1 * (xH (sU M 92 (1 * ρ 1 + 0).toNat (1 * ρ 2 + 0))) + 0)) 4 261 (1 * ρ 0 + (1 * ρ 3 + 0)))
    obtain ⟨W, hW⟩ : ∃ W, W = (sU (sU (sU M 92 (1 * ρ 1 + 0).toNat (1 * ρ 2 + 0)) 91 990 (1 * (xH (sU M 92 (1 * ρ 1 + 0).toNat (1 * ρ 2 + 0))) + 0)) 4 261 (1 * ρ 0 + (1 * ρ 3 + 0))) := ⟨_, rfl⟩
    rw [← hW]
    have base : sI0 W := by
      rw [hW]
      exact (si_u0 (si_u0 (si_u0 hI.1 (fun r hr => by rw [xt_92 hr]; exact ⟨by show (0 : Int) ≤ _; omega, by show _ ≤ (255 : Int); omega⟩)) (fun r hr => by cases hr)) (fun r hr => by cases hr))
    have k2 : XI2 W := by
      refine xi2_congr (fun o k hz ho => ?_) hI.2.1
      have h4 : ¬ (o = 4 ∧ k = 261) := fun z => by rw [z.1, z.2] at hz; exact absurd hz (by decide +kernel)
      rw [hW, sU_ne h4, sU_ne (fun z => by omega), sU_ne (fun z => by omega)]
    have k3 : XI3 W := by
      unfold XI3
      rw [hW]
      rw [sU_ne (fun z => by omega), sU_at]
      have e : ∀ o' k' x y, ¬ (o' = 91 ∧ k' = 990) → ¬ (o' = 4 ∧ k' = 261) → sU (sU (sU M 92 (1 * ρ 1 + 0).toNat (1 * ρ 2 + 0)) 91 990 x) 4 261 y o' k' = sU M 92 (1 * ρ 1 + 0).toNat (1 * ρ 2 + 0) o' k' := fun o' k' x y h h' => by rw [sU_ne h', sU_ne h]
      rw [show ∀ z : Int, 1 * z + 0 = z from fun z => by omega]
      unfold xH
      rw [e _ _ _ _ (by omega) (by omega), e _ _ _ _ (by omega) (by omega), e _ _ _ _ (by omega) (by omega)]
    have kXA : XA W := by
      rw [hW]
      exact (uXA rfl (uXA rfl (uXA (sinc_ok rfl _) hI.2.2.2.1)))
    have k_xN1 : xN1 W := by
      rw [hW]
      exact (uxN1 rfl (uxN1 rfl (uxN1 (sinc_ok rfl _) hI.2.2.2.2.1)))
    have k_xN2 : xN2 W := by
      rw [hW]
      exact (uxN2 rfl (uxN2 rfl (uxN2 (sinc_ok rfl _) hI.2.2.2.2.2.1)))
    have k_xN3 : xN3 W := by
      rw [hW]
      exact (uxN3 rfl (uxN3 rfl (uxN3 (sinc_ok rfl _) hI.2.2.2.2.2.2.1)))
    have k_xN4 : xN4 W := by
      rw [hW]
      exact (uxN4 rfl (uxN4 rfl (uxN4 (sinc_ok rfl _) hI.2.2.2.2.2.2.2.1)))
    have k_xN5 : xN5 W := by
      rw [hW]
      exact (uxN5 rfl (uxN5 rfl (uxN5 (sinc_ok rfl _) hI.2.2.2.2.2.2.2.2.1)))
    have k_xN6 : xN6 W := by
      rw [hW]
      exact (uxN6 rfl (uxN6 rfl (uxN6 (sinc_ok rfl _) hI.2.2.2.2.2.2.2.2.2.1)))
    have k_xH1 : xH1 W := by
      rw [hW]
      exact (uxH1 rfl (uxH1 rfl (uxH1 (sinc_ok rfl _) hI.2.2.2.2.2.2.2.2.2.2.1)))
    have k_xK1 : xK1 W := by
      rw [hW]
      exact (uxK1 rfl (uxK1 rfl (uxK1 (sinc_ok rfl _) hI.2.2.2.2.2.2.2.2.2.2.2.1)))
    have k_xC1 : xC1 W := by
      rw [hW]
      exact (uxC1 rfl (uxC1 rfl (uxC1 (sinc_ok rfl _) hI.2.2.2.2.2.2.2.2.2.2.2.2.1)))
    have k_xRW : xRW W := by
      rw [hW]
      exact (uxRW rfl (uxRW rfl (uxRW (sinc_ok rfl _) hI.2.2.2.2.2.2.2.2.2.2.2.2.2.1)))
    have k_xWT : xWT W := by
      rw [hW]
      exact (uxWT rfl (uxWT rfl (uxWT (sinc_ok rfl _) hI.2.2.2.2.2.2.2.2.2.2.2.2.2.2.1)))
    have k_xCU : xCU W := by
      rw [hW]
      exact (uxCU rfl (uxCU rfl (uxCU (sinc_ok rfl _) hI.2.2.2.2.2.2.2.2.2.2.2.2.2.2.2.1)))
    have k_xG2 : xG2 W := by
      rw [hW]
      exact (uxG2 rfl (uxG2 rfl (uxG2 (sinc_ok rfl _) hI.2.2.2.2.2.2.2.2.2.2.2.2.2.2.2.2.1)))
    have k_xG3 : xG3 W := by
      rw [hW]
      exact (uxG3 rfl (uxG3 rfl (uxG3 (sinc_ok rfl _) hI.2.2.2.2.2.2.2.2.2.2.2.2.2.2.2.2.2.1)))
    have k_xG4 : xG4 W := by
      rw [hW]
      exact (uxG4 rfl (uxG4 rfl (uxG4 (sinc_ok rfl _) hI.2.2.2.2.2.2.2.2.2.2.2.2.2.2.2.2.2.2.1)))
    have k_xG5 : xG5 W := by
      rw [hW]
      exact (uxG5 rfl (uxG5 rfl (uxG5 (sinc_ok rfl _) hI.2.2.2.2.2.2.2.2.2.2.2.2.2.2.2.2.2.2.2.1)))
    have k_xG6 : xG6 W := by
      rw [hW]
      exact (uxG6 rfl (uxG6 rfl (uxG6 (sinc_ok rfl _) hI.2.2.2.2.2.2.2.2.2.2.2.2.2.2.2.2.2.2.2.2.1)))
    have k_xS1 : xS1 W := by
      have r : W 4 100 = 0 := by
        have e := m6
        rw [hW, sU_ne (fun z => by omega), sU_ne (fun z => by omega), sU_ne (fun z => by omega)]
        omega
      intro h
      rw [r] at h
      exact absurd rfl h
    have k_xS2 : xS2 W := by
      have r : W 4 100 = 0 := by
        have e := m6
        rw [hW, sU_ne (fun z => by omega), sU_ne (fun z => by omega), sU_ne (fun z => by omega)]
        omega
      intro h
      rw [r] at h
      exact absurd rfl h
    have k_xS3 : xS3 W := by
      have r : W 4 100 = 0 := by
        have e := m6
        rw [hW, sU_ne (fun z => by omega), sU_ne (fun z => by omega), sU_ne (fun z => by omega)]
        omega
      intro h
      rw [r] at h
      exact absurd rfl h
    have k_xS4 : xS4 W := by
      rw [hW]
      exact (uxS4 rfl (uxS4 rfl (uxS4 (sinc_ok rfl _) hI.2.2.2.2.2.2.2.2.2.2.2.2.2.2.2.2.2.2.2.2.2.2.2.2.1)))
    have k_xS5 : xS5 W := by
      rw [hW]
      exact (uxS5 rfl (uxS5 rfl (uxS5 (sinc_ok rfl _) hI.2.2.2.2.2.2.2.2.2.2.2.2.2.2.2.2.2.2.2.2.2.2.2.2.2.1)))
    have k_xS6 : xS6 W := by
      rw [hW]
      exact (uxS6 rfl (uxS6 rfl (uxS6 (sinc_ok rfl _) hI.2.2.2.2.2.2.2.2.2.2.2.2.2.2.2.2.2.2.2.2.2.2.2.2.2.2.1)))
    have k_xS7 : xS7 W := by
      have r : W 4 200 = 0 := by
        have e := m7
        rw [hW, sU_ne (fun z => by omega), sU_ne (fun z => by omega), sU_ne (fun z => by omega)]
        omega
      intro h
      rw [r] at h
      omega
    have k_xS8 : xS8 W := by
      have r : W 4 210 = 0 := by
        have e := m8
        rw [hW, sU_ne (fun z => by omega), sU_ne (fun z => by omega), sU_ne (fun z => by omega)]
        omega
      intro h
      rw [r] at h
      omega
    have k_xS9 : xS9 W := by
      have r : W 4 212 = 0 := by
        have e := m9
        rw [hW, sU_ne (fun z => by omega), sU_ne (fun z => by omega), sU_ne (fun z => by omega)]
        omega
      intro h
      rw [r] at h
      omega
    have k_xSA : xSA W := by
      have r : W 4 214 = 0 := by
        have e := m10
        rw [hW, sU_ne (fun z => by omega), sU_ne (fun z => by omega), sU_ne (fun z => by omega)]
        omega
      intro h
      rw [r] at h
      omega
    have k_xSG : xSG W := by
      have r : W 4 235 = 0 := by
        have e := m13
        rw [hW, sU_ne (fun z => by omega), sU_ne (fun z => by omega), sU_ne (fun z => by omega)]
        omega
      intro h
      rw [r] at h
      omega
    have k_xSF : xSF W := by
      have r : W 4 233 = 0 := by
        have e := m12
        rw [hW, sU_ne (fun z => by omega), sU_ne (fun z => by omega), sU_ne (fun z => by omega)]
        omega
      intro h
      rw [r] at h
      omega
    have k_xSB : xSB W := by
      have r : W 4 220 = 0 := by
        have e := m11
        rw [hW, sU_ne (fun z => by omega), sU_ne (fun z => by omega), sU_ne (fun z => by omega)]
        omega
      intro h
      rw [r] at h
      omega
    have k_xSC : xSC W := by
      rw [hW]
      exact (uxSC rfl (uxSC rfl (uxSC (sinc_ok rfl _) hI.2.2.2.2.2.2.2.2.2.2.2.2.2.2.2.2.2.2.2.2.2.2.2.2.2.2.2.2.2.2.2.2.2.2.1)))
    have k_xSD : xSD W := by
      rw [hW]
      exact (uxSD rfl (uxSD rfl (uxSD (sinc_ok rfl _) hI.2.2.2.2.2.2.2.2.2.2.2.2.2.2.2.2.2.2.2.2.2.2.2.2.2.2.2.2.2.2.2.2.2.2.2.1)))
    have k_xSE : xSE W := by
      rw [hW]
      exact (uxSE rfl (uxSE rfl (uxSE (sinc_ok rfl _) hI.2.2.2.2.2.2.2.2.2.2.2.2.2.2.2.2.2.2.2.2.2.2.2.2.2.2.2.2.2.2.2.2.2.2.2.2.1)))
    have k_xSW : xSW W := by
      rw [hW]
      exact (uxSW rfl (uxSW rfl (uxSW (sinc_ok rfl _) hI.2.2.2.2.2.2.2.2.2.2.2.2.2.2.2.2.2.2.2.2.2.2.2.2.2.2.2.2.2.2.2.2.2.2.2.2.2.1)))
    have k_xST : xST W := by
      have r4_261 : W 4 261 = 1 * ρ 0 + (1 * ρ 3 + 0) := by rw [hW, sU_at]
      have c1 : ∀ k, W 1 k = M 1 k := fun k => by rw [hW, sU_ne (fun z => by omega), sU_ne (fun z => by omega), sU_ne (fun z => by omega)]
      have e1 : W 1 = M 1 := funext c1
      have c92 : ∀ k : Nat, k ≠ (1 * ρ 1 + 0).toNat → W 92 k = M 92 k := fun k hk => by rw [hW, sU_ne (fun z => by omega), sU_ne (fun z => by omega), sU_ne (fun z => by omega)]
      have a92 : W 92 (1 * ρ 1 + 0).toNat = 1 * ρ 2 + 0 := by rw [hW, sU_ne (fun z => by omega), sU_ne (fun z => by omega), sU_at]
      intro i hi
      rw [r4_261, h0] at hi
      rw [e1]
      by_cases hx : i = (1 * ρ 1 + 0).toNat
      · rw [hx, a92]
        obtain ⟨p1, p2, p3⟩ := gx_xSP hI
        have := p2 7 (by omega) (by omega)
        rw [show (M 4 263).toNat + 7 = (1 * ρ 1 + 0).toNat by omega] at this
        have this : M 1 (1 * ρ 1 + 0).toNat = tSn (tBy (M 4 266) 7) := this
        rw [this, ← tb]
        congr 1
        omega
      · rw [c92 i hx]
        exact qxST i (by omega)
    have k_xSP : xSP W := by
      have r4_262 : W 4 262 = M 4 262 := by rw [hW, sU_ne (fun z => by omega), sU_ne (fun z => by omega), sU_ne (fun z => by omega)]
      have r4_263 : W 4 263 = M 4 263 := by rw [hW, sU_ne (fun z => by omega), sU_ne (fun z => by omega), sU_ne (fun z => by omega)]
      have r4_264 : W 4 264 = M 4 264 := by rw [hW, sU_ne (fun z => by omega), sU_ne (fun z => by omega), sU_ne (fun z => by omega)]
      have r4_265 : W 4 265 = M 4 265 := by rw [hW, sU_ne (fun z => by omega), sU_ne (fun z => by omega), sU_ne (fun z => by omega)]
      have r4_266 : W 4 266 = M 4 266 := by rw [hW, sU_ne (fun z => by omega), sU_ne (fun z => by omega), sU_ne (fun z => by omega)]
      have r4_267 : W 4 267 = M 4 267 := by rw [hW, sU_ne (fun z => by omega), sU_ne (fun z => by omega), sU_ne (fun z => by omega)]
      have r4_268 : W 4 268 = M 4 268 := by rw [hW, sU_ne (fun z => by omega), sU_ne (fun z => by omega), sU_ne (fun z => by omega)]
      have r4_269 : W 4 269 = M 4 269 := by rw [hW, sU_ne (fun z => by omega), sU_ne (fun z => by omega), sU_ne (fun z => by omega)]
      have c1 : ∀ k, W 1 k = M 1 k := fun k => by rw [hW, sU_ne (fun z => by omega), sU_ne (fun z => by omega), sU_ne (fun z => by omega)]
      have e1 : W 1 = M 1 := funext c1
      have c92 : ∀ k : Nat, k ≠ (1 * ρ 1 + 0).toNat → W 92 k = M 92 k := fun k hk => by rw [hW, sU_ne (fun z => by omega), sU_ne (fun z => by omega), sU_ne (fun z => by omega)]
      have a92 : W 92 (1 * ρ 1 + 0).toNat = 1 * ρ 2 + 0 := by rw [hW, sU_ne (fun z => by omega), sU_ne (fun z => by omega), sU_at]
      unfold xSP
      rw [r4_262, r4_263, r4_264, e1]
      obtain ⟨p1, p2, p3⟩ := gx_xSP hI
      refine ⟨p1, fun q hq hl => ?_, fun q hq hl => by omega⟩
      have e4 : ∀ x, x ≠ 261 → W 4 x = M 4 x := fun x hx => by rw [hW, sU_ne (fun z => by omega), sU_ne (fun z => by omega), sU_ne (fun z => by omega)]
      rw [e4 _ (by omega)]
      exact p2 q hq hl
    have k_xSL : xSL W := by
      rw [hW]
      exact (uxSL rfl (uxSL rfl (uxSL (sinc_ok rfl _) hI.2.2.2.2.2.2.2.2.2.2.2.2.2.2.2.2.2.2.2.2.2.2.2.2.2.2.2.2.2.2.2.2.2.2.2.2.2.2.2.2.1)))
    have k_xSM : xSM W := by
      rw [hW]
      exact (uxSM rfl (uxSM rfl (uxSM (sinc_ok rfl _) hI.2.2.2.2.2.2.2.2.2.2.2.2.2.2.2.2.2.2.2.2.2.2.2.2.2.2.2.2.2.2.2.2.2.2.2.2.2.2.2.2.2.1)))
    have k_xSI : xSI W := by
      rw [hW]
      exact (uxSI rfl (uxSI rfl (uxSI (sinc_ok rfl _) hI.2.2.2.2.2.2.2.2.2.2.2.2.2.2.2.2.2.2.2.2.2.2.2.2.2.2.2.2.2.2.2.2.2.2.2.2.2.2.2.2.2.2)))
    have k_XC : XC W := ⟨k_xS1, k_xS2, k_xS3, k_xS4, k_xS5, k_xS6, k_xS7, k_xS8, k_xS9, k_xSA, k_xSG, k_xSF, k_xSB, k_xSC, k_xSD, k_xSE, k_xSW, k_xST, k_xSP, k_xSL, k_xSM, k_xSI⟩
    have kXB : XB W := ⟨k_xN1, k_xN2, k_xN3, k_xN4, k_xN5, k_xN6, k_xH1, k_xK1, k_xC1, k_xRW, k_xWT, k_xCU, k_xG2, k_xG3, k_xG4, k_xG5, k_xG6, k_XC⟩
    exact ⟨base, k2, k3, kXA, kXB⟩
-- fdC8
def xr_622 : qRu := (11, [[(-8, 0), (1, 1), (-1, 4)], [(8, 0), (-1, 1), (1, 4)], [(1, 1), (-1, 3)], [(1, 4)], [(699, 0), (-1, 1)], [(1, 1)], [(-24, 0), (1, 6)], [(24, 0), (-1, 6)], [(1, 5), (-1, 8)], [(-1, 5), (1, 8)], [(-1, 2), (1, 9)], [(1, 2), (-1, 9)], [(-1, 7), (1, 10)], [(1, 7), (-1, 10)], [(128, 0), (1, 2)], [(127, 0), (-1, 2)]], [(4, 100, []), (4, 261, [(1, 3)]), (4, 262, [(8, 0)]), (4, 263, [(1, 4)]), (4, 267, [(1, 8)]), (91, 259, [(1, 0)]), (91, 248, [(1, 10)]), (91, 258, [(1, 9)]), (91, 249, [(1, 0)]), (91, 250, [(1, 5)]), (91, 251, [(1, 6)]), (91, 252, [(1, 7)])], [(1, [(1, 1)], [(1, 2)])], [(4, 262, [(9, 0)])], [])
theorem xo_622 : qRok xr_622 := by
  intro ρ M h0 hf hm hI
  have f0 := hf [(-8, 0), (1, 1), (-1, 4)] (by decide)
  have f1 := hf [(8, 0), (-1, 1), (1, 4)] (by decide)
  have f2 := hf [(1, 1), (-1, 3)] (by decide)
  have f3 := hf [(1, 4)] (by decide)
  have f4 := hf [(699, 0), (-1, 1)] (by decide)
  have f5 := hf [(1, 1)] (by decide)
  have f6 := hf [(-24, 0), (1, 6)] (by decide)
  have f7 := hf [(24, 0), (-1, 6)] (by decide)
  have f8 := hf [(1, 5), (-1, 8)] (by decide)
  have f9 := hf [(-1, 5), (1, 8)] (by decide)
  have f10 := hf [(-1, 2), (1, 9)] (by decide)
  have f11 := hf [(1, 2), (-1, 9)] (by decide)
  have f12 := hf [(-1, 7), (1, 10)] (by decide)
  have f13 := hf [(1, 7), (-1, 10)] (by decide)
  have f14 := hf [(128, 0), (1, 2)] (by decide)
  have f15 := hf [(127, 0), (-1, 2)] (by decide)
  simp only [qD, h0] at f0 f1 f2 f3 f4 f5 f6 f7 f8 f9 f10 f11 f12 f13 f14 f15
  have m0 : M 4 100 = 0 := hm (4, 100, []) (by decide)
  have m1 : M 4 261 = 1 * ρ 3 + 0 := hm (4, 261, [(1, 3)]) (by decide)
  have m2 : M 4 262 = 8 * ρ 0 + 0 := hm (4, 262, [(8, 0)]) (by decide)
  have m3 : M 4 263 = 1 * ρ 4 + 0 := hm (4, 263, [(1, 4)]) (by decide)
  have m4 : M 4 267 = 1 * ρ 8 + 0 := hm (4, 267, [(1, 8)]) (by decide)
  have m5 : M 91 259 = 1 * ρ 0 + 0 := hm (91, 259, [(1, 0)]) (by decide)
  have m6 : M 91 248 = 1 * ρ 10 + 0 := hm (91, 248, [(1, 10)]) (by decide)
  have m7 : M 91 258 = 1 * ρ 9 + 0 := hm (91, 258, [(1, 9)]) (by decide)
  have m8 : M 91 249 = 1 * ρ 0 + 0 := hm (91, 249, [(1, 0)]) (by decide)
  have m9 : M 91 250 = 1 * ρ 5 + 0 := hm (91, 250, [(1, 5)]) (by decide)
  have m10 : M 91 251 = 1 * ρ 6 + 0 := hm (91, 251, [(1, 6)]) (by decide)
  have m11 : M 91 252 = 1 * ρ 7 + 0 := hm (91, 252, [(1, 7)]) (by decide)
  simp only [h0] at m2 m5 m8
  have qxST := hI.2.2.2.2.2.2.2.2.2.2.2.2.2.2.2.2.2.2.2.2.2.2.2.2.2.2.2.2.2.2.2.2.2.2.2.2.2.2.1
  have qxSP := hI.2.2.2.2.2.2.2.2.2.2.2.2.2.2.2.2.2.2.2.2.2.2.2.2.2.2.2.2.2.2.2.2.2.2.2.2.2.2.2.1
  obtain ⟨g1, g2, g3, g4⟩ := gx_xSE hI (by omega)
  have tb : xop 1 (M 91 252) 255 = tBy (M 4 267) 8 := by
    unfold tBy
    rw [g1, show M 91 250 = M 4 267 by omega, show M 91 251 = 24 by omega]
    rfl

  have gi := gx_xSI hI (by omega)
  rw [show M 91 248 = M 91 252 by omega] at gi
  refine ⟨ρ, fun _ _ => rfl, fun f h => ?_, ?_⟩
  · exact nomatch h
  · show sI (sU (sU M 1 (1 * ρ 1 + 0 : Int).toNat (1 * ρ 2 + 0)) 4 262 (9 * ρ 0 + 0))
    obtain ⟨W, hW⟩ : ∃ W, W = (sU (sU M 1 (1 * ρ 1 + 0).toNat (1 * ρ 2 + 0)) 4 262 (9 * ρ 0 + 0)) := ⟨_, rfl⟩
    rw [← hW]
    have base : sI0 W := by
      rw [hW]
      exact (si_u0 (si_u0 hI.1 (fun r hr => by rw [xt_1 hr]; exact ⟨by show (-128 : Int) ≤ _; omega, by show _ ≤ (127 : Int); omega⟩)) (fun r hr => by cases hr))
    have k2 : XI2 W := by
      rw [hW]
      exact (xi2_u rfl (xi2_u (sinc_ok rfl _) hI.2.1))
    have k3 : XI3 W := by
      rw [hW]
      exact (xi3_u rfl (xi3_u (sinc_ok rfl _) hI.2.2.1))
    have kXA : XA W := by
      rw [hW]
      exact (uXA rfl (uXA (sinc_ok rfl _) hI.2.2.2.1))
    have k_xN1 : xN1 W := by
      rw [hW]
      exact (uxN1 rfl (uxN1 (sinc_ok rfl _) hI.2.2.2.2.1))
    have k_xN2 : xN2 W := by
      rw [hW]
      exact (uxN2 rfl (uxN2 (sinc_ok rfl _) hI.2.2.2.2.2.1))
    have k_xN3 : xN3 W := by
      rw [hW]
      exact (uxN3 rfl (uxN3 (sinc_ok rfl _) hI.2.2.2.2.2.2.1))
    have k_xN4 : xN4 W := by
      rw [hW]
      exact (uxN4 rfl (uxN4 (sinc_ok rfl _) hI.2.2.2.2.2.2.2.1))
    have k_xN5 : xN5 W := by
      rw [hW]
      exact (uxN5 rfl (uxN5 (sinc_ok rfl _) hI.2.2.2.2.2.2.2.2.1))
    have k_xN6 : xN6 W := by
      rw [hW]
      exact (uxN6 rfl (uxN6 (sinc_ok rfl _) hI.2.2.2.2.2.2.2.2.2.1))
    have k_xH1 : xH1 W := by
      rw [hW]
      exact (uxH1 rfl (uxH1 (sinc_ok rfl _) hI.2.2.2.2.2.2.2.2.2.2.1))
    have k_xK1 : xK1 W := by
      rw [hW]
      exact (uxK1 rfl (uxK1 (sinc_ok rfl _) hI.2.2.2.2.2.2.2.2.2.2.2.1))
    have k_xC1 : xC1 W := by
      rw [hW]
      exact (uxC1 rfl (uxC1 (sinc_ok rfl _) hI.2.2.2.2.2.2.2.2.2.2.2.2.1))
    have k_xRW : xRW W := by
      rw [hW]
      exact (uxRW rfl (uxRW (sinc_ok rfl _) hI.2.2.2.2.2.2.2.2.2.2.2.2.2.1))
    have k_xWT : xWT W := by
      rw [hW]
      exact (uxWT rfl (uxWT (sinc_ok rfl _) hI.2.2.2.2.2.2.2.2.2.2.2.2.2.2.1))
    have k_xCU : xCU W := by
      rw [hW]
      exact (uxCU rfl (uxCU (sinc_ok rfl _) hI.2.2.2.2.2.2.2.2.2.2.2.2.2.2.2.1))
    have k_xG2 : xG2 W := by
      rw [hW]
      exact (uxG2 rfl (uxG2 (sinc_ok rfl _) hI.2.2.2.2.2.2.2.2.2.2.2.2.2.2.2.2.1))
    have k_xG3 : xG3 W := by
      rw [hW]
      exact (uxG3 rfl (uxG3 (sinc_ok rfl _) hI.2.2.2.2.2.2.2.2.2.2.2.2.2.2.2.2.2.1))
    have k_xG4 : xG4 W := by
      rw [hW]
      exact (uxG4 rfl (uxG4 (sinc_ok rfl _) hI.2.2.2.2.2.2.2.2.2.2.2.2.2.2.2.2.2.2.1))
    have k_xG5 : xG5 W := by
      rw [hW]
      exact (uxG5 rfl (uxG5 (sinc_ok rfl _) hI.2.2.2.2.2.2.2.2.2.2.2.2.2.2.2.2.2.2.2.1))
    have k_xG6 : xG6 W := by
      rw [hW]
      exact (uxG6 rfl (uxG6 (sinc_ok rfl _) hI.2.2.2.2.2.2.2.2.2.2.2.2.2.2.2.2.2.2.2.2.1))
    have k_xS1 : xS1 W := by
      have r : W 4 100 = 0 := by
        have e := m0
        rw [hW, sU_ne (fun z => by omega), sU_ne (fun z => by omega)]
        omega
      intro h
      rw [r] at h
      exact absurd rfl h
    have k_xS2 : xS2 W := by
      rw [hW]
      exact (uxS2 rfl (uxS2 (sinc_ok rfl _) hI.2.2.2.2.2.2.2.2.2.2.2.2.2.2.2.2.2.2.2.2.2.2.1))
    have k_xS3 : xS3 W := by
      rw [hW]
      exact (uxS3 rfl (uxS3 (sinc_ok rfl _) hI.2.2.2.2.2.2.2.2.2.2.2.2.2.2.2.2.2.2.2.2.2.2.2.1))
    have k_xS4 : xS4 W := by
      rw [hW]
      exact (uxS4 rfl (uxS4 (sinc_ok rfl _) hI.2.2.2.2.2.2.2.2.2.2.2.2.2.2.2.2.2.2.2.2.2.2.2.2.1))
    have k_xS5 : xS5 W := by
      rw [hW]
      exact (uxS5 rfl (uxS5 (sinc_ok rfl _) hI.2.2.2.2.2.2.2.2.2.2.2.2.2.2.2.2.2.2.2.2.2.2.2.2.2.1))
    have k_xS6 : xS6 W := by
      rw [hW]
      exact (uxS6 rfl (uxS6 (sinc_ok rfl _) hI.2.2.2.2.2.2.2.2.2.2.2.2.2.2.2.2.2.2.2.2.2.2.2.2.2.2.1))
    have k_xS7 : xS7 W := by
      rw [hW]
      exact (uxS7 rfl (uxS7 (sinc_ok rfl _) hI.2.2.2.2.2.2.2.2.2.2.2.2.2.2.2.2.2.2.2.2.2.2.2.2.2.2.2.1))
    have k_xS8 : xS8 W := by
      rw [hW]
      exact (uxS8 rfl (uxS8 (sinc_ok rfl _) hI.2.2.2.2.2.2.2.2.2.2.2.2.2.2.2.2.2.2.2.2.2.2.2.2.2.2.2.2.1))
    have k_xS9 : xS9 W := by
      rw [hW]
      exact (uxS9 rfl (uxS9 (sinc_ok rfl _) hI.2.2.2.2.2.2.2.2.2.2.2.2.2.2.2.2.2.2.2.2.2.2.2.2.2.2.2.2.2.1))
    have k_xSA : xSA W := by
      rw [hW]
      exact (uxSA rfl (uxSA (sinc_ok rfl _) hI.2.2.2.2.2.2.2.2.2.2.2.2.2.2.2.2.2.2.2.2.2.2.2.2.2.2.2.2.2.2.1))
    have k_xSG : xSG W := by
      rw [hW]
      exact (uxSG rfl (uxSG (sinc_ok rfl _) hI.2.2.2.2.2.2.2.2.2.2.2.2.2.2.2.2.2.2.2.2.2.2.2.2.2.2.2.2.2.2.2.1))
    have k_xSF : xSF W := by
      rw [hW]
      exact (uxSF rfl (uxSF (sinc_ok rfl _) hI.2.2.2.2.2.2.2.2.2.2.2.2.2.2.2.2.2.2.2.2.2.2.2.2.2.2.2.2.2.2.2.2.1))
    have k_xSB : xSB W := by
      rw [hW]
      exact (uxSB rfl (uxSB (sinc_ok rfl _) hI.2.2.2.2.2.2.2.2.2.2.2.2.2.2.2.2.2.2.2.2.2.2.2.2.2.2.2.2.2.2.2.2.2.1))
    have k_xSC : xSC W := by
      rw [hW]
      exact (uxSC rfl (uxSC (sinc_ok rfl _) hI.2.2.2.2.2.2.2.2.2.2.2.2.2.2.2.2.2.2.2.2.2.2.2.2.2.2.2.2.2.2.2.2.2.2.1))
    have k_xSD : xSD W := by
      rw [hW]
      exact (uxSD rfl (uxSD (sinc_ok rfl _) hI.2.2.2.2.2.2.2.2.2.2.2.2.2.2.2.2.2.2.2.2.2.2.2.2.2.2.2.2.2.2.2.2.2.2.2.1))
    have k_xSE : xSE W := by
      rw [hW]
      exact (uxSE rfl (uxSE (sinc_ok rfl _) hI.2.2.2.2.2.2.2.2.2.2.2.2.2.2.2.2.2.2.2.2.2.2.2.2.2.2.2.2.2.2.2.2.2.2.2.2.1))
    have k_xSW : xSW W := by
      rw [hW]
      exact (uxSW rfl (uxSW (sinc_ok rfl _) hI.2.2.2.2.2.2.2.2.2.2.2.2.2.2.2.2.2.2.2.2.2.2.2.2.2.2.2.2.2.2.2.2.2.2.2.2.2.1))
    have k_xST : xST W := by
      have r4_261 : W 4 261 = M 4 261 := by rw [hW, sU_ne (fun z => by omega), sU_ne (fun z => by omega)]
      have c1 : ∀ k : Nat, k ≠ (1 * ρ 1 + 0).toNat → W 1 k = M 1 k := fun k hk => by rw [hW, sU_ne (fun z => by omega), sU_ne (fun z => by omega)]
      have a1 : W 1 (1 * ρ 1 + 0).toNat = 1 * ρ 2 + 0 := by rw [hW, sU_ne (fun z => by omega), sU_at]
      have c92 : ∀ k, W 92 k = M 92 k := fun k => by rw [hW, sU_ne (fun z => by omega), sU_ne (fun z => by omega)]
      have e92 : W 92 = M 92 := funext c92
      intro i hi
      rw [r4_261] at hi
      rw [c1 i (by omega), e92]
      exact qxST i hi
    have k_xSP : xSP W := by
      have r4_262 : W 4 262 = 9 * ρ 0 + 0 := by rw [hW, sU_at]
      have r4_263 : W 4 263 = M 4 263 := by rw [hW, sU_ne (fun z => by omega), sU_ne (fun z => by omega)]
      have r4_264 : W 4 264 = M 4 264 := by rw [hW, sU_ne (fun z => by omega), sU_ne (fun z => by omega)]
      have r4_265 : W 4 265 = M 4 265 := by rw [hW, sU_ne (fun z => by omega), sU_ne (fun z => by omega)]
      have r4_266 : W 4 266 = M 4 266 := by rw [hW, sU_ne (fun z => by omega), sU_ne (fun z => by omega)]
      have r4_267 : W 4 267 = M 4 267 := by rw [hW, sU_ne (fun z => by omega), sU_ne (fun z => by omega)]
      have r4_268 : W 4 268 = M 4 268 := by rw [hW, sU_ne (fun z => by omega), sU_ne (fun z => by omega)]
      have r4_269 : W 4 269 = M 4 269 := by rw [hW, sU_ne (fun z => by omega), sU_ne (fun z => by omega)]
      have c1 : ∀ k : Nat, k ≠ (1 * ρ 1 + 0).toNat → W 1 k = M 1 k := fun k hk => by rw [hW, sU_ne (fun z => by omega), sU_ne (fun z => by omega)]
      have a1 : W 1 (1 * ρ 1 + 0).toNat = 1 * ρ 2 + 0 := by rw [hW, sU_ne (fun z => by omega), sU_at]
      have c92 : ∀ k, W 92 k = M 92 k := fun k => by rw [hW, sU_ne (fun z => by omega), sU_ne (fun z => by omega)]
      have e92 : W 92 = M 92 := funext c92
      unfold xSP
      rw [r4_262, r4_263, r4_264, e92]
      obtain ⟨p1, p2, p3⟩ := qxSP
      have e4 : ∀ x, x ≠ 262 → W 4 x = M 4 x := fun x hx => by rw [hW, sU_ne (fun z => by omega), sU_ne (fun z => by omega)]
      refine ⟨p1, fun q hq hl => ?_, fun q hq hl => by rw [e4 _ (by omega)]; exact p3 q hq hl⟩
      rw [h0] at hl
      rw [e4 _ (by omega)]
      by_cases hj : q = 8
      · subst hj
        show W 1 ((M 4 263).toNat + 8) = tSn (tBy (M 4 267) 8)
        rw [show (M 4 263).toNat + 8 = (1 * ρ 1 + 0).toNat by omega, a1, ← tb]
        have := xi2b (M 91 252)
        omega
      · rw [c1 _ (by omega)]
        exact p2 q hq (by omega)
    have k_xSL : xSL W := by
      rw [hW]
      exact (uxSL rfl (uxSL (sinc_ok rfl _) hI.2.2.2.2.2.2.2.2.2.2.2.2.2.2.2.2.2.2.2.2.2.2.2.2.2.2.2.2.2.2.2.2.2.2.2.2.2.2.2.2.1))
    have k_xSM : xSM W := by
      rw [hW]
      exact (uxSM rfl (uxSM (sinc_ok rfl _) hI.2.2.2.2.2.2.2.2.2.2.2.2.2.2.2.2.2.2.2.2.2.2.2.2.2.2.2.2.2.2.2.2.2.2.2.2.2.2.2.2.2.1))
    have k_xSI : xSI W := by
      rw [hW]
      exact (uxSI rfl (uxSI (sinc_ok rfl _) hI.2.2.2.2.2.2.2.2.2.2.2.2.2.2.2.2.2.2.2.2.2.2.2.2.2.2.2.2.2.2.2.2.2.2.2.2.2.2.2.2.2.2))
    have k_XC : XC W := ⟨k_xS1, k_xS2, k_xS3, k_xS4, k_xS5, k_xS6, k_xS7, k_xS8, k_xS9, k_xSA, k_xSG, k_xSF, k_xSB, k_xSC, k_xSD, k_xSE, k_xSW, k_xST, k_xSP, k_xSL, k_xSM, k_xSI⟩
    have kXB : XB W := ⟨k_xN1, k_xN2, k_xN3, k_xN4, k_xN5, k_xN6, k_xH1, k_xK1, k_xC1, k_xRW, k_xWT, k_xCU, k_xG2, k_xG3, k_xG4, k_xG5, k_xG6, k_XC⟩
    exact ⟨base, k2, k3, kXA, kXB⟩
-- fdW8
def xr_623 : qRu := (11, [[(-8, 0), (1, 1), (-1, 4)], [(8, 0), (-1, 1), (1, 4)], [(1, 1), (-1, 3)], [(-1, 1), (1, 3)], [(1, 4)], [(699, 0), (-1, 1)], [(1, 1)], [(-24, 0), (1, 6)], [(24, 0), (-1, 6)], [(1, 5), (-1, 8)], [(-1, 5), (1, 8)], [(-1, 2), (1, 9)], [(1, 2), (-1, 9)], [(1, 2)], [(255, 0), (-1, 2)]], [(4, 261, [(1, 3)]), (4, 262, [(20, 0)]), (4, 263, [(1, 4)]), (4, 264, []), (4, 267, [(1, 8)]), (91, 257, [(1, 9)]), (4, 100, []), (4, 200, []), (4, 210, []), (4, 212, []), (4, 214, []), (4, 220, []), (4, 233, []), (4, 235, []), (91, 249, [(1, 0)]), (91, 250, [(1, 5)]), (91, 251, [(1, 6)]), (91, 252, [(1, 7)])], [(92, [(1, 1)], [(1, 2)])], [(91, 990, [(1, 11)]), (4, 261, [(1, 0), (1, 3)])], [])
theorem xo_623 : qRok xr_623 := by
  intro ρ M h0 hf hm hI
  have f0 := hf [(-8, 0), (1, 1), (-1, 4)] (by decide)
  have f1 := hf [(8, 0), (-1, 1), (1, 4)] (by decide)
  have f2 := hf [(1, 1), (-1, 3)] (by decide)
  have f3 := hf [(-1, 1), (1, 3)] (by decide)
  have f4 := hf [(1, 4)] (by decide)
  have f5 := hf [(699, 0), (-1, 1)] (by decide)
  have f6 := hf [(1, 1)] (by decide)
  have f7 := hf [(-24, 0), (1, 6)] (by decide)
  have f8 := hf [(24, 0), (-1, 6)] (by decide)
  have f9 := hf [(1, 5), (-1, 8)] (by decide)
  have f10 := hf [(-1, 5), (1, 8)] (by decide)
  have f11 := hf [(-1, 2), (1, 9)] (by decide)
  have f12 := hf [(1, 2), (-1, 9)] (by decide)
  have f13 := hf [(1, 2)] (by decide)
  have f14 := hf [(255, 0), (-1, 2)] (by decide)
  simp only [qD, h0] at f0 f1 f2 f3 f4 f5 f6 f7 f8 f9 f10 f11 f12 f13 f14
  have m0 : M 4 261 = 1 * ρ 3 + 0 := hm (4, 261, [(1, 3)]) (by decide)
  have m1 : M 4 262 = 20 * ρ 0 + 0 := hm (4, 262, [(20, 0)]) (by decide)
  have m2 : M 4 263 = 1 * ρ 4 + 0 := hm (4, 263, [(1, 4)]) (by decide)
  have m3 : M 4 264 = 0 := hm (4, 264, []) (by decide)
  have m4 : M 4 267 = 1 * ρ 8 + 0 := hm (4, 267, [(1, 8)]) (by decide)
  have m5 : M 91 257 = 1 * ρ 9 + 0 := hm (91, 257, [(1, 9)]) (by decide)
  have m6 : M 4 100 = 0 := hm (4, 100, []) (by decide)
  have m7 : M 4 200 = 0 := hm (4, 200, []) (by decide)
  have m8 : M 4 210 = 0 := hm (4, 210, []) (by decide)
  have m9 : M 4 212 = 0 := hm (4, 212, []) (by decide)
  have m10 : M 4 214 = 0 := hm (4, 214, []) (by decide)
  have m11 : M 4 220 = 0 := hm (4, 220, []) (by decide)
  have m12 : M 4 233 = 0 := hm (4, 233, []) (by decide)
  have m13 : M 4 235 = 0 := hm (4, 235, []) (by decide)
  have m14 : M 91 249 = 1 * ρ 0 + 0 := hm (91, 249, [(1, 0)]) (by decide)
  have m15 : M 91 250 = 1 * ρ 5 + 0 := hm (91, 250, [(1, 5)]) (by decide)
  have m16 : M 91 251 = 1 * ρ 6 + 0 := hm (91, 251, [(1, 6)]) (by decide)
  have m17 : M 91 252 = 1 * ρ 7 + 0 := hm (91, 252, [(1, 7)]) (by decide)
  simp only [h0] at m1 m14
  have qxST := hI.2.2.2.2.2.2.2.2.2.2.2.2.2.2.2.2.2.2.2.2.2.2.2.2.2.2.2.2.2.2.2.2.2.2.2.2.2.2.1
  have qxSP := hI.2.2.2.2.2.2.2.2.2.2.2.2.2.2.2.2.2.2.2.2.2.2.2.2.2.2.2.2.2.2.2.2.2.2.2.2.2.2.2.1
  obtain ⟨g1, g2, g3, g4⟩ := gx_xSE hI (by omega)
  have tb : xop 1 (M 91 252) 255 = tBy (M 4 267) 8 := by
    unfold tBy
    rw [g1, show M 91 250 = M 4 267 by omega, show M 91 251 = 24 by omega]
    rfl

  have g257 := g4
  refine ⟨fun a => cond (Nat.blt a 11) (ρ a) (([xH (sU M 92 (1 * ρ 1 + 0).toNat (1 * ρ 2 + 0))] : List Int).getD (a - 11) 0), fun a ha => ?_, fun f h => ?_, ?_⟩
  · show cond (Nat.blt a 11) (ρ a) _ = ρ a
    rw [show Nat.blt a 11 = true from Nat.ble_eq_true_of_le ha]; rfl
  · exact nomatch h
  · show sI (sU (sU (sU M 92 (1 * ρ 1 + 0 : Int).toNat (1 * ρ 2 + 0)) 91 990 (1 * (xH (sU M 92 (1 * ρ 1 + 0).toNat (1 * ρ 2 + 0))) + 0)) 4 261 (1 * ρ 0 + (1 * ρ 3 + 0)))
    obtain ⟨W, hW⟩ : ∃ W, W = (sU (sU (sU M 92 (1 * ρ 1 + 0).toNat (1 * ρ 2 + 0)) 91 990 (1 * (xH (sU M 92 (1 * ρ 1 + 0).toNat (1 * ρ 2 + 0))) + 0)) 4 261 (1 * ρ 0 + (1 * ρ 3 + 0))) := ⟨_, rfl⟩
    rw [← hW]
    have base : sI0 W := by
      rw [hW]
      exact (si_u0 (si_u0 (si_u0 hI.1 (fun r hr => by rw [xt_92 hr]; exact ⟨by show (0 : Int) ≤ _; omega, by show _ ≤ (255 : Int); omega⟩)) (fun r hr => by cases hr)) (fun r hr => by cases hr))
    have k2 : XI2 W := by
      refine xi2_congr (fun o k hz ho => ?_) hI.2.1
      have h4 : ¬ (o = 4 ∧ k = 261) := fun z => by rw [z.1, z.2] at hz; exact absurd hz (by decide +kernel)
      rw [hW, sU_ne h4, sU_ne (fun z => by omega), sU_ne (fun z => by omega)]
    have k3 : XI3 W := by
      unfold XI3
      rw [hW]
      rw [sU_ne (fun z => by omega), sU_at]
      have e : ∀ o' k' x y, ¬ (o' = 91 ∧ k' = 990) → ¬ (o' = 4 ∧ k' = 261) → sU (sU (sU M 92 (1 * ρ 1 + 0).toNat (1 * ρ 2 + 0)) 91 990 x) 4 261 y o' k' = sU M 92 (1 * ρ 1 + 0).toNat (1 * ρ 2 + 0) o' k' := fun o' k' x y h h' => by rw [sU_ne h', sU_ne h]
      rw [show ∀ z : Int, 1 * z + 0 = z from fun z => by omega]
      unfold xH
      rw [e _ _ _ _ (by omega) (by omega), e _ _ _ _ (by omega) (by omega), e _ _ _ _ (by omega) (by omega)]
    have kXA : XA W := by
      rw [hW]
      exact (uXA rfl (uXA rfl (uXA (sinc_ok rfl _) hI.2.2.2.1)))
    have k_xN1 : xN1 W := by
      rw [hW]
      exact (uxN1 rfl (uxN1 rfl (uxN1 (sinc_ok rfl _) hI.2.2.2.2.1)))
    have k_xN2 : xN2 W := by
      rw [hW]
      exact (uxN2 rfl (uxN2 rfl (uxN2 (sinc_ok rfl _) hI.2.2.2.2.2.1)))
    have k_xN3 : xN3 W := by
      rw [hW]
      exact (uxN3 rfl (uxN3 rfl (uxN3 (sinc_ok rfl _) hI.2.2.2.2.2.2.1)))
    have k_xN4 : xN4 W := by
      rw [hW]
      exact (uxN4 rfl (uxN4 rfl (uxN4 (sinc_ok rfl _) hI.2.2.2.2.2.2.2.1)))
    have k_xN5 : xN5 W := by
      rw [hW]
      exact (uxN5 rfl (uxN5 rfl (uxN5 (sinc_ok rfl _) hI.2.2.2.2.2.2.2.2.1)))
    have k_xN6 : xN6 W := by
      rw [hW]
      exact (uxN6 rfl (uxN6 rfl (uxN6 (sinc_ok rfl _) hI.2.2.2.2.2.2.2.2.2.1)))
    have k_xH1 : xH1 W := by
      rw [hW]
      exact (uxH1 rfl (uxH1 rfl (uxH1 (sinc_ok rfl _) hI.2.2.2.2.2.2.2.2.2.2.1)))
    have k_xK1 : xK1 W := by
      rw [hW]
      exact (uxK1 rfl (uxK1 rfl (uxK1 (sinc_ok rfl _) hI.2.2.2.2.2.2.2.2.2.2.2.1)))
    have k_xC1 : xC1 W := by
      rw [hW]
      exact (uxC1 rfl (uxC1 rfl (uxC1 (sinc_ok rfl _) hI.2.2.2.2.2.2.2.2.2.2.2.2.1)))
    have k_xRW : xRW W := by
      rw [hW]
      exact (uxRW rfl (uxRW rfl (uxRW (sinc_ok rfl _) hI.2.2.2.2.2.2.2.2.2.2.2.2.2.1)))
    have k_xWT : xWT W := by
      rw [hW]
      exact (uxWT rfl (uxWT rfl (uxWT (sinc_ok rfl _) hI.2.2.2.2.2.2.2.2.2.2.2.2.2.2.1)))
    have k_xCU : xCU W := by
      rw [hW]
      exact (uxCU rfl (uxCU rfl (uxCU (sinc_ok rfl _) hI.2.2.2.2.2.2.2.2.2.2.2.2.2.2.2.1)))
    have k_xG2 : xG2 W := by
      rw [hW]
      exact (uxG2 rfl (uxG2 rfl (uxG2 (sinc_ok rfl _) hI.2.2.2.2.2.2.2.2.2.2.2.2.2.2.2.2.1)))
    have k_xG3 : xG3 W := by
      rw [hW]
      exact (uxG3 rfl (uxG3 rfl (uxG3 (sinc_ok rfl _) hI.2.2.2.2.2.2.2.2.2.2.2.2.2.2.2.2.2.1)))
    have k_xG4 : xG4 W := by
      rw [hW]
      exact (uxG4 rfl (uxG4 rfl (uxG4 (sinc_ok rfl _) hI.2.2.2.2.2.2.2.2.2.2.2.2.2.2.2.2.2.2.1)))
    have k_xG5 : xG5 W := by
      rw [hW]
      exact (uxG5 rfl (uxG5 rfl (uxG5 (sinc_ok rfl _) hI.2.2.2.2.2.2.2.2.2.2.2.2.2.2.2.2.2.2.2.1)))
    have k_xG6 : xG6 W := by
      rw [hW]
      exact (uxG6 rfl (uxG6 rfl (uxG6 (sinc_ok rfl _) hI.2.2.2.2.2.2.2.2.2.2.2.2.2.2.2.2.2.2.2.2.1)))
    have k_xS1 : xS1 W := by
      have r : W 4 100 = 0 := by
        have e := m6
        rw [hW, sU_ne (fun z => by omega), sU_ne (fun z => by omega), sU_ne (fun z => by omega)]
        omega
      intro h
      rw [r] at h
      exact absurd rfl h
    have k_xS2 : xS2 W := by
      have r : W 4 100 = 0 := by
        have e := m6
        rw [hW, sU_ne (fun z => by omega), sU_ne (fun z => by omega), sU_ne (fun z => by omega)]
        omega
      intro h
      rw [r] at h
      exact absurd rfl h
    have k_xS3 : xS3 W := by
      have r : W 4 100 = 0 := by
        have e := m6
        rw [hW, sU_ne (fun z => by omega), sU_ne (fun z => by omega), sU_ne (fun z => by omega)]
        omega
      intro h
      rw [r] at h
      exact absurd rfl h
    have k_xS4 : xS4 W := by
      rw [hW]
      exact (uxS4 rfl (uxS4 rfl (uxS4 (sinc_ok rfl _) hI.2.2.2.2.2.2.2.2.2.2.2.2.2.2.2.2.2.2.2.2.2.2.2.2.1)))
    have k_xS5 : xS5 W := by
      rw [hW]
      exact (uxS5 rfl (uxS5 rfl (uxS5 (sinc_ok rfl _) hI.2.2.2.2.2.2.2.2.2.2.2.2.2.2.2.2.2.2.2.2.2.2.2.2.2.1)))
    have k_xS6 : xS6 W := by
      rw [hW]
      exact (uxS6 rfl (uxS6 rfl (uxS6 (sinc_ok rfl _) hI.2.2.2.2.2.2.2.2.2.2.2.2.2.2.2.2.2.2.2.2.2.2.2.2.2.2.1)))
    have k_xS7 : xS7 W := by
      have r : W 4 200 = 0 := by
        have e := m7
        rw [hW, sU_ne (fun z => by omega), sU_ne (fun z => by omega), sU_ne (fun z => by omega)]
        omega
      intro h
      rw [r] at h
      omega
    have k_xS8 : xS8 W := by
      have r : W 4 210 = 0 := by
        have e := m8
        rw [hW, sU_ne (fun z => by omega), sU_ne (fun z => by omega), sU_ne (fun z => by omega)]
        omega
      intro h
      rw [r] at h
      omega
    have k_xS9 : xS9 W := by
      have r : W 4 212 = 0 := by
        have e := m9
        rw [hW, sU_ne (fun z => by omega), sU_ne (fun z => by omega), sU_ne (fun z => by omega)]
        omega
      intro h
      rw [r] at h
      omega
    have k_xSA : xSA W := by
      have r : W 4 214 = 0 := by
        have e := m10
        rw [hW, sU_ne (fun z => by omega), sU_ne (fun z => by omega), sU_ne (fun z => by omega)]
        omega
      intro h
      rw [r] at h
      omega
    have k_xSG : xSG W := by
      have r : W 4 235 = 0 := by
        have e := m13
        rw [hW, sU_ne (fun z => by omega), sU_ne (fun z => by omega), sU_ne (fun z => by omega)]
        omega
      intro h
      rw [r] at h
      omega
    have k_xSF : xSF W := by
      have r : W 4 233 = 0 := by
        have e := m12
        rw [hW, sU_ne (fun z => by omega), sU_ne (fun z => by omega), sU_ne (fun z => by omega)]
        omega
      intro h
      rw [r] at h
      omega
    have k_xSB : xSB W := by
      have r : W 4 220 = 0 := by
        have e := m11
        rw [hW, sU_ne (fun z => by omega), sU_ne (fun z => by omega), sU_ne (fun z => by omega)]
        omega
      intro h
      rw [r] at h
      omega
    have k_xSC : xSC W := by
      rw [hW]
      exact (uxSC rfl (uxSC rfl (uxSC (sinc_ok rfl _) hI.2.2.2.2.2.2.2.2.2.2.2.2.2.2.2.2.2.2.2.2.2.2.2.2.2.2.2.2.2.2.2.2.2.2.1)))
    have k_xSD : xSD W := by
      rw [hW]
      exact (uxSD rfl (uxSD rfl (uxSD (sinc_ok rfl _) hI.2.2.2.2.2.2.2.2.2.2.2.2.2.2.2.2.2.2.2.2.2.2.2.2.2.2.2.2.2.2.2.2.2.2.2.1)))
    have k_xSE : xSE W := by
      rw [hW]
      exact (uxSE rfl (uxSE rfl (uxSE (sinc_ok rfl _) hI.2.2.2.2.2.2.2.2.2.2.2.2.2.2.2.2.2.2.2.2.2.2.2.2.2.2.2.2.2.2.2.2.2.2.2.2.1)))
    have k_xSW : xSW W := by
      rw [hW]
      exact (uxSW rfl (uxSW rfl (uxSW (sinc_ok rfl _) hI.2.2.2.2.2.2.2.2.2.2.2.2.2.2.2.2.2.2.2.2.2.2.2.2.2.2.2.2.2.2.2.2.2.2.2.2.2.1)))
    have k_xST : xST W := by
      have r4_261 : W 4 261 = 1 * ρ 0 + (1 * ρ 3 + 0) := by rw [hW, sU_at]
      have c1 : ∀ k, W 1 k = M 1 k := fun k => by rw [hW, sU_ne (fun z => by omega), sU_ne (fun z => by omega), sU_ne (fun z => by omega)]
      have e1 : W 1 = M 1 := funext c1
      have c92 : ∀ k : Nat, k ≠ (1 * ρ 1 + 0).toNat → W 92 k = M 92 k := fun k hk => by rw [hW, sU_ne (fun z => by omega), sU_ne (fun z => by omega), sU_ne (fun z => by omega)]
      have a92 : W 92 (1 * ρ 1 + 0).toNat = 1 * ρ 2 + 0 := by rw [hW, sU_ne (fun z => by omega), sU_ne (fun z => by omega), sU_at]
      intro i hi
      rw [r4_261, h0] at hi
      rw [e1]
      by_cases hx : i = (1 * ρ 1 + 0).toNat
      · rw [hx, a92]
        obtain ⟨p1, p2, p3⟩ := gx_xSP hI
        have := p2 8 (by omega) (by omega)
        rw [show (M 4 263).toNat + 8 = (1 * ρ 1 + 0).toNat by omega] at this
        have this : M 1 (1 * ρ 1 + 0).toNat = tSn (tBy (M 4 267) 8) := this
        rw [this, ← tb]
        congr 1
        omega
      · rw [c92 i hx]
        exact qxST i (by omega)
    have k_xSP : xSP W := by
      have r4_262 : W 4 262 = M 4 262 := by rw [hW, sU_ne (fun z => by omega), sU_ne (fun z => by omega), sU_ne (fun z => by omega)]
      have r4_263 : W 4 263 = M 4 263 := by rw [hW, sU_ne (fun z => by omega), sU_ne (fun z => by omega), sU_ne (fun z => by omega)]
      have r4_264 : W 4 264 = M 4 264 := by rw [hW, sU_ne (fun z => by omega), sU_ne (fun z => by omega), sU_ne (fun z => by omega)]
      have r4_265 : W 4 265 = M 4 265 := by rw [hW, sU_ne (fun z => by omega), sU_ne (fun z => by omega), sU_ne (fun z => by omega)]
      have r4_266 : W 4 266 = M 4 266 := by rw [hW, sU_ne (fun z => by omega), sU_ne (fun z => by omega), sU_ne (fun z => by omega)]
      have r4_267 : W 4 267 = M 4 267 := by rw [hW, sU_ne (fun z => by omega), sU_ne (fun z => by omega), sU_ne (fun z => by omega)]
      have r4_268 : W 4 268 = M 4 268 := by rw [hW, sU_ne (fun z => by omega), sU_ne (fun z => by omega), sU_ne (fun z => by omega)]
      have r4_269 : W 4 269 = M 4 269 := by rw [hW, sU_ne (fun z => by omega), sU_ne (fun z => by omega), sU_ne (fun z => by omega)]
      have c1 : ∀ k, W 1 k = M 1 k := fun k => by rw [hW, sU_ne (fun z => by omega), sU_ne (fun z => by omega), sU_ne (fun z => by omega)]
      have e1 : W 1 = M 1 := funext c1
      have c92 : ∀ k : Nat, k ≠ (1 * ρ 1 + 0).toNat → W 92 k = M 92 k := fun k hk => by rw [hW, sU_ne (fun z => by omega), sU_ne (fun z => by omega), sU_ne (fun z => by omega)]
      have a92 : W 92 (1 * ρ 1 + 0).toNat = 1 * ρ 2 + 0 := by rw [hW, sU_ne (fun z => by omega), sU_ne (fun z => by omega), sU_at]
      unfold xSP
      rw [r4_262, r4_263, r4_264, e1]
      obtain ⟨p1, p2, p3⟩ := gx_xSP hI
      refine ⟨p1, fun q hq hl => ?_, fun q hq hl => by omega⟩
      have e4 : ∀ x, x ≠ 261 → W 4 x = M 4 x := fun x hx => by rw [hW, sU_ne (fun z => by omega), sU_ne (fun z => by omega), sU_ne (fun z => by omega)]
      rw [e4 _ (by omega)]
      exact p2 q hq hl
    have k_xSL : xSL W := by
      rw [hW]
      exact (uxSL rfl (uxSL rfl (uxSL (sinc_ok rfl _) hI.2.2.2.2.2.2.2.2.2.2.2.2.2.2.2.2.2.2.2.2.2.2.2.2.2.2.2.2.2.2.2.2.2.2.2.2.2.2.2.2.1)))
    have k_xSM : xSM W := by
      rw [hW]
      exact (uxSM rfl (uxSM rfl (uxSM (sinc_ok rfl _) hI.2.2.2.2.2.2.2.2.2.2.2.2.2.2.2.2.2.2.2.2.2.2.2.2.2.2.2.2.2.2.2.2.2.2.2.2.2.2.2.2.2.1)))
    have k_xSI : xSI W := by
      rw [hW]
      exact (uxSI rfl (uxSI rfl (uxSI (sinc_ok rfl _) hI.2.2.2.2.2.2.2.2.2.2.2.2.2.2.2.2.2.2.2.2.2.2.2.2.2.2.2.2.2.2.2.2.2.2.2.2.2.2.2.2.2.2)))
    have k_XC : XC W := ⟨k_xS1, k_xS2, k_xS3, k_xS4, k_xS5, k_xS6, k_xS7, k_xS8, k_xS9, k_xSA, k_xSG, k_xSF, k_xSB, k_xSC, k_xSD, k_xSE, k_xSW, k_xST, k_xSP, k_xSL, k_xSM, k_xSI⟩
    have kXB : XB W := ⟨k_xN1, k_xN2, k_xN3, k_xN4, k_xN5, k_xN6, k_xH1, k_xK1, k_xC1, k_xRW, k_xWT, k_xCU, k_xG2, k_xG3, k_xG4, k_xG5, k_xG6, k_XC⟩
    exact ⟨base, k2, k3, kXA, kXB⟩
-- fdC9
def xr_624 : qRu := (11, [[(-9, 0), (1, 1), (-1, 4)], [(9, 0), (-1, 1), (1, 4)], [(1, 1), (-1, 3)], [(1, 4)], [(699, 0), (-1, 1)], [(1, 1)], [(-16, 0), (1, 6)], [(16, 0), (-1, 6)], [(1, 5), (-1, 8)], [(-1, 5), (1, 8)], [(-1, 2), (1, 9)], [(1, 2), (-1, 9)], [(-1, 7), (1, 10)], [(1, 7), (-1, 10)], [(128, 0), (1, 2)], [(127, 0), (-1, 2)]], [(4, 100, []), (4, 261, [(1, 3)]), (4, 262, [(9, 0)]), (4, 263, [(1, 4)]), (4, 267, [(1, 8)]), (91, 259, [(1, 0)]), (91, 248, [(1, 10)]), (91, 258, [(1, 9)]), (91, 249, [(1, 0)]), (91, 250, [(1, 5)]), (91, 251, [(1, 6)]), (91, 252, [(1, 7)])], [(1, [(1, 1)], [(1, 2)])], [(4, 262, [(10, 0)])], [])
theorem xo_624 : qRok xr_624 := by
  intro ρ M h0 hf hm hI
  have f0 := hf [(-9, 0), (1, 1), (-1, 4)] (by decide)
  have f1 := hf [(9, 0), (-1, 1), (1, 4)] (by decide)
  have f2 := hf [(1, 1), (-1, 3)] (by decide)
  have f3 := hf [(1, 4)] (by decide)
  have f4 := hf [(699, 0), (-1, 1)] (by decide)
  have f5 := hf [(1, 1)] (by decide)
  have f6 := hf [(-16, 0), (1, 6)] (by decide)
  have f7 := hf [(16, 0), (-1, 6)] (by decide)
  have f8 := hf [(1, 5), (-1, 8)] (by decide)
  have f9 := hf [(-1, 5), (1, 8)] (by decide)
  have f10 := hf [(-1, 2), (1, 9)] (by decide)
  have f11 := hf [(1, 2), (-1, 9)] (by decide)
  have f12 := hf [(-1, 7), (1, 10)] (by decide)
  have f13 := hf [(1, 7), (-1, 10)] (by decide)
  have f14 := hf [(128, 0), (1, 2)] (by decide)
  have f15 := hf [(127, 0), (-1, 2)] (by decide)
  simp only [qD, h0] at f0 f1 f2 f3 f4 f5 f6 f7 f8 f9 f10 f11 f12 f13 f14 f15
  have m0 : M 4 100 = 0 := hm (4, 100, []) (by decide)
  have m1 : M 4 261 = 1 * ρ 3 + 0 := hm (4, 261, [(1, 3)]) (by decide)
  have m2 : M 4 262 = 9 * ρ 0 + 0 := hm (4, 262, [(9, 0)]) (by decide)
  have m3 : M 4 263 = 1 * ρ 4 + 0 := hm (4, 263, [(1, 4)]) (by decide)
  have m4 : M 4 267 = 1 * ρ 8 + 0 := hm (4, 267, [(1, 8)]) (by decide)
  have m5 : M 91 259 = 1 * ρ 0 + 0 := hm (91, 259, [(1, 0)]) (by decide)
  have m6 : M 91 248 = 1 * ρ 10 + 0 := hm (91, 248, [(1, 10)]) (by decide)
  have m7 : M 91 258 = 1 * ρ 9 + 0 := hm (91, 258, [(1, 9)]) (by decide)
  have m8 : M 91 249 = 1 * ρ 0 + 0 := hm (91, 249, [(1, 0)]) (by decide)
  have m9 : M 91 250 = 1 * ρ 5 + 0 := hm (91, 250, [(1, 5)]) (by decide)
  have m10 : M 91 251 = 1 * ρ 6 + 0 := hm (91, 251, [(1, 6)]) (by decide)
  have m11 : M 91 252 = 1 * ρ 7 + 0 := hm (91, 252, [(1, 7)]) (by decide)
  simp only [h0] at m2 m5 m8
  have qxST := hI.2.2.2.2.2.2.2.2.2.2.2.2.2.2.2.2.2.2.2.2.2.2.2.2.2.2.2.2.2.2.2.2.2.2.2.2.2.2.1
  have qxSP := hI.2.2.2.2.2.2.2.2.2.2.2.2.2.2.2.2.2.2.2.2.2.2.2.2.2.2.2.2.2.2.2.2.2.2.2.2.2.2.2.1
  obtain ⟨g1, g2, g3, g4⟩ := gx_xSE hI (by omega)
  have tb : xop 1 (M 91 252) 255 = tBy (M 4 267) 9 := by
    unfold tBy
    rw [g1, show M 91 250 = M 4 267 by omega, show M 91 251 = 16 by omega]
    rfl

  have gi := gx_xSI hI (by omega)
  rw [show M 91 248 = M 91 252 by omega] at gi
  refine ⟨ρ, fun _ _ => rfl, fun f h => ?_, ?_⟩
  · exact nomatch h
  · show sI (sU (sU M 1 (1 * ρ 1 + 0 : Int).toNat (1 * ρ 2 + 0)) 4 262 (10 * ρ 0 + 0))
    obtain ⟨W, hW⟩ : ∃ W, W = (sU (sU M 1 (1 * ρ 1 + 0).toNat (1 * ρ 2 + 0)) 4 262 (10 * ρ 0 + 0)) := ⟨_, rfl⟩
    rw [← hW]
    have base : sI0 W := by
      rw [hW]
      exact (si_u0 (si_u0 hI.1 (fun r hr => by rw [xt_1 hr]; exact ⟨by show (-128 : Int) ≤ _; omega, by show _ ≤ (127 : Int); omega⟩)) (fun r hr => by cases hr))
    have k2 : XI2 W := by
      rw [hW]
      exact (xi2_u rfl (xi2_u (sinc_ok rfl _) hI.2.1))
    have k3 : XI3 W := by
      rw [hW]
      exact (xi3_u rfl (xi3_u (sinc_ok rfl _) hI.2.2.1))
    have kXA : XA W := by
      rw [hW]
      exact (uXA rfl (uXA (sinc_ok rfl _) hI.2.2.2.1))
    have k_xN1 : xN1 W := by
      rw [hW]
      exact (uxN1 rfl (uxN1 (sinc_ok rfl _) hI.2.2.2.2.1))
    have k_xN2 : xN2 W := by
      rw [hW]
      exact (uxN2 rfl (uxN2 (sinc_ok rfl _) hI.2.2.2.2.2.1))
    have k_xN3 : xN3 W := by
      rw [hW]
      exact (uxN3 rfl (uxN3 (sinc_ok rfl _) hI.2.2.2.2.2.2.1))
    have k_xN4 : xN4 W := by
      rw [hW]
      exact (uxN4 rfl (uxN4 (sinc_ok rfl _) hI.2.2.2.2.2.2.2.1))
    have k_xN5 : xN5 W := by
      rw [hW]
      exact (uxN5 rfl (uxN5 (sinc_ok rfl _) hI.2.2.2.2.2.2.2.2.1))
    have k_xN6 : xN6 W := by
      rw [hW]
      exact (uxN6 rfl (uxN6 (sinc_ok rfl _) hI.2.2.2.2.2.2.2.2.2.1))
    have k_xH1 : xH1 W := by
      rw [hW]
      exact (uxH1 rfl (uxH1 (sinc_ok rfl _) hI.2.2.2.2.2.2.2.2.2.2.1))
    have k_xK1 : xK1 W := by
      rw [hW]
      exact (uxK1 rfl (uxK1 (sinc_ok rfl _) hI.2.2.2.2.2.2.2.2.2.2.2.1))
    have k_xC1 : xC1 W := by
      rw [hW]
      exact (uxC1 rfl (uxC1 (sinc_ok rfl _) hI.2.2.2.2.2.2.2.2.2.2.2.2.1))
    have k_xRW : xRW W := by
      rw [hW]
      exact (uxRW rfl (uxRW (sinc_ok rfl _) hI.2.2.2.2.2.2.2.2.2.2.2.2.2.1))
    have k_xWT : xWT W := by
      rw [hW]
      exact (uxWT rfl (uxWT (sinc_ok rfl _) hI.2.2.2.2.2.2.2.2.2.2.2.2.2.2.1))
    have k_xCU : xCU W := by
      rw [hW]
      exact (uxCU rfl (uxCU (sinc_ok rfl _) hI.2.2.2.2.2.2.2.2.2.2.2.2.2.2.2.1))
    have k_xG2 : xG2 W := by
      rw [hW]
      exact (uxG2 rfl (uxG2 (sinc_ok rfl _) hI.2.2.2.2.2.2.2.2.2.2.2.2.2.2.2.2.1))
    have k_xG3 : xG3 W := by
      rw [hW]
      exact (uxG3 rfl (uxG3 (sinc_ok rfl _) hI.2.2.2.2.2.2.2.2.2.2.2.2.2.2.2.2.2.1))
    have k_xG4 : xG4 W := by
      rw [hW]
      exact (uxG4 rfl (uxG4 (sinc_ok rfl _) hI.2.2.2.2.2.2.2.2.2.2.2.2.2.2.2.2.2.2.1))
    have k_xG5 : xG5 W := by
      rw [hW]
      exact (uxG5 rfl (uxG5 (sinc_ok rfl _) hI.2.2.2.2.2.2.2.2.2.2.2.2.2.2.2.2.2.2.2.1))
    have k_xG6 : xG6 W := by
      rw [hW]
      exact (uxG6 rfl (uxG6 (sinc_ok rfl _) hI.2.2.2.2.2.2.2.2.2.2.2.2.2.2.2.2.2.2.2.2.1))
    have k_xS1 : xS1 W := by
      have r : W 4 100 = 0 := by
        have e := m0
        rw [hW, sU_ne (fun z => by omega), sU_ne (fun z => by omega)]
        omega
      intro h
      rw [r] at h
      exact absurd rfl h
    have k_xS2 : xS2 W := by
      rw [hW]
      exact (uxS2 rfl (uxS2 (sinc_ok rfl _) hI.2.2.2.2.2.2.2.2.2.2.2.2.2.2.2.2.2.2.2.2.2.2.1))
    have k_xS3 : xS3 W := by
      rw [hW]
      exact (uxS3 rfl (uxS3 (sinc_ok rfl _) hI.2.2.2.2.2.2.2.2.2.2.2.2.2.2.2.2.2.2.2.2.2.2.2.1))
    have k_xS4 : xS4 W := by
      rw [hW]
      exact (uxS4 rfl (uxS4 (sinc_ok rfl _) hI.2.2.2.2.2.2.2.2.2.2.2.2.2.2.2.2.2.2.2.2.2.2.2.2.1))
    have k_xS5 : xS5 W := by
      rw [hW]
      exact (uxS5 rfl (uxS5 (sinc_ok rfl _) hI.2.2.2.2.2.2.2.2.2.2.2.2.2.2.2.2.2.2.2.2.2.2.2.2.2.1))
    have k_xS6 : xS6 W := by
      rw [hW]
      exact (uxS6 rfl (uxS6 (sinc_ok rfl _) hI.2.2.2.2.2.2.2.2.2.2.2.2.2.2.2.2.2.2.2.2.2.2.2.2.2.2.1))
    have k_xS7 : xS7 W := by
      rw [hW]
      exact (uxS7 rfl (uxS7 (sinc_ok rfl _) hI.2.2.2.2.2.2.2.2.2.2.2.2.2.2.2.2.2.2.2.2.2.2.2.2.2.2.2.1))
    have k_xS8 : xS8 W := by
      rw [hW]
      exact (uxS8 rfl (uxS8 (sinc_ok rfl _) hI.2.2.2.2.2.2.2.2.2.2.2.2.2.2.2.2.2.2.2.2.2.2.2.2.2.2.2.2.1))
    have k_xS9 : xS9 W := by
      rw [hW]
      exact (uxS9 rfl (uxS9 (sinc_ok rfl _) hI.2.2.2.2.2.2.2.2.2.2.2.2.2.2.2.2.2.2.2.2.2.2.2.2.2.2.2.2.2.1))
    have k_xSA : xSA W := by
      rw [hW]
      exact (uxSA rfl (uxSA (sinc_ok rfl _) hI.2.2.2.2.2.2.2.2.2.2.2.2.2.2.2.2.2.2.2.2.2.2.2.2.2.2.2.2.2.2.1))
    have k_xSG : xSG W := by
      rw [hW]
      exact (uxSG rfl (uxSG (sinc_ok rfl _) hI.2.2.2.2.2.2.2.2.2.2.2.2.2.2.2.2.2.2.2.2.2.2.2.2.2.2.2.2.2.2.2.1))
    have k_xSF : xSF W := by
      rw [hW]
      exact (uxSF rfl (uxSF (sinc_ok rfl _) hI.2.2.2.2.2.2.2.2.2.2.2.2.2.2.2.2.2.2.2.2.2.2.2.2.2.2.2.2.2.2.2.2.1))
    have k_xSB : xSB W := by
      rw [hW]
      exact (uxSB rfl (uxSB (sinc_ok rfl _) hI.2.2.2.2.2.2.2.2.2.2.2.2.2.2.2.2.2.2.2.2.2.2.2.2.2.2.2.2.2.2.2.2.2.1))
    have k_xSC : xSC W := by
      rw [hW]
      exact (uxSC rfl (uxSC (sinc_ok rfl _) hI.2.2.2.2.2.2.2.2.2.2.2.2.2.2.2.2.2.2.2.2.2.2.2.2.2.2.2.2.2.2.2.2.2.2.1))
    have k_xSD : xSD W := by
      rw [hW]
      exact (uxSD rfl (uxSD (sinc_ok rfl _) hI.2.2.2.2.2.2.2.2.2.2.2.2.2.2.2.2.2.2.2.2.2.2.2.2.2.2.2.2.2.2.2.2.2.2.2.1))
    have k_xSE : xSE W := by
      rw [hW]
      exact (uxSE rfl (uxSE (sinc_ok rfl _) hI.2.2.2.2.2.2.2.2.2.2.2.2.2.2.2.2.2.2.2.2.2.2.2.2.2.2.2.2.2.2.2.2.2.2.2.2.1))
    have k_xSW : xSW W := by
      rw [hW]
      exact (uxSW rfl (uxSW (sinc_ok rfl _) hI.2.2.2.2.2.2.2.2.2.2.2.2.2.2.2.2.2.2.2.2.2.2.2.2.2.2.2.2.2.2.2.2.2.2.2.2.2.1))
    have k_xST : xST W := by
      have r4_261 : W 4 261 = M 4 261 := by rw [hW, sU_ne (fun z => by omega), sU_ne (fun z => by omega)]
      have c1 : ∀ k : Nat, k ≠ (1 * ρ 1 + 0).toNat → W 1 k = M 1 k := fun k hk => by rw [hW, sU_ne (fun z => by omega), sU_ne (fun z => by omega)]
      have a1 : W 1 (1 * ρ 1 + 0).toNat = 1 * ρ 2 + 0 := by rw [hW, sU_ne (fun z => by omega), sU_at]
      have c92 : ∀ k, W 92 k = M 92 k := fun k => by rw [hW, sU_ne (fun z => by omega), sU_ne (fun z => by omega)]
      have e92 : W 92 = M 92 := funext c92
      intro i hi
      rw [r4_261] at hi
      rw [c1 i (by omega), e92]
      exact qxST i hi
    have k_xSP : xSP W := by
      have r4_262 : W 4 262 = 10 * ρ 0 + 0 := by rw [hW, sU_at]
      have r4_263 : W 4 263 = M 4 263 := by rw [hW, sU_ne (fun z => by omega), sU_ne (fun z => by omega)]
      have r4_264 : W 4 264 = M 4 264 := by rw [hW, sU_ne (fun z => by omega), sU_ne (fun z => by omega)]
      have r4_265 : W 4 265 = M 4 265 := by rw [hW, sU_ne (fun z => by omega), sU_ne (fun z => by omega)]
      have r4_266 : W 4 266 = M 4 266 := by rw [hW, sU_ne (fun z => by omega), sU_ne (fun z => by omega)]
      have r4_267 : W 4 267 = M 4 267 := by rw [hW, sU_ne (fun z => by omega), sU_ne (fun z => by omega)]
      have r4_268 : W 4 268 = M 4 268 := by rw [hW, sU_ne (fun z => by omega), sU_ne (fun z => by omega)]
      have r4_269 : W 4 269 = M 4 269 := by rw [hW, sU_ne (fun z => by omega), sU_ne (fun z => by omega)]
      have c1 : ∀ k : Nat, k ≠ (1 * ρ 1 + 0).toNat → W 1 k = M 1 k := fun k hk => by rw [hW, sU_ne (fun z => by omega), sU_ne (fun z => by omega)]
      have a1 : W 1 (1 * ρ 1 + 0).toNat = 1 * ρ 2 + 0 := by rw [hW, sU_ne (fun z => by omega), sU_at]
      have c92 : ∀ k, W 92 k = M 92 k := fun k => by rw [hW, sU_ne (fun z => by omega), sU_ne (fun z => by omega)]
      have e92 : W 92 = M 92 := funext c92
      unfold xSP
      rw [r4_262, r4_263, r4_264, e92]
      obtain ⟨p1, p2, p3⟩ := qxSP
      have e4 : ∀ x, x ≠ 262 → W 4 x = M 4 x := fun x hx => by rw [hW, sU_ne (fun z => by omega), sU_ne (fun z => by omega)]
      refine ⟨p1, fun q hq hl => ?_, fun q hq hl => by rw [e4 _ (by omega)]; exact p3 q hq hl⟩
      rw [h0] at hl
      rw [e4 _ (by omega)]
      by_cases hj : q = 9
      · subst hj
        show W 1 ((M 4 263).toNat + 9) = tSn (tBy (M 4 267) 9)
        rw [show (M 4 263).toNat + 9 = (1 * ρ 1 + 0).toNat by omega, a1, ← tb]
        have := xi2b (M 91 252)
        omega
      · rw [c1 _ (by omega)]
        exact p2 q hq (by omega)
    have k_xSL : xSL W := by
      rw [hW]
      exact (uxSL rfl (uxSL (sinc_ok rfl _) hI.2.2.2.2.2.2.2.2.2.2.2.2.2.2.2.2.2.2.2.2.2.2.2.2.2.2.2.2.2.2.2.2.2.2.2.2.2.2.2.2.1))
    have k_xSM : xSM W := by
      rw [hW]
      exact (uxSM rfl (uxSM (sinc_ok rfl _) hI.2.2.2.2.2.2.2.2.2.2.2.2.2.2.2.2.2.2.2.2.2.2.2.2.2.2.2.2.2.2.2.2.2.2.2.2.2.2.2.2.2.1))
    have k_xSI : xSI W := by
      rw [hW]
      exact (uxSI rfl (uxSI (sinc_ok rfl _) hI.2.2.2.2.2.2.2.2.2.2.2.2.2.2.2.2.2.2.2.2.2.2.2.2.2.2.2.2.2.2.2.2.2.2.2.2.2.2.2.2.2.2))
    have k_XC : XC W := ⟨k_xS1, k_xS2, k_xS3, k_xS4, k_xS5, k_xS6, k_xS7, k_xS8, k_xS9, k_xSA, k_xSG, k_xSF, k_xSB, k_xSC, k_xSD, k_xSE, k_xSW, k_xST, k_xSP, k_xSL, k_xSM, k_xSI⟩
    have kXB : XB W := ⟨k_xN1, k_xN2, k_xN3, k_xN4, k_xN5, k_xN6, k_xH1, k_xK1, k_xC1, k_xRW, k_xWT, k_xCU, k_xG2, k_xG3, k_xG4, k_xG5, k_xG6, k_XC⟩
    exact ⟨base, k2, k3, kXA, kXB⟩
-- fdW9
def xr_625 : qRu := (11, [[(-9, 0), (1, 1), (-1, 4)], [(9, 0), (-1, 1), (1, 4)], [(1, 1), (-1, 3)], [(-1, 1), (1, 3)], [(1, 4)], [(699, 0), (-1, 1)], [(1, 1)], [(-16, 0), (1, 6)], [(16, 0), (-1, 6)], [(1, 5), (-1, 8)], [(-1, 5), (1, 8)], [(-1, 2), (1, 9)], [(1, 2), (-1, 9)], [(1, 2)], [(255, 0), (-1, 2)]], [(4, 261, [(1, 3)]), (4, 262, [(20, 0)]), (4, 263, [(1, 4)]), (4, 264, []), (4, 267, [(1, 8)]), (91, 257, [(1, 9)]), (4, 100, []), (4, 200, []), (4, 210, []), (4, 212, []), (4, 214, []), (4, 220, []), (4, 233, []), (4, 235, []), (91, 249, [(1, 0)]), (91, 250, [(1, 5)]), (91, 251, [(1, 6)]), (91, 252, [(1, 7)])], [(92, [(1, 1)], [(1, 2)])], [(91, 990, [(1, 11)]), (4, 261, [(1, 0), (1, 3)])], [])
theorem xo_625 : qRok xr_625 := by
  intro ρ M h0 hf hm hI
  have f0 := hf [(-9, 0), (1, 1), (-1, 4)] (by decide)
  have f1 := hf [(9, 0), (-1, 1), (1, 4)] (by decide)
  have f2 := hf [(1, 1), (-1, 3)] (by decide)
  have f3 := hf [(-1, 1), (1, 3)] (by decide)
  have f4 := hf [(1, 4)] (by decide)
  have f5 := hf [(699, 0), (-1, 1)] (by decide)
  have f6 := hf [(1, 1)] (by decide)
  have f7 := hf [(-16, 0), (1, 6)] (by decide)
  have f8 := hf [(16, 0), (-1, 6)] (by decide)
  have f9 := hf [(1, 5), (-1, 8)] (by decide)
  have f10 := hf [(-1, 5), (1, 8)] (by decide)
  have f11 := hf [(-1, 2), (1, 9)] (by decide)
  have f12 := hf [(1, 2), (-1, 9)] (by decide)
  have f13 := hf [(1, 2)] (by decide)
  have f14 := hf [(255, 0), (-1, 2)] (by decide)
  simp only [qD, h0] at f0 f1 f2 f3 f4 f5 f6 f7 f8 f9 f10 f11 f12 f13 f14
  have m0 : M 4 261 = 1 * ρ 3 + 0 := hm (4, 261, [(1, 3)]) (by decide)
  have m1 : M 4 262 = 20 * ρ 0 + 0 := hm (4, 262, [(20, 0)]) (by decide)
  have m2 : M 4 263 = 1 * ρ 4 + 0 := hm (4, 263, [(1, 4)]) (by decide)
  have m3 : M 4 264 = 0 := hm (4, 264, []) (by decide)
  have m4 : M 4 267 = 1 * ρ 8 + 0 := hm (4, 267, [(1, 8)]) (by decide)
  have m5 : M 91 257 = 1 * ρ 9 + 0 := hm (91, 257, [(1, 9)]) (by decide)
  have m6 : M 4 100 = 0 := hm (4, 100, []) (by decide)
  have m7 : M 4 200 = 0 := hm (4, 200, []) (by decide)
  have m8 : M 4 210 = 0 := hm (4, 210, []) (by decide)
  have m9 : M 4 212 = 0 := hm (4, 212, []) (by decide)
  have m10 : M 4 214 = 0 := hm (4, 214, []) (by decide)
  have m11 : M 4 220 = 0 := hm (4, 220, []) (by decide)
  have m12 : M 4 233 = 0 := hm (4, 233, []) (by decide)
  have m13 : M 4 235 = 0 := hm (4, 235, []) (by decide)
  have m14 : M 91 249 = 1 * ρ 0 + 0 := hm (91, 249, [(1, 0)]) (by decide)
  have m15 : M 91 250 = 1 * ρ 5 + 0 := hm (91, 250, [(1, 5)]) (by decide)
  have m16 : M 91 251 = 1 * ρ 6 + 0 := hm (91, 251, [(1, 6)]) (by decide)
  have m17 : M 91 252 = 1 * ρ 7 + 0 := hm (91, 252, [(1, 7)]) (by decide)
  simp only [h0] at m1 m14
  have qxST := hI.2.2.2.2.2.2.2.2.2.2.2.2.2.2.2.2.2.2.2.2.2.2.2.2.2.2.2.2.2.2.2.2.2.2.2.2.2.2.1
  have qxSP := hI.2.2.2.2.2.2.2.2.2.2.2.2.2.2.2.2.2.2.2.2.2.2.2.2.2.2.2.2.2.2.2.2.2.2.2.2.2.2.2.1
  obtain ⟨g1, g2, g3, g4⟩ := gx_xSE hI (by omega)
  have tb : xop 1 (M 91 252) 255 = tBy (M 4 267) 9 := by
    unfold tBy
    rw [g1, show M 91 250 = M 4 267 by omega, show M 91 251 = 16 by omega]
    rfl

  have g257 := g4
  refine ⟨fun a => cond (Nat.blt a 11) (ρ a) (([xH (sU M 92 (1 * ρ 1 + 0).toNat (1 * ρ 2 + 0))] : List Int).getD (a - 11) 0), fun a ha => ?_, fun f h => ?_, ?_⟩
  · show cond (Nat.blt a 11) (ρ a) _ = ρ a
    rw [show Nat.blt a 11 = true from Nat.ble_eq_true_of_le ha]; rfl
  · exact nomatch h
  · show sI (sU (sU (sU M 92 (1 * ρ 1 + 0 : Int).toNat (1 * ρ 2 + 0)) 91 990 (1 * (xH (sU M 92 (1 * ρ 1 + 0).toNat (1 * ρ 2 + 0))) + 0)) 4 261 (1 * ρ 0 + (1 * ρ 3 + 0)))
    obtain ⟨W, hW⟩ : ∃ W, W = (sU (sU (sU M 92 (1 * ρ 1 + 0).toNat (1 * ρ 2 + 0)) 91 990 (1 * (xH (sU M 92 (1 * ρ 1 + 0).toNat (1 * ρ 2 + 0))) + 0)) 4 261 (1 * ρ 0 + (1 * ρ 3 + 0))) := ⟨_, rfl⟩
    rw [← hW]
    have base : sI0 W := by
      rw [hW]
      exact (si_u0 (si_u0 (si_u0 hI.1 (fun r hr => by rw [xt_92 hr]; exact ⟨by show (0 : Int) ≤ _; omega, by show _ ≤ (255 : Int); omega⟩)) (fun r hr => by cases hr)) (fun r hr => by cases hr))
    have k2 : XI2 W := by
      refine xi2_congr (fun o k hz ho => ?_) hI.2.1
      have h4 : ¬ (o = 4 ∧ k = 261) := fun z => by rw [z.1, z.2] at hz; exact absurd hz (by decide +kernel)
      rw [hW, sU_ne h4, sU_ne (fun z => by omega), sU_ne (fun z => by omega)]
    have k3 : XI3 W := by
      unfold XI3
      rw [hW]
      rw [sU_ne (fun z => by omega), sU_at]
      have e : ∀ o' k' x y, ¬ (o' = 91 ∧ k' = 990) → ¬ (o' = 4 ∧ k' = 261) → sU (sU (sU M 92 (1 * ρ 1 + 0).toNat (1 * ρ 2 + 0)) 91 990 x) 4 261 y o' k' = sU M 92 (1 * ρ 1 + 0).toNat (1 * ρ 2 + 0) o' k' := fun o' k' x y h h' => by rw [sU_ne h', sU_ne h]
      rw [show ∀ z : Int, 1 * z + 0 = z from fun z => by omega]
      unfold xH
      rw [e _ _ _ _ (by omega) (by omega), e _ _ _ _ (by omega) (by omega), e _ _ _ _ (by omega) (by omega)]
    have kXA : XA W := by
      rw [hW]
      exact (uXA rfl (uXA rfl (uXA (sinc_ok rfl _) hI.2.2.2.1)))
    have k_xN1 : xN1 W := by
      rw [hW]
      exact (uxN1 rfl (uxN1 rfl (uxN1 (sinc_ok rfl _) hI.2.2.2.2.1)))
    have k_xN2 : xN2 W := by
      rw [hW]
      exact (uxN2 rfl (uxN2 rfl (uxN2 (sinc_ok rfl _) hI.2.2.2.2.2.1)))
    have k_xN3 : xN3 W := by
      rw [hW]
      exact (uxN3 rfl (uxN3 rfl (uxN3 (sinc_ok rfl _) hI.2.2.2.2.2.2.1)))
    have k_xN4 : xN4 W := by
      rw [hW]
      exact (uxN4 rfl (uxN4 rfl (uxN4 (sinc_ok rfl _) hI.2.2.2.2.2.2.2.1)))
    have k_xN5 : xN5 W := by
      rw [hW]
      exact (uxN5 rfl (uxN5 rfl (uxN5 (sinc_ok rfl _) hI.2.2.2.2.2.2.2.2.1)))
    have k_xN6 : xN6 W := by
      rw [hW]
      exact (uxN6 rfl (uxN6 rfl (uxN6 (sinc_ok rfl _) hI.2.2.2.2.2.2.2.2.2.1)))
    have k_xH1 : xH1 W := by
      rw [hW]
      exact (uxH1 rfl (uxH1 rfl (uxH1 (sinc_ok rfl _) hI.2.2.2.2.2.2.2.2.2.2.1)))
    have k_xK1 : xK1 W := by
      rw [hW]
      exact (uxK1 rfl (uxK1 rfl (uxK1 (sinc_ok rfl _) hI.2.2.2.2.2.2.2.2.2.2.2.1)))
    have k_xC1 : xC1 W := by
      rw [hW]
      exact (uxC1 rfl (uxC1 rfl (uxC1 (sinc_ok rfl _) hI.2.2.2.2.2.2.2.2.2.2.2.2.1)))
    have k_xRW : xRW W := by
      rw [hW]
      exact (uxRW rfl (uxRW rfl (uxRW (sinc_ok rfl _) hI.2.2.2.2.2.2.2.2.2.2.2.2.2.1)))
    have k_xWT : xWT W := by
      rw [hW]
      exact (uxWT rfl (uxWT rfl (uxWT (sinc_ok rfl _) hI.2.2.2.2.2.2.2.2.2.2.2.2.2.2.1)))
    have k_xCU : xCU W := by
      rw [hW]
      exact (uxCU rfl (uxCU rfl (uxCU (sinc_ok rfl _) hI.2.2.2.2.2.2.2.2.2.2.2.2.2.2.2.1)))
    have k_xG2 : xG2 W := by
      rw [hW]
      exact (uxG2 rfl (uxG2 rfl (uxG2 (sinc_ok rfl _) hI.2.2.2.2.2.2.2.2.2.2.2.2.2.2.2.2.1)))
    have k_xG3 : xG3 W := by
      rw [hW]
      exact (uxG3 rfl (uxG3 rfl (uxG3 (sinc_ok rfl _) hI.2.2.2.2.2.2.2.2.2.2.2.2.2.2.2.2.2.1)))
    have k_xG4 : xG4 W := by
      rw [hW]
      exact (uxG4 rfl (uxG4 rfl (uxG4 (sinc_ok rfl _) hI.2.2.2.2.2.2.2.2.2.2.2.2.2.2.2.2.2.2.1)))
    have k_xG5 : xG5 W := by
      rw [hW]
      exact (uxG5 rfl (uxG5 rfl (uxG5 (sinc_ok rfl _) hI.2.2.2.2.2.2.2.2.2.2.2.2.2.2.2.2.2.2.2.1)))
    have k_xG6 : xG6 W := by
      rw [hW]
      exact (uxG6 rfl (uxG6 rfl (uxG6 (sinc_ok rfl _) hI.2.2.2.2.2.2.2.2.2.2.2.2.2.2.2.2.2.2.2.2.1)))
    have k_xS1 : xS1 W := by
      have r : W 4 100 = 0 := by
        have e := m6
        rw [hW, sU_ne (fun z => by omega), sU_ne (fun z => by omega), sU_ne (fun z => by omega)]
        omega
      intro h
      rw [r] at h
      exact absurd rfl h
    have k_xS2 : xS2 W := by
      have r : W 4 100 = 0 := by
        have e := m6
        rw [hW, sU_ne (fun z => by omega), sU_ne (fun z => by omega), sU_ne (fun z => by omega)]
        omega
      intro h
      rw [r] at h
      exact absurd rfl h
    have k_xS3 : xS3 W := by
      have r : W 4 100 = 0 := by
        have e := m6
        rw [hW, sU_ne (fun z => by omega), sU_ne (fun z => by omega), sU_ne (fun z => by omega)]
        omega
      intro h
      rw [r] at h
      exact absurd rfl h
    have k_xS4 : xS4 W := by
      rw [hW]
      exact (uxS4 rfl (uxS4 rfl (uxS4 (sinc_ok rfl _) hI.2.2.2.2.2.2.2.2.2.2.2.2.2.2.2.2.2.2.2.2.2.2.2.2.1)))
    have k_xS5 : xS5 W := by
      rw [hW]
      exact (uxS5 rfl (uxS5 rfl (uxS5 (sinc_ok rfl _) hI.2.2.2.2.2.2.2.2.2.2.2.2.2.2.2.2.2.2.2.2.2.2.2.2.2.1)))
    have k_xS6 : xS6 W := by
      rw [hW]
      exact (uxS6 rfl (uxS6 rfl (uxS6 (sinc_ok rfl _) hI.2.2.2.2.2.2.2.2.2.2.2.2.2.2.2.2.2.2.2.2.2.2.2.2.2.2.1)))
    have k_xS7 : xS7 W := by
      have r : W 4 200 = 0 := by
        have e := m7
        rw [hW, sU_ne (fun z => by omega), sU_ne (fun z => by omega), sU_ne (fun z => by omega)]
        omega
      intro h
      rw [r] at h
      omega
    have k_xS8 : xS8 W := by
      have r : W 4 210 = 0 := by
        have e := m8
        rw [hW, sU_ne (fun z => by omega), sU_ne (fun z => by omega), sU_ne (fun z => by omega)]
        omega
      intro h
      rw [r] at h
      omega
    have k_xS9 : xS9 W := by
      have r : W 4 212 = 0 := by
        have e := m9
        rw [hW, sU_ne (fun z => by omega), sU_ne (fun z => by omega), sU_ne (fun z => by omega)]
        omega
      intro h
      rw [r] at h
      omega
    have k_xSA : xSA W := by
      have r : W 4 214 = 0 := by
        have e := m10
        rw [hW, sU_ne (fun z => by omega), sU_ne (fun z => by omega), sU_ne (fun z => by omega)]
        omega
      intro h
      rw [r] at h
      omega
    have k_xSG : xSG W := by
      have r : W 4 235 = 0 := by
        have e := m13
        rw [hW, sU_ne (fun z => by omega), sU_ne (fun z => by omega), sU_ne (fun z => by omega)]
        omega
      intro h
      rw [r] at h
      omega
    have k_xSF : xSF W := by
      have r : W 4 233 = 0 := by
        have e := m12
        rw [hW, sU_ne (fun z => by omega), sU_ne (fun z => by omega), sU_ne (fun z => by omega)]
        omega
      intro h
      rw [r] at h
      omega
    have k_xSB : xSB W := by
      have r : W 4 220 = 0 := by
        have e := m11
        rw [hW, sU_ne (fun z => by omega), sU_ne (fun z => by omega), sU_ne (fun z => by omega)]
        omega
      intro h
      rw [r] at h
      omega
    have k_xSC : xSC W := by
      rw [hW]
      exact (uxSC rfl (uxSC rfl (uxSC (sinc_ok rfl _) hI.2.2.2.2.2.2.2.2.2.2.2.2.2.2.2.2.2.2.2.2.2.2.2.2.2.2.2.2.2.2.2.2.2.2.1)))
    have k_xSD : xSD W := by
      rw [hW]
      exact (uxSD rfl (uxSD rfl (uxSD (sinc_ok rfl _) hI.2.2.2.2.2.2.2.2.2.2.2.2.2.2.2.2.2.2.2.2.2.2.2.2.2.2.2.2.2.2.2.2.2.2.2.1)))
    have k_xSE : xSE W := by
      rw [hW]
      exact (uxSE rfl (uxSE rfl (uxSE (sinc_ok rfl _) hI.2.2.2.2.2.2.2.2.2.2.2.2.2.2.2.2.2.2.2.2.2.2.2.2.2.2.2.2.2.2.2.2.2.2.2.2.1)))
    have k_xSW : xSW W := by
      rw [hW]
      exact (uxSW rfl (uxSW rfl (uxSW (sinc_ok rfl _) hI.2.2.2.2.2.2.2.2.2.2.2.2.2.2.2.2.2.2.2.2.2.2.2.2.2.2.2.2.2.2.2.2.2.2.2.2.2.1)))
    have k_xST : xST W := by
      have r4_261 : W 4 261 = 1 * ρ 0 + (1 * ρ 3 + 0) := by rw [hW, sU_at]
      have c1 : ∀ k, W 1 k = M 1 k := fun k => by rw [hW, sU_ne (fun z => by omega), sU_ne (fun z => by omega), sU_ne (fun z => by omega)]
      have e1 : W 1 = M 1 := funext c1
      have c92 : ∀ k : Nat, k ≠ (1 * ρ 1 + 0).toNat → W 92 k = M 92 k := fun k hk => by rw [hW, sU_ne (fun z => by omega), sU_ne (fun z => by omega), sU_ne (fun z => by omega)]
      have a92 : W 92 (1 * ρ 1 + 0).toNat = 1 * ρ 2 + 0 := by rw [hW, sU_ne (fun z => by omega), sU_ne (fun z => by omega), sU_at]
      intro i hi
      rw [r4_261, h0] at hi
      rw [e1]
      by_cases hx : i = (1 * ρ 1 + 0).toNat
      · rw [hx, a92]
        obtain ⟨p1, p2, p3⟩ := gx_xSP hI
        have := p2 9 (by omega) (by omega)
        rw [show (M 4 263).toNat + 9 = (1 * ρ 1 + 0).toNat by omega] at this
        have this : M 1 (1 * ρ 1 + 0).toNat = tSn (tBy (M 4 267) 9) := this
        rw [this, ← tb]
        congr 1
        omega
      · rw [c92 i hx]
        exact qxST i (by omega)
    have k_xSP : xSP W := by
      have r4_262 : W 4 262 = M 4 262 := by rw [hW, sU_ne (fun z => by omega), sU_ne (fun z => by omega), sU_ne (fun z => by omega)]
      have r4_263 : W 4 263 = M 4 263 := by rw [hW, sU_ne (fun z => by omega), sU_ne (fun z => by omega), sU_ne (fun z => by omega)]
      have r4_264 : W 4 264 = M 4 264 := by rw [hW, sU_ne (fun z => by omega), sU_ne (fun z => by omega), sU_ne (fun z => by omega)]
      have r4_265 : W 4 265 = M 4 265 := by rw [hW, sU_ne (fun z => by omega), sU_ne (fun z => by omega), sU_ne (fun z => by omega)]
      have r4_266 : W 4 266 = M 4 266 := by rw [hW, sU_ne (fun z => by omega), sU_ne (fun z => by omega), sU_ne (fun z => by omega)]
      have r4_267 : W 4 267 = M 4 267 := by rw [hW, sU_ne (fun z => by omega), sU_ne (fun z => by omega), sU_ne (fun z => by omega)]
      have r4_268 : W 4 268 = M 4 268 := by rw [hW, sU_ne (fun z => by omega), sU_ne (fun z => by omega), sU_ne (fun z => by omega)]
      have r4_269 : W 4 269 = M 4 269 := by rw [hW, sU_ne (fun z => by omega), sU_ne (fun z => by omega), sU_ne (fun z => by omega)]
      have c1 : ∀ k, W 1 k = M 1 k := fun k => by rw [hW, sU_ne (fun z => by omega), sU_ne (fun z => by omega), sU_ne (fun z => by omega)]
      have e1 : W 1 = M 1 := funext c1
      have c92 : ∀ k : Nat, k ≠ (1 * ρ 1 + 0).toNat → W 92 k = M 92 k := fun k hk => by rw [hW, sU_ne (fun z => by omega), sU_ne (fun z => by omega), sU_ne (fun z => by omega)]
      have a92 : W 92 (1 * ρ 1 + 0).toNat = 1 * ρ 2 + 0 := by rw [hW, sU_ne (fun z => by omega), sU_ne (fun z => by omega), sU_at]
      unfold xSP
      rw [r4_262, r4_263, r4_264, e1]
      obtain ⟨p1, p2, p3⟩ := gx_xSP hI
      refine ⟨p1, fun q hq hl => ?_, fun q hq hl => by omega⟩
      have e4 : ∀ x, x ≠ 261 → W 4 x = M 4 x := fun x hx => by rw [hW, sU_ne (fun z => by omega), sU_ne (fun z => by omega), sU_ne (fun z => by omega)]
      rw [e4 _ (by omega)]
      exact p2 q hq hl
    have k_xSL : xSL W := by
      rw [hW]
      exact (uxSL rfl (uxSL rfl (uxSL (sinc_ok rfl _) hI.2.2.2.2.2.2.2.2.2.2.2.2.2.2.2.2.2.2.2.2.2.2.2.2.2.2.2.2.2.2.2.2.2.2.2.2.2.2.2.2.1)))
    have k_xSM : xSM W := by
      rw [hW]
      exact (uxSM rfl (uxSM rfl (uxSM (sinc_ok rfl _) hI.2.2.2.2.2.2.2.2.2.2.2.2.2.2.2.2.2.2.2.2.2.2.2.2.2.2.2.2.2.2.2.2.2.2.2.2.2.2.2.2.2.1)))
    have k_xSI : xSI W := by
      rw [hW]
      exact (uxSI rfl (uxSI rfl (uxSI (sinc_ok rfl _) hI.2.2.2.2.2.2.2.2.2.2.2.2.2.2.2.2.2.2.2.2.2.2.2.2.2.2.2.2.2.2.2.2.2.2.2.2.2.2.2.2.2.2)))
    have k_XC : XC W := ⟨k_xS1, k_xS2, k_xS3, k_xS4, k_xS5, k_xS6, k_xS7, k_xS8, k_xS9, k_xSA, k_xSG, k_xSF, k_xSB, k_xSC, k_xSD, k_xSE, k_xSW, k_xST, k_xSP, k_xSL, k_xSM, k_xSI⟩
    have kXB : XB W := ⟨k_xN1, k_xN2, k_xN3, k_xN4, k_xN5, k_xN6, k_xH1, k_xK1, k_xC1, k_xRW, k_xWT, k_xCU, k_xG2, k_xG3, k_xG4, k_xG5, k_xG6, k_XC⟩
    exact ⟨base, k2, k3, kXA, kXB⟩
-- fdC10
def xr_626 : qRu := (11, [[(-10, 0), (1, 1), (-1, 4)], [(10, 0), (-1, 1), (1, 4)], [(1, 1), (-1, 3)], [(1, 4)], [(699, 0), (-1, 1)], [(1, 1)], [(-8, 0), (1, 6)], [(8, 0), (-1, 6)], [(1, 5), (-1, 8)], [(-1, 5), (1, 8)], [(-1, 2), (1, 9)], [(1, 2), (-1, 9)], [(-1, 7), (1, 10)], [(1, 7), (-1, 10)], [(128, 0), (1, 2)], [(127, 0), (-1, 2)]], [(4, 100, []), (4, 261, [(1, 3)]), (4, 262, [(10, 0)]), (4, 263, [(1, 4)]), (4, 267, [(1, 8)]), (91, 259, [(1, 0)]), (91, 248, [(1, 10)]), (91, 258, [(1, 9)]), (91, 249, [(1, 0)]), (91, 250, [(1, 5)]), (91, 251, [(1, 6)]), (91, 252, [(1, 7)])], [(1, [(1, 1)], [(1, 2)])], [(4, 262, [(11, 0)])], [])
theorem xo_626 : qRok xr_626 := by
  intro ρ M h0 hf hm hI
  have f0 := hf [(-10, 0), (1, 1), (-1, 4)] (by decide)
  have f1 := hf [(10, 0), (-1, 1), (1, 4)] (by decide)
  have f2 := hf [(1, 1), (-1, 3)] (by decide)
  have f3 := hf [(1, 4)] (by decide)
  have f4 := hf [(699, 0), (-1, 1)] (by decide)
  have f5 := hf [(1, 1)] (by decide)
  have f6 := hf [(-8, 0), (1, 6)] (by decide)
  have f7 := hf [(8, 0), (-1, 6)] (by decide)
  have f8 := hf [(1, 5), (-1, 8)] (by decide)
  have f9 := hf [(-1, 5), (1, 8)] (by decide)
  have f10 := hf [(-1, 2), (1, 9)] (by decide)
  have f11 := hf [(1, 2), (-1, 9)] (by decide)
  have f12 := hf [(-1, 7), (1, 10)] (by decide)
  have f13 := hf [(1, 7), (-1, 10)] (by decide)
  have f14 := hf [(128, 0), (1, 2)] (by decide)
  have f15 := hf [(127, 0), (-1, 2)] (by decide)
  simp only [qD, h0] at f0 f1 f2 f3 f4 f5 f6 f7 f8 f9 f10 f11 f12 f13 f14 f15
  have m0 : M 4 100 = 0 := hm (4, 100, []) (by decide)
  have m1 : M 4 261 = 1 * ρ 3 + 0 := hm (4, 261, [(1, 3)]) (by decide)
  have m2 : M 4 262 = 10 * ρ 0 + 0 := hm (4, 262, [(10, 0)]) (by decide)
  have m3 : M 4 263 = 1 * ρ 4 + 0 := hm (4, 263, [(1, 4)]) (by decide)
  have m4 : M 4 267 = 1 * ρ 8 + 0 := hm (4, 267, [(1, 8)]) (by decide)
  have m5 : M 91 259 = 1 * ρ 0 + 0 := hm (91, 259, [(1, 0)]) (by decide)
  have m6 : M 91 248 = 1 * ρ 10 + 0 := hm (91, 248, [(1, 10)]) (by decide)
  have m7 : M 91 258 = 1 * ρ 9 + 0 := hm (91, 258, [(1, 9)]) (by decide)
  have m8 : M 91 249 = 1 * ρ 0 + 0 := hm (91, 249, [(1, 0)]) (by decide)
  have m9 : M 91 250 = 1 * ρ 5 + 0 := hm (91, 250, [(1, 5)]) (by decide)
  have m10 : M 91 251 = 1 * ρ 6 + 0 := hm (91, 251, [(1, 6)]) (by decide)
  have m11 : M 91 252 = 1 * ρ 7 + 0 := hm (91, 252, [(1, 7)]) (by decide)
  simp only [h0] at m2 m5 m8
  have qxST := hI.2.2.2.2.2.2.2.2.2.2.2.2.2.2.2.2.2.2.2.2.2.2.2.2.2.2.2.2.2.2.2.2.2.2.2.2.2.2.1
  have qxSP := hI.2.2.2.2.2.2.2.2.2.2.2.2.2.2.2.2.2.2.2.2.2.2.2.2.2.2.2.2.2.2.2.2.2.2.2.2.2.2.2.1
  obtain ⟨g1, g2, g3, g4⟩ := gx_xSE hI (by omega)
  have tb : xop 1 (M 91 252) 255 = tBy (M 4 267) 10 := by
    unfold tBy
    rw [g1, show M 91 250 = M 4 267 by omega, show M 91 251 = 8 by omega]
    rfl

  have gi := gx_xSI hI (by omega)
  rw [show M 91 248 = M 91 252 by omega] at gi
  refine ⟨ρ, fun _ _ => rfl, fun f h => ?_, ?_⟩
  · exact nomatch h
  · show sI (sU (sU M 1 (1 * ρ 1 + 0 : Int).toNat (1 * ρ 2 + 0)) 4 262 (11 * ρ 0 + 0))
    obtain ⟨W, hW⟩ : ∃ W, W = (sU (sU M 1 (1 * ρ 1 + 0).toNat (1 * ρ 2 + 0)) 4 262 (11 * ρ 0 + 0)) := ⟨_, rfl⟩
    rw [← hW]
    have base : sI0 W := by
      rw [hW]
      exact (si_u0 (si_u0 hI.1 (fun r hr => by rw [xt_1 hr]; exact ⟨by show (-128 : Int) ≤ _; omega, by show _ ≤ (127 : Int); omega⟩)) (fun r hr => by cases hr))
    have k2 : XI2 W := by
      rw [hW]
      exact (xi2_u rfl (xi2_u (sinc_ok rfl _) hI.2.1))
    have k3 : XI3 W := by
      rw [hW]
      exact (xi3_u rfl (xi3_u (sinc_ok rfl _) hI.2.2.1))
    have kXA : XA W := by
      rw [hW]
      exact (uXA rfl (uXA (sinc_ok rfl _) hI.2.2.2.1))
    have k_xN1 : xN1 W := by
      rw [hW]
      exact (uxN1 rfl (uxN1 (sinc_ok rfl _) hI.2.2.2.2.1))
    have k_xN2 : xN2 W := by
      rw [hW]
      exact (uxN2 rfl (uxN2 (sinc_ok rfl _) hI.2.2.2.2.2.1))
    have k_xN3 : xN3 W := by
      rw [hW]
      exact (uxN3 rfl (uxN3 (sinc_ok rfl _) hI.2.2.2.2.2.2.1))
    have k_xN4 : xN4 W := by
      rw [hW]
      exact (uxN4 rfl (uxN4 (sinc_ok rfl _) hI.2.2.2.2.2.2.2.1))
    have k_xN5 : xN5 W := by
      rw [hW]
      exact (uxN5 rfl (uxN5 (sinc_ok rfl _) hI.2.2.2.2.2.2.2.2.1))
    have k_xN6 : xN6 W := by
      rw [hW]
      exact (uxN6 rfl (uxN6 (sinc_ok rfl _) hI.2.2.2.2.2.2.2.2.2.1))
    have k_xH1 : xH1 W := by
      rw [hW]
      exact (uxH1 rfl (uxH1 (sinc_ok rfl _) hI.2.2.2.2.2.2.2.2.2.2.1))
    have k_xK1 : xK1 W := by
      rw [hW]
      exact (uxK1 rfl (uxK1 (sinc_ok rfl _) hI.2.2.2.2.2.2.2.2.2.2.2.1))
    have k_xC1 : xC1 W := by
      rw [hW]
      exact (uxC1 rfl (uxC1 (sinc_ok rfl _) hI.2.2.2.2.2.2.2.2.2.2.2.2.1))
    have k_xRW : xRW W := by
      rw [hW]
      exact (uxRW rfl (uxRW (sinc_ok rfl _) hI.2.2.2.2.2.2.2.2.2.2.2.2.2.1))
    have k_xWT : xWT W := by
      rw [hW]
      exact (uxWT rfl (uxWT (sinc_ok rfl _) hI.2.2.2.2.2.2.2.2.2.2.2.2.2.2.1))
    have k_xCU : xCU W := by
      rw [hW]
      exact (uxCU rfl (uxCU (sinc_ok rfl _) hI.2.2.2.2.2.2.2.2.2.2.2.2.2.2.2.1))
    have k_xG2 : xG2 W := by
      rw [hW]
      exact (uxG2 rfl (uxG2 (sinc_ok rfl _) hI.2.2.2.2.2.2.2.2.2.2.2.2.2.2.2.2.1))
    have k_xG3 : xG3 W := by
      rw [hW]
      exact (uxG3 rfl (uxG3 (sinc_ok rfl _) hI.2.2.2.2.2.2.2.2.2.2.2.2.2.2.2.2.2.1))
    have k_xG4 : xG4 W := by
      rw [hW]
      exact (uxG4 rfl (uxG4 (sinc_ok rfl _) hI.2.2.2.2.2.2.2.2.2.2.2.2.2.2.2.2.2.2.1))
    have k_xG5 : xG5 W := by
      rw [hW]
      exact (uxG5 rfl (uxG5 (sinc_ok rfl _) hI.2.2.2.2.2.2.2.2.2.2.2.2.2.2.2.2.2.2.2.1))
    have k_xG6 : xG6 W := by
      rw [hW]
      exact (uxG6 rfl (uxG6 (sinc_ok rfl _) hI.2.2.2.2.2.2.2.2.2.2.2.2.2.2.2.2.2.2.2.2.1))
    have k_xS1 : xS1 W := by
      have r : W 4 100 = 0 := by
        have e := m0
        rw [hW, sU_ne (fun z => by omega), sU_ne (fun z => by omega)]
        omega
      intro h
      rw [r] at h
      exact absurd rfl h
    have k_xS2 : xS2 W := by
      rw [hW]
      exact (uxS2 rfl (uxS2 (sinc_ok rfl _) hI.2.2.2.2.2.2.2.2.2.2.2.2.2.2.2.2.2.2.2.2.2.2.1))
    have k_xS3 : xS3 W := by
      rw [hW]
      exact (uxS3 rfl (uxS3 (sinc_ok rfl _) hI.2.2.2.2.2.2.2.2.2.2.2.2.2.2.2.2.2.2.2.2.2.2.2.1))
    have k_xS4 : xS4 W := by
      rw [hW]
      exact (uxS4 rfl (uxS4 (sinc_ok rfl _) hI.2.2.2.2.2.2.2.2.2.2.2.2.2.2.2.2.2.2.2.2.2.2.2.2.1))
    have k_xS5 : xS5 W := by
      rw [hW]
      exact (uxS5 rfl (uxS5 (sinc_ok rfl _) hI.2.2.2.2.2.2.2.2.2.2.2.2.2.2.2.2.2.2.2.2.2.2.2.2.2.1))
    have k_xS6 : xS6 W := by
      rw [hW]
      exact (uxS6 rfl (uxS6 (sinc_ok rfl _) hI.2.2.2.2.2.2.2.2.2.2.2.2.2.2.2.2.2.2.2.2.2.2.2.2.2.2.1))
    have k_xS7 : xS7 W := by
      rw [hW]
      exact (uxS7 rfl (uxS7 (sinc_ok rfl _) hI.2.2.2.2.2.2.2.2.2.2.2.2.2.2.2.2.2.2.2.2.2.2.2.2.2.2.2.1))
    have k_xS8 : xS8 W := by
      rw [hW]
      exact (uxS8 rfl (uxS8 (sinc_ok rfl _) hI.2.2.2.2.2.2.2.2.2.2.2.2.2.2.2.2.2.2.2.2.2.2.2.2.2.2.2.2.1))
    have k_xS9 : xS9 W := by
      rw [hW]
      exact (uxS9 rfl (uxS9 (sinc_ok rfl _) hI.2.2.2.2.2.2.2.2.2.2.2.2.2.2.2.2.2.2.2.2.2.2.2.2.2.2.2.2.2.1))
    have k_xSA : xSA W := by
      rw [hW]
      exact (uxSA rfl (uxSA (sinc_ok rfl _) hI.2.2.2.2.2.2.2.2.2.2.2.2.2.2.2.2.2.2.2.2.2.2.2.2.2.2.2.2.2.2.1))
    have k_xSG : xSG W := by
      rw [hW]
      exact (uxSG rfl (uxSG (sinc_ok rfl _) hI.2.2.2.2.2.2.2.2.2.2.2.2.2.2.2.2.2.2.2.2.2.2.2.2.2.2.2.2.2.2.2.1))
    have k_xSF : xSF W := by
      rw [hW]
      exact (uxSF rfl (uxSF (sinc_ok rfl _) hI.2.2.2.2.2.2.2.2.2.2.2.2.2.2.2.2.2.2.2.2.2.2.2.2.2.2.2.2.2.2.2.2.1))
    have k_xSB : xSB W := by
      rw [hW]
      exact (uxSB rfl (uxSB (sinc_ok rfl _) hI.2.2.2.2.2.2.2.2.2.2.2.2.2.2.2.2.2.2.2.2.2.2.2.2.2.2.2.2.2.2.2.2.2.1))
    have k_xSC : xSC W := by
      rw [hW]
      exact (uxSC rfl (uxSC (sinc_ok rfl _) hI.2.2.2.2.2.2.2.2.2.2.2.2.2.2.2.2.2.2.2.2.2.2.2.2.2.2.2.2.2.2.2.2.2.2.1))
    have k_xSD : xSD W := by
      rw [hW]
      exact (uxSD rfl (uxSD (sinc_ok rfl _) hI.2.2.2.2.2.2.2.2.2.2.2.2.2.2.2.2.2.2.2.2.2.2.2.2.2.2.2.2.2.2.2.2.2.2.2.1))
    have k_xSE : xSE W := by
      rw [hW]
      exact (uxSE rfl (uxSE (sinc_ok rfl _) hI.2.2.2.2.2.2.2.2.2.2.2.2.2.2.2.2.2.2.2.2.2.2.2.2.2.2.2.2.2.2.2.2.2.2.2.2.1))
    have k_xSW : xSW W := by
      rw [hW]
      exact (uxSW rfl (uxSW (sinc_ok rfl _) hI.2.2.2.2.2.2.2.2.2.2.2.2.2.2.2.2.2.2.2.2.2.2.2.2.2.2.2.2.2.2.2.2.2.2.2.2.2.1))
    have k_xST : xST W := by
      have r4_261 : W 4 261 = M 4 261 := by rw [hW, sU_ne (fun z => by omega), sU_ne (fun z => by omega)]
      have c1 : ∀ k : Nat, k ≠ (1 * ρ 1 + 0).toNat → W 1 k = M 1 k := fun k hk => by rw [hW, sU_ne (fun z => by omega), sU_ne (fun z => by omega)]
      have a1 : W 1 (1 * ρ 1 + 0).toNat = 1 * ρ 2 + 0 := by rw [hW, sU_ne (fun z => by omega), sU_at]
      have c92 : ∀ k, W 92 k = M 92 k := fun k => by rw [hW, sU_ne (fun z => by omega), sU_ne (fun z => by omega)]
      have e92 : W 92 = M 92 := funext c92
      intro i hi
      rw [r4_261] at hi
      rw [c1 i (by omega), e92]
      exact qxST i hi
    have k_xSP : xSP W := by
      have r4_262 : W 4 262 = 11 * ρ 0 + 0 := by rw [hW, sU_at]
      have r4_263 : W 4 263 = M 4 263 := by rw [hW, sU_ne (fun z => by omega), sU_ne (fun z => by omega)]
      have r4_264 : W 4 264 = M 4 264 := by rw [hW, sU_ne (fun z => by omega), sU_ne (fun z => by omega)]
      have r4_265 : W 4 265 = M 4 265 := by rw [hW, sU_ne (fun z => by omega), sU_ne (fun z => by omega)]
      have r4_266 : W 4 266 = M 4 266 := by rw [hW, sU_ne (fun z => by omega), sU_ne (fun z => by omega)]
      have r4_267 : W 4 267 = M 4 267 := by rw [hW, sU_ne (fun z => by omega), sU_ne (fun z => by omega)]
      have r4_268 : W 4 268 = M 4 268 := by rw [hW, sU_ne (fun z => by omega), sU_ne (fun z => by omega)]
      have r4_269 : W 4 269 = M 4 269 := by rw [hW, sU_ne (fun z => by omega), sU_ne (fun z => by omega)]
      have c1 : ∀ k : Nat, k ≠ (1 * ρ 1 + 0).toNat → W 1 k = M 1 k := fun k hk => by rw [hW, sU_ne (fun z => by omega), sU_ne (fun z => by omega)]
      have a1 : W 1 (1 * ρ 1 + 0).toNat = 1 * ρ 2 + 0 := by rw [hW, sU_ne (fun z => by omega), sU_at]
      have c92 : ∀ k, W 92 k = M 92 k := fun k => by rw [hW, sU_ne (fun z => by omega), sU_ne (fun z => by omega)]
      have e92 : W 92 = M 92 := funext c92
      unfold xSP
      rw [r4_262, r4_263, r4_264, e92]
      obtain ⟨p1, p2, p3⟩ := qxSP
      have e4 : ∀ x, x ≠ 262 → W 4 x = M 4 x := fun x hx => by rw [hW, sU_ne (fun z => by omega), sU_ne (fun z => by omega)]
      refine ⟨p1, fun q hq hl => ?_, fun q hq hl => by rw [e4 _ (by omega)]; exact p3 q hq hl⟩
      rw [h0] at hl
      rw [e4 _ (by omega)]
      by_cases hj : q = 10
      · subst hj
        show W 1 ((M 4 263).toNat + 10) = tSn (tBy (M 4 267) 10)
        rw [show (M 4 263).toNat + 10 = (1 * ρ 1 + 0).toNat by omega, a1, ← tb]
        have := xi2b (M 91 252)
        omega
      · rw [c1 _ (by omega)]
        exact p2 q hq (by omega)
    have k_xSL : xSL W := by
      rw [hW]
      exact (uxSL rfl (uxSL (sinc_ok rfl _) hI.2.2.2.2.2.2.2.2.2.2.2.2.2.2.2.2.2.2.2.2.2.2.2.2.2.2.2.2.2.2.2.2.2.2.2.2.2.2.2.2.1))
    have k_xSM : xSM W := by
      rw [hW]
      exact (uxSM rfl (uxSM (sinc_ok rfl _) hI.2.2.2.2.2.2.2.2.2.2.2.2.2.2.2.2.2.2.2.2.2.2.2.2.2.2.2.2.2.2.2.2.2.2.2.2.2.2.2.2.2.1))
    have k_xSI : xSI W := by
      rw [hW]
      exact (uxSI rfl (uxSI (sinc_ok rfl _) hI.2.2.2.2.2.2.2.2.2.2.2.2.2.2.2.2.2.2.2.2.2.2.2.2.2.2.2.2.2.2.2.2.2.2.2.2.2.2.2.2.2.2))
    have k_XC : XC W := ⟨k_xS1, k_xS2, k_xS3, k_xS4, k_xS5, k_xS6, k_xS7, k_xS8, k_xS9, k_xSA, k_xSG, k_xSF, k_xSB, k_xSC, k_xSD, k_xSE, k_xSW, k_xST, k_xSP, k_xSL, k_xSM, k_xSI⟩
    have kXB : XB W := ⟨k_xN1, k_xN2, k_xN3, k_xN4, k_xN5, k_xN6, k_xH1, k_xK1, k_xC1, k_xRW, k_xWT, k_xCU, k_xG2, k_xG3, k_xG4, k_xG5, k_xG6, k_XC⟩
    exact ⟨base, k2, k3, kXA, kXB⟩
-- fdW10
def xr_627 : qRu := (11, [[(-10, 0), (1, 1), (-1, 4)], [(10, 0), (-1, 1), (1, 4)], [(1, 1), (-1, 3)], [(-1, 1), (1, 3)], [(1, 4)], [(699, 0), (-1, 1)], [(1, 1)], [(-8, 0), (1, 6)], [(8, 0), (-1, 6)], [(1, 5), (-1, 8)], [(-1, 5), (1, 8)], [(-1, 2), (1, 9)], [(1, 2), (-1, 9)], [(1, 2)], [(255, 0), (-1, 2)]], [(4, 261, [(1, 3)]), (4, 262, [(20, 0)]), (4, 263, [(1, 4)]), (4, 264, []), (4, 267, [(1, 8)]), (91, 257, [(1, 9)]), (4, 100, []), (4, 200, []), (4, 210, []), (4, 212, []), (4, 214, []), (4, 220, []), (4, 233, []), (4, 235, []), (91, 249, [(1, 0)]), (91, 250, [(1, 5)]), (91, 251, [(1, 6)]), (91, 252, [(1, 7)])], [(92, [(1, 1)], [(1, 2)])], [(91, 990, [(1, 11)]), (4, 261, [(1, 0), (1, 3)])], [])
theorem xo_627 : qRok xr_627 := by
  intro ρ M h0 hf hm hI
  have f0 := hf [(-10, 0), (1, 1), (-1, 4)] (by decide)
  have f1 := hf [(10, 0), (-1, 1), (1, 4)] (by decide)
  have f2 := hf [(1, 1), (-1, 3)] (by decide)
  have f3 := hf [(-1, 1), (1, 3)] (by decide)
  have f4 := hf [(1, 4)] (by decide)
  have f5 := hf [(699, 0), (-1, 1)] (by decide)
  have f6 := hf [(1, 1)] (by decide)
  have f7 := hf [(-8, 0), (1, 6)] (by decide)
  have f8 := hf [(8, 0), (-1, 6)] (by decide)
  have f9 := hf [(1, 5), (-1, 8)] (by decide)
  have f10 := hf [(-1, 5), (1, 8)] (by decide)
  have f11 := hf [(-1, 2), (1, 9)] (by decide)
  have f12 := hf [(1, 2), (-1, 9)] (by decide)
  have f13 := hf [(1, 2)] (by decide)
  have f14 := hf [(255, 0), (-1, 2)] (by decide)
  simp only [qD, h0] at f0 f1 f2 f3 f4 f5 f6 f7 f8 f9 f10 f11 f12 f13 f14
  have m0 : M 4 261 = 1 * ρ 3 + 0 := hm (4, 261, [(1, 3)]) (by decide)
  have m1 : M 4 262 = 20 * ρ 0 + 0 := hm (4, 262, [(20, 0)]) (by decide)
  have m2 : M 4 263 = 1 * ρ 4 + 0 := hm (4, 263, [(1, 4)]) (by decide)
  have m3 : M 4 264 = 0 := hm (4, 264, []) (by decide)
  have m4 : M 4 267 = 1 * ρ 8 + 0 := hm (4, 267, [(1, 8)]) (by decide)
  have m5 : M 91 257 = 1 * ρ 9 + 0 := hm (91, 257, [(1, 9)]) (by decide)
  have m6 : M 4 100 = 0 := hm (4, 100, []) (by decide)
  have m7 : M 4 200 = 0 := hm (4, 200, []) (by decide)
  have m8 : M 4 210 = 0 := hm (4, 210, []) (by decide)
  have m9 : M 4 212 = 0 := hm (4, 212, []) (by decide)
  have m10 : M 4 214 = 0 := hm (4, 214, []) (by decide)
  have m11 : M 4 220 = 0 := hm (4, 220, []) (by decide)
  have m12 : M 4 233 = 0 := hm (4, 233, []) (by decide)
  have m13 : M 4 235 = 0 := hm (4, 235, []) (by decide)
  have m14 : M 91 249 = 1 * ρ 0 + 0 := hm (91, 249, [(1, 0)]) (by decide)
  have m15 : M 91 250 = 1 * ρ 5 + 0 := hm (91, 250, [(1, 5)]) (by decide)
  have m16 : M 91 251 = 1 * ρ 6 + 0 := hm (91, 251, [(1, 6)]) (by decide)
  have m17 : M 91 252 = 1 * ρ 7 + 0 := hm (91, 252, [(1, 7)]) (by decide)
  simp only [h0] at m1 m14
  have qxST := hI.2.2.2.2.2.2.2.2.2.2.2.2.2.2.2.2.2.2.2.2.2.2.2.2.2.2.2.2.2.2.2.2.2.2.2.2.2.2.1
  have qxSP := hI.2.2.2.2.2.2.2.2.2.2.2.2.2.2.2.2.2.2.2.2.2.2.2.2.2.2.2.2.2.2.2.2.2.2.2.2.2.2.2.1
  obtain ⟨g1, g2, g3, g4⟩ := gx_xSE hI (by omega)
  have tb : xop 1 (M 91 252) 255 = tBy (M 4 267) 10 := by
    unfold tBy
    rw [g1, show M 91 250 = M 4 267 by omega, show M 91 251 = 8 by omega]
    rfl

  have g257 := g4
  refine ⟨fun a => cond (Nat.blt a 11) (ρ a) (([xH (sU M 92 (1 * ρ 1 + 0).toNat (1 * ρ 2 + 0))] : List Int).getD (a - 11) 0), fun a ha => ?_, fun f h => ?_, ?_⟩
  · show cond (Nat.blt a 11) (ρ a) _ = ρ a
    rw [show Nat.blt a 11 = true from Nat.ble_eq_true_of_le ha]; rfl
  · exact nomatch h
  · show sI (sU (sU (sU M 92 (1 * ρ 1 + 0 : Int).toNat (1 * ρ 2 + 0)) 91 990 (1 * (xH (sU M 92 (1 * ρ 1 + 0).toNat (1 * ρ 2 + 0))) + 0)) 4 261 (1 * ρ 0 + (1 * ρ 3 + 0)))
    obtain ⟨W, hW⟩ : ∃ W, W = (sU (sU (sU M 92 (1 * ρ 1 + 0).toNat (1 * ρ 2 + 0)) 91 990 (1 * (xH (sU M 92 (1 * ρ 1 + 0).toNat (1 * ρ 2 + 0))) + 0)) 4 261 (1 * ρ 0 + (1 * ρ 3 + 0))) := ⟨_, rfl⟩
    rw [← hW]
    have base : sI0 W := by
      rw [hW]
      exact (si_u0 (si_u0 (si_u0 hI.1 (fun r hr => by rw [xt_92 hr]; exact ⟨by show (0 : Int) ≤ _; omega, by show _ ≤ (255 : Int); omega⟩)) (fun r hr => by cases hr)) (fun r hr => by cases hr))
    have k2 : XI2 W := by
      refine xi2_congr (fun o k hz ho => ?_) hI.2.1
      have h4 : ¬ (o = 4 ∧ k = 261) := fun z => by rw [z.1, z.2] at hz; exact absurd hz (by decide +kernel)
      rw [hW, sU_ne h4, sU_ne (fun z => by omega), sU_ne (fun z => by omega)]
    have k3 : XI3 W := by
      unfold XI3
      rw [hW]
      rw [sU_ne (fun z => by omega), sU_at]
      have e : ∀ o' k' x y, ¬ (o' = 91 ∧ k' = 990) → ¬ (o' = 4 ∧ k' = 261) → sU (sU (sU M 92 (1 * ρ 1 + 0).toNat (1 * ρ 2 + 0)) 91 990 x) 4 261 y o' k' = sU M 92 (1 * ρ 1 + 0).toNat (1 * ρ 2 + 0) o' k' := fun o' k' x y h h' => by rw [sU_ne h', sU_ne h]
      rw [show ∀ z : Int, 1 * z + 0 = z from fun z => by omega]
      unfold xH
      rw [e _ _ _ _ (by omega) (by omega), e _ _ _ _ (by omega) (by omega), e _ _ _ _ (by omega) (by omega)]
    have kXA : XA W := by
      rw [hW]
      exact (uXA rfl (uXA rfl (uXA (sinc_ok rfl _) hI.2.2.2.1)))
    have k_xN1 : xN1 W := by
      rw [hW]
      exact (uxN1 rfl (uxN1 rfl (uxN1 (sinc_ok rfl _) hI.2.2.2.2.1)))
    have k_xN2 : xN2 W := by
      rw [hW]
      exact (uxN2 rfl (uxN2 rfl (uxN2 (sinc_ok rfl _) hI.2.2.2.2.2.1)))
    have k_xN3 : xN3 W := by
      rw [hW]
      exact (uxN3 rfl (uxN3 rfl (uxN3 (sinc_ok rfl _) hI.2.2.2.2.2.2.1)))
    have k_xN4 : xN4 W := by
      rw [hW]
      exact (uxN4 rfl (uxN4 rfl (uxN4 (sinc_ok rfl _) hI.2.2.2.2.2.2.2.1)))
    have k_xN5 : xN5 W := by
      rw [hW]
      exact (uxN5 rfl (uxN5 rfl (uxN5 (sinc_ok rfl _) hI.2.2.2.2.2.2.2.2.1)))
    have k_xN6 : xN6 W := by
      rw [hW]
      exact (uxN6 rfl (uxN6 rfl (uxN6 (sinc_ok rfl _) hI.2.2.2.2.2.2.2.2.2.1)))
    have k_xH1 : xH1 W := by
      rw [hW]
      exact (uxH1 rfl (uxH1 rfl (uxH1 (sinc_ok rfl _) hI.2.2.2.2.2.2.2.2.2.2.1)))
    have k_xK1 : xK1 W := by
      rw [hW]
      exact (uxK1 rfl (uxK1 rfl (uxK1 (sinc_ok rfl _) hI.2.2.2.2.2.2.2.2.2.2.2.1)))
    have k_xC1 : xC1 W := by
      rw [hW]
      exact (uxC1 rfl (uxC1 rfl (uxC1 (sinc_ok rfl _) hI.2.2.2.2.2.2.2.2.2.2.2.2.1)))
    have k_xRW : xRW W := by
      rw [hW]
      exact (uxRW rfl (uxRW rfl (uxRW (sinc_ok rfl _) hI.2.2.2.2.2.2.2.2.2.2.2.2.2.1)))
    have k_xWT : xWT W := by
      rw [hW]
      exact (uxWT rfl (uxWT rfl (uxWT (sinc_ok rfl _) hI.2.2.2.2.2.2.2.2.2.2.2.2.2.2.1)))
    have k_xCU : xCU W := by
      rw [hW]
      exact (uxCU rfl (uxCU rfl (uxCU (sinc_ok rfl _) hI.2.2.2.2.2.2.2.2.2.2.2.2.2.2.2.1)))
    have k_xG2 : xG2 W := by
      rw [hW]
      exact (uxG2 rfl (uxG2 rfl (uxG2 (sinc_ok rfl _) hI.2.2.2.2.2.2.2.2.2.2.2.2.2.2.2.2.1)))
    have k_xG3 : xG3 W := by
      rw [hW]
      exact (uxG3 rfl (uxG3 rfl (uxG3 (sinc_ok rfl _) hI.2.2.2.2.2.2.2.2.2.2.2.2.2.2.2.2.2.1)))
    have k_xG4 : xG4 W := by
      rw [hW]
      exact (uxG4 rfl (uxG4 rfl (uxG4 (sinc_ok rfl _) hI.2.2.2.2.2.2.2.2.2.2.2.2.2.2.2.2.2.2.1)))
    have k_xG5 : xG5 W := by
      rw [hW]
      exact (uxG5 rfl (uxG5 rfl (uxG5 (sinc_ok rfl _) hI.2.2.2.2.2.2.2.2.2.2.2.2.2.2.2.2.2.2.2.1)))
    have k_xG6 : xG6 W := by
      rw [hW]
      exact (uxG6 rfl (uxG6 rfl (uxG6 (sinc_ok rfl _) hI.2.2.2.2.2.2.2.2.2.2.2.2.2.2.2.2.2.2.2.2.1)))
    have k_xS1 : xS1 W := by
      have r : W 4 100 = 0 := by
        have e := m6
        rw [hW, sU_ne (fun z => by omega), sU_ne (fun z => by omega), sU_ne (fun z => by omega)]
        omega
      intro h
      rw [r] at h
      exact absurd rfl h
    have k_xS2 : xS2 W := by
      have r : W 4 100 = 0 := by
        have e := m6
        rw [hW, sU_ne (fun z => by omega), sU_ne (fun z => by omega), sU_ne (fun z => by omega)]
        omega
      intro h
      rw [r] at h
      exact absurd rfl h
    have k_xS3 : xS3 W := by
      have r : W 4 100 = 0 := by
        have e := m6
        rw [hW, sU_ne (fun z => by omega), sU_ne (fun z => by omega), sU_ne (fun z => by omega)]
        omega
      intro h
      rw [r] at h
      exact absurd rfl h
    have k_xS4 : xS4 W := by
      rw [hW]
      exact (uxS4 rfl (uxS4 rfl (uxS4 (sinc_ok rfl _) hI.2.2.2.2.2.2.2.2.2.2.2.2.2.2.2.2.2.2.2.2.2.2.2.2.1)))
    have k_xS5 : xS5 W := by
      rw [hW]
      exact (uxS5 rfl (uxS5 rfl (uxS5 (sinc_ok rfl _) hI.2.2.2.2.2.2.2.2.2.2.2.2.2.2.2.2.2.2.2.2.2.2.2.2.2.1)))
    have k_xS6 : xS6 W := by
      rw [hW]
      exact (uxS6 rfl (uxS6 rfl (uxS6 (sinc_ok rfl _) hI.2.2.2.2.2.2.2.2.2.2.2.2.2.2.2.2.2.2.2.2.2.2.2.2.2.2.1)))
    have k_xS7 : xS7 W := by
      have r : W 4 200 = 0 := by
        have e := m7
        rw [hW, sU_ne (fun z => by omega), sU_ne (fun z => by omega), sU_ne (fun z => by omega)]
        omega
      intro h
      rw [r] at h
      omega
    have k_xS8 : xS8 W := by
      have r : W 4 210 = 0 := by
        have e := m8
        rw [hW, sU_ne (fun z => by omega), sU_ne (fun z => by omega), sU_ne (fun z => by omega)]
        omega
      intro h
      rw [r] at h
      omega
    have k_xS9 : xS9 W := by
      have r : W 4 212 = 0 := by
        have e := m9
        rw [hW, sU_ne (fun z => by omega), sU_ne (fun z => by omega), sU_ne (fun z => by omega)]
        omega
      intro h
      rw [r] at h
      omega
    have k_xSA : xSA W := by
      have r : W 4 214 = 0 := by
        have e := m10
        rw [hW, sU_ne (fun z => by omega), sU_ne (fun z => by omega), sU_ne (fun z => by omega)]
        omega
      intro h
      rw [r] at h
      omega
    have k_xSG : xSG W := by
      have r : W 4 235 = 0 := by
        have e := m13
        rw [hW, sU_ne (fun z => by omega), sU_ne (fun z => by omega), sU_ne (fun z => by omega)]
        omega
      intro h
      rw [r] at h
      omega
    have k_xSF : xSF W := by
      have r : W 4 233 = 0 := by
        have e := m12
        rw [hW, sU_ne (fun z => by omega), sU_ne (fun z => by omega), sU_ne (fun z => by omega)]
        omega
      intro h
      rw [r] at h
      omega
    have k_xSB : xSB W := by
      have r : W 4 220 = 0 := by
        have e := m11
        rw [hW, sU_ne (fun z => by omega), sU_ne (fun z => by omega), sU_ne (fun z => by omega)]
        omega
      intro h
      rw [r] at h
      omega
    have k_xSC : xSC W := by
      rw [hW]
      exact (uxSC rfl (uxSC rfl (uxSC (sinc_ok rfl _) hI.2.2.2.2.2.2.2.2.2.2.2.2.2.2.2.2.2.2.2.2.2.2.2.2.2.2.2.2.2.2.2.2.2.2.1)))
    have k_xSD : xSD W := by
      rw [hW]
      exact (uxSD rfl (uxSD rfl (uxSD (sinc_ok rfl _) hI.2.2.2.2.2.2.2.2.2.2.2.2.2.2.2.2.2.2.2.2.2.2.2.2.2.2.2.2.2.2.2.2.2.2.2.1)))
    have k_xSE : xSE W := by
      rw [hW]
      exact (uxSE rfl (uxSE rfl (uxSE (sinc_ok rfl _) hI.2.2.2.2.2.2.2.2.2.2.2.2.2.2.2.2.2.2.2.2.2.2.2.2.2.2.2.2.2.2.2.2.2.2.2.2.1)))
    have k_xSW : xSW W := by
      rw [hW]
      exact (uxSW rfl (uxSW rfl (uxSW (sinc_ok rfl _) hI.2.2.2.2.2.2.2.2.2.2.2.2.2.2.2.2.2.2.2.2.2.2.2.2.2.2.2.2.2.2.2.2.2.2.2.2.2.1)))
    have k_xST : xST W := by
      have r4_261 : W 4 261 = 1 * ρ 0 + (1 * ρ 3 + 0) := by rw [hW, sU_at]
      have c1 : ∀ k, W 1 k = M 1 k := fun k => by rw [hW, sU_ne (fun z => by omega), sU_ne (fun z => by omega), sU_ne (fun z => by omega)]
      have e1 : W 1 = M 1 := funext c1
      have c92 : ∀ k : Nat, k ≠ (1 * ρ 1 + 0).toNat → W 92 k = M 92 k := fun k hk => by rw [hW, sU_ne (fun z => by omega), sU_ne (fun z => by omega), sU_ne (fun z => by omega)]
      have a92 : W 92 (1 * ρ 1 + 0).toNat = 1 * ρ 2 + 0 := by rw [hW, sU_ne (fun z => by omega), sU_ne (fun z => by omega), sU_at]
      intro i hi
      rw [r4_261, h0] at hi
      rw [e1]
      by_cases hx : i = (1 * ρ 1 + 0).toNat
      · rw [hx, a92]
        obtain ⟨p1, p2, p3⟩ := gx_xSP hI
        have := p2 10 (by omega) (by omega)
        rw [show (M 4 263).toNat + 10 = (1 * ρ 1 + 0).toNat by omega] at this
        have this : M 1 (1 * ρ 1 + 0).toNat = tSn (tBy (M 4 267) 10) := this
        rw [this, ← tb]
        congr 1
        omega
      · rw [c92 i hx]
        exact qxST i (by omega)
    have k_xSP : xSP W := by
      have r4_262 : W 4 262 = M 4 262 := by rw [hW, sU_ne (fun z => by omega), sU_ne (fun z => by omega), sU_ne (fun z => by omega)]
      have r4_263 : W 4 263 = M 4 263 := by rw [hW, sU_ne (fun z => by omega), sU_ne (fun z => by omega), sU_ne (fun z => by omega)]
      have r4_264 : W 4 264 = M 4 264 := by rw [hW, sU_ne (fun z => by omega), sU_ne (fun z => by omega), sU_ne (fun z => by omega)]
      have r4_265 : W 4 265 = M 4 265 := by rw [hW, sU_ne (fun z => by omega), sU_ne (fun z => by omega), sU_ne (fun z => by omega)]
      have r4_266 : W 4 266 = M 4 266 := by rw [hW, sU_ne (fun z => by omega), sU_ne (fun z => by omega), sU_ne (fun z => by omega)]
      have r4_267 : W 4 267 = M 4 267 := by rw [hW, sU_ne (fun z => by omega), sU_ne (fun z => by omega), sU_ne (fun z => by omega)]
      have r4_268 : W 4 268 = M 4 268 := by rw [hW, sU_ne (fun z => by omega), sU_ne (fun z => by omega), sU_ne (fun z => by omega)]
      have r4_269 : W 4 269 = M 4 269 := by rw [hW, sU_ne (fun z => by omega), sU_ne (fun z => by omega), sU_ne (fun z => by omega)]
      have c1 : ∀ k, W 1 k = M 1 k := fun k => by rw [hW, sU_ne (fun z => by omega), sU_ne (fun z => by omega), sU_ne (fun z => by omega)]
      have e1 : W 1 = M 1 := funext c1
      have c92 : ∀ k : Nat, k ≠ (1 * ρ 1 + 0).toNat → W 92 k = M 92 k := fun k hk => by rw [hW, sU_ne (fun z => by omega), sU_ne (fun z => by omega), sU_ne (fun z => by omega)]
      have a92 : W 92 (1 * ρ 1 + 0).toNat = 1 * ρ 2 + 0 := by rw [hW, sU_ne (fun z => by omega), sU_ne (fun z => by omega), sU_at]
      unfold xSP
      rw [r4_262, r4_263, r4_264, e1]
      obtain ⟨p1, p2, p3⟩ := gx_xSP hI
      refine ⟨p1, fun q hq hl => ?_, fun q hq hl => by omega⟩
      have e4 : ∀ x, x ≠ 261 → W 4 x = M 4 x := fun x hx => by rw [hW, sU_ne (fun z => by omega), sU_ne (fun z => by omega), sU_ne (fun z => by omega)]
      rw [e4 _ (by omega)]
      exact p2 q hq hl
    have k_xSL : xSL W := by
      rw [hW]
      exact (uxSL rfl (uxSL rfl (uxSL (sinc_ok rfl _) hI.2.2.2.2.2.2.2.2.2.2.2.2.2.2.2.2.2.2.2.2.2.2.2.2.2.2.2.2.2.2.2.2.2.2.2.2.2.2.2.2.1)))
    have k_xSM : xSM W := by
      rw [hW]
      exact (uxSM rfl (uxSM rfl (uxSM (sinc_ok rfl _) hI.2.2.2.2.2.2.2.2.2.2.2.2.2.2.2.2.2.2.2.2.2.2.2.2.2.2.2.2.2.2.2.2.2.2.2.2.2.2.2.2.2.1)))
    have k_xSI : xSI W := by
      rw [hW]
      exact (uxSI rfl (uxSI rfl (uxSI (sinc_ok rfl _) hI.2.2.2.2.2.2.2.2.2.2.2.2.2.2.2.2.2.2.2.2.2.2.2.2.2.2.2.2.2.2.2.2.2.2.2.2.2.2.2.2.2.2)))
    have k_XC : XC W := ⟨k_xS1, k_xS2, k_xS3, k_xS4, k_xS5, k_xS6, k_xS7, k_xS8, k_xS9, k_xSA, k_xSG, k_xSF, k_xSB, k_xSC, k_xSD, k_xSE, k_xSW, k_xST, k_xSP, k_xSL, k_xSM, k_xSI⟩
    have kXB : XB W := ⟨k_xN1, k_xN2, k_xN3, k_xN4, k_xN5, k_xN6, k_xH1, k_xK1, k_xC1, k_xRW, k_xWT, k_xCU, k_xG2, k_xG3, k_xG4, k_xG5, k_xG6, k_XC⟩
    exact ⟨base, k2, k3, kXA, kXB⟩
-- fdC11
def xr_628 : qRu := (11, [[(-11, 0), (1, 1), (-1, 4)], [(11, 0), (-1, 1), (1, 4)], [(1, 1), (-1, 3)], [(1, 4)], [(699, 0), (-1, 1)], [(1, 1)], [(1, 6)], [(-1, 6)], [(1, 5), (-1, 8)], [(-1, 5), (1, 8)], [(-1, 2), (1, 9)], [(1, 2), (-1, 9)], [(-1, 7), (1, 10)], [(1, 7), (-1, 10)], [(128, 0), (1, 2)], [(127, 0), (-1, 2)]], [(4, 100, []), (4, 261, [(1, 3)]), (4, 262, [(11, 0)]), (4, 263, [(1, 4)]), (4, 267, [(1, 8)]), (91, 259, [(1, 0)]), (91, 248, [(1, 10)]), (91, 258, [(1, 9)]), (91, 249, [(1, 0)]), (91, 250, [(1, 5)]), (91, 251, [(1, 6)]), (91, 252, [(1, 7)])], [(1, [(1, 1)], [(1, 2)])], [(4, 262, [(12, 0)])], [])
theorem xo_628 : qRok xr_628 := by
  intro ρ M h0 hf hm hI
  have f0 := hf [(-11, 0), (1, 1), (-1, 4)] (by decide)
  have f1 := hf [(11, 0), (-1, 1), (1, 4)] (by decide)
  have f2 := hf [(1, 1), (-1, 3)] (by decide)
  have f3 := hf [(1, 4)] (by decide)
  have f4 := hf [(699, 0), (-1, 1)] (by decide)
  have f5 := hf [(1, 1)] (by decide)
  have f6 := hf [(1, 6)] (by decide)
  have f7 := hf [(-1, 6)] (by decide)
  have f8 := hf [(1, 5), (-1, 8)] (by decide)
  have f9 := hf [(-1, 5), (1, 8)] (by decide)
  have f10 := hf [(-1, 2), (1, 9)] (by decide)
  have f11 := hf [(1, 2), (-1, 9)] (by decide)
  have f12 := hf [(-1, 7), (1, 10)] (by decide)
  have f13 := hf [(1, 7), (-1, 10)] (by decide)
  have f14 := hf [(128, 0), (1, 2)] (by decide)
  have f15 := hf [(127, 0), (-1, 2)] (by decide)
  simp only [qD, h0] at f0 f1 f2 f3 f4 f5 f6 f7 f8 f9 f10 f11 f12 f13 f14 f15
  have m0 : M 4 100 = 0 := hm (4, 100, []) (by decide)
  have m1 : M 4 261 = 1 * ρ 3 + 0 := hm (4, 261, [(1, 3)]) (by decide)
  have m2 : M 4 262 = 11 * ρ 0 + 0 := hm (4, 262, [(11, 0)]) (by decide)
  have m3 : M 4 263 = 1 * ρ 4 + 0 := hm (4, 263, [(1, 4)]) (by decide)
  have m4 : M 4 267 = 1 * ρ 8 + 0 := hm (4, 267, [(1, 8)]) (by decide)
  have m5 : M 91 259 = 1 * ρ 0 + 0 := hm (91, 259, [(1, 0)]) (by decide)
  have m6 : M 91 248 = 1 * ρ 10 + 0 := hm (91, 248, [(1, 10)]) (by decide)
  have m7 : M 91 258 = 1 * ρ 9 + 0 := hm (91, 258, [(1, 9)]) (by decide)
  have m8 : M 91 249 = 1 * ρ 0 + 0 := hm (91, 249, [(1, 0)]) (by decide)
  have m9 : M 91 250 = 1 * ρ 5 + 0 := hm (91, 250, [(1, 5)]) (by decide)
  have m10 : M 91 251 = 1 * ρ 6 + 0 := hm (91, 251, [(1, 6)]) (by decide)
  have m11 : M 91 252 = 1 * ρ 7 + 0 := hm (91, 252, [(1, 7)]) (by decide)
  simp only [h0] at m2 m5 m8
  have qxST := hI.2.2.2.2.2.2.2.2.2.2.2.2.2.2.2.2.2.2.2.2.2.2.2.2.2.2.2.2.2.2.2.2.2.2.2.2.2.2.1
  have qxSP := hI.2.2.2.2.2.2.2.2.2.2.2.2.2.2.2.2.2.2.2.2.2.2.2.2.2.2.2.2.2.2.2.2.2.2.2.2.2.2.2.1
  obtain ⟨g1, g2, g3, g4⟩ := gx_xSE hI (by omega)
  have tb : xop 1 (M 91 252) 255 = tBy (M 4 267) 11 := by
    unfold tBy
    rw [g1, show M 91 250 = M 4 267 by omega, show M 91 251 = 0 by omega]
    rfl

  have gi := gx_xSI hI (by omega)
  rw [show M 91 248 = M 91 252 by omega] at gi
  refine ⟨ρ, fun _ _ => rfl, fun f h => ?_, ?_⟩
  · exact nomatch h
  · show sI (sU (sU M 1 (1 * ρ 1 + 0 : Int).toNat (1 * ρ 2 + 0)) 4 262 (12 * ρ 0 + 0))
    obtain ⟨W, hW⟩ : ∃ W, W = (sU (sU M 1 (1 * ρ 1 + 0).toNat (1 * ρ 2 + 0)) 4 262 (12 * ρ 0 + 0)) := ⟨_, rfl⟩
    rw [← hW]
    have base : sI0 W := by
      rw [hW]
      exact (si_u0 (si_u0 hI.1 (fun r hr => by rw [xt_1 hr]; exact ⟨by show (-128 : Int) ≤ _; omega, by show _ ≤ (127 : Int); omega⟩)) (fun r hr => by cases hr))
    have k2 : XI2 W := by
      rw [hW]
      exact (xi2_u rfl (xi2_u (sinc_ok rfl _) hI.2.1))
    have k3 : XI3 W := by
      rw [hW]
      exact (xi3_u rfl (xi3_u (sinc_ok rfl _) hI.2.2.1))
    have kXA : XA W := by
      rw [hW]
      exact (uXA rfl (uXA (sinc_ok rfl _) hI.2.2.2.1))
    have k_xN1 : xN1 W := by
      rw [hW]
      exact (uxN1 rfl (uxN1 (sinc_ok rfl _) hI.2.2.2.2.1))
    have k_xN2 : xN2 W := by
      rw [hW]
      exact (uxN2 rfl (uxN2 (sinc_ok rfl _) hI.2.2.2.2.2.1))
    have k_xN3 : xN3 W := by
      rw [hW]
      exact (uxN3 rfl (uxN3 (sinc_ok rfl _) hI.2.2.2.2.2.2.1))
    have k_xN4 : xN4 W := by
      rw [hW]
      exact (uxN4 rfl (uxN4 (sinc_ok rfl _) hI.2.2.2.2.2.2.2.1))
    have k_xN5 : xN5 W := by
      rw [hW]
      exact (uxN5 rfl (uxN5 (sinc_ok rfl _) hI.2.2.2.2.2.2.2.2.1))
    have k_xN6 : xN6 W := by
      rw [hW]
      exact (uxN6 rfl (uxN6 (sinc_ok rfl _) hI.2.2.2.2.2.2.2.2.2.1))
    have k_xH1 : xH1 W := by
      rw [hW]
      exact (uxH1 rfl (uxH1 (sinc_ok rfl _) hI.2.2.2.2.2.2.2.2.2.2.1))
    have k_xK1 : xK1 W := by
      rw [hW]
      exact (uxK1 rfl (uxK1 (sinc_ok rfl _) hI.2.2.2.2.2.2.2.2.2.2.2.1))
    have k_xC1 : xC1 W := by
      rw [hW]
      exact (uxC1 rfl (uxC1 (sinc_ok rfl _) hI.2.2.2.2.2.2.2.2.2.2.2.2.1))
    have k_xRW : xRW W := by
      rw [hW]
      exact (uxRW rfl (uxRW (sinc_ok rfl _) hI.2.2.2.2.2.2.2.2.2.2.2.2.2.1))
    have k_xWT : xWT W := by
      rw [hW]
      exact (uxWT rfl (uxWT (sinc_ok rfl _) hI.2.2.2.2.2.2.2.2.2.2.2.2.2.2.1))
    have k_xCU : xCU W := by
      rw [hW]
      exact (uxCU rfl (uxCU (sinc_ok rfl _) hI.2.2.2.2.2.2.2.2.2.2.2.2.2.2.2.1))
    have k_xG2 : xG2 W := by
      rw [hW]
      exact (uxG2 rfl (uxG2 (sinc_ok rfl _) hI.2.2.2.2.2.2.2.2.2.2.2.2.2.2.2.2.1))
    have k_xG3 : xG3 W := by
      rw [hW]
      exact (uxG3 rfl (uxG3 (sinc_ok rfl _) hI.2.2.2.2.2.2.2.2.2.2.2.2.2.2.2.2.2.1))
    have k_xG4 : xG4 W := by
      rw [hW]
      exact (uxG4 rfl (uxG4 (sinc_ok rfl _) hI.2.2.2.2.2.2.2.2.2.2.2.2.2.2.2.2.2.2.1))
    have k_xG5 : xG5 W := by
      rw [hW]
      exact (uxG5 rfl (uxG5 (sinc_ok rfl _) hI.2.2.2.2.2.2.2.2.2.2.2.2.2.2.2.2.2.2.2.1))
    have k_xG6 : xG6 W := by
      rw [hW]
      exact (uxG6 rfl (uxG6 (sinc_ok rfl _) hI.2.2.2.2.2.2.2.2.2.2.2.2.2.2.2.2.2.2.2.2.1))
    have k_xS1 : xS1 W := by
      have r : W 4 100 = 0 := by
        have e := m0
        rw [hW, sU_ne (fun z => by omega), sU_ne (fun z => by omega)]
        omega
      intro h
      rw [r] at h
      exact absurd rfl h
    have k_xS2 : xS2 W := by
      rw [hW]
      exact (uxS2 rfl (uxS2 (sinc_ok rfl _) hI.2.2.2.2.2.2.2.2.2.2.2.2.2.2.2.2.2.2.2.2.2.2.1))
    have k_xS3 : xS3 W := by
      rw [hW]
      exact (uxS3 rfl (uxS3 (sinc_ok rfl _) hI.2.2.2.2.2.2.2.2.2.2.2.2.2.2.2.2.2.2.2.2.2.2.2.1))
    have k_xS4 : xS4 W := by
      rw [hW]
      exact (uxS4 rfl (uxS4 (sinc_ok rfl _) hI.2.2.2.2.2.2.2.2.2.2.2.2.2.2.2.2.2.2.2.2.2.2.2.2.1))
    have k_xS5 : xS5 W := by
      rw [hW]
      exact (uxS5 rfl (uxS5 (sinc_ok rfl _) hI.2.2.2.2.2.2.2.2.2.2.2.2.2.2.2.2.2.2.2.2.2.2.2.2.2.1))
    have k_xS6 : xS6 W := by
      rw [hW]
      exact (uxS6 rfl (uxS6 (sinc_ok rfl _) hI.2.2.2.2.2.2.2.2.2.2.2.2.2.2.2.2.2.2.2.2.2.2.2.2.2.2.1))
    have k_xS7 : xS7 W := by
      rw [hW]
      exact (uxS7 rfl (uxS7 (sinc_ok rfl _) hI.2.2.2.2.2.2.2.2.2.2.2.2.2.2.2.2.2.2.2.2.2.2.2.2.2.2.2.1))
    have k_xS8 : xS8 W := by
      rw [hW]
      exact (uxS8 rfl (uxS8 (sinc_ok rfl _) hI.2.2.2.2.2.2.2.2.2.2.2.2.2.2.2.2.2.2.2.2.2.2.2.2.2.2.2.2.1))
    have k_xS9 : xS9 W := by
      rw [hW]
      exact (uxS9 rfl (uxS9 (sinc_ok rfl _) hI.2.2.2.2.2.2.2.2.2.2.2.2.2.2.2.2.2.2.2.2.2.2.2.2.2.2.2.2.2.1))
    have k_xSA : xSA W := by
      rw [hW]
      exact (uxSA rfl (uxSA (sinc_ok rfl _) hI.2.2.2.2.2.2.2.2.2.2.2.2.2.2.2.2.2.2.2.2.2.2.2.2.2.2.2.2.2.2.1))
    have k_xSG : xSG W := by
      rw [hW]
      exact (uxSG rfl (uxSG (sinc_ok rfl _) hI.2.2.2.2.2.2.2.2.2.2.2.2.2.2.2.2.2.2.2.2.2.2.2.2.2.2.2.2.2.2.2.1))
    have k_xSF : xSF W := by
      rw [hW]
      exact (uxSF rfl (uxSF (sinc_ok rfl _) hI.2.2.2.2.2.2.2.2.2.2.2.2.2.2.2.2.2.2.2.2.2.2.2.2.2.2.2.2.2.2.2.2.1))
    have k_xSB : xSB W := by
      rw [hW]
      exact (uxSB rfl (uxSB (sinc_ok rfl _) hI.2.2.2.2.2.2.2.2.2.2.2.2.2.2.2.2.2.2.2.2.2.2.2.2.2.2.2.2.2.2.2.2.2.1))
    have k_xSC : xSC W := by
      rw [hW]
      exact (uxSC rfl (uxSC (sinc_ok rfl _) hI.2.2.2.2.2.2.2.2.2.2.2.2.2.2.2.2.2.2.2.2.2.2.2.2.2.2.2.2.2.2.2.2.2.2.1))
    have k_xSD : xSD W := by
      rw [hW]
      exact (uxSD rfl (uxSD (sinc_ok rfl _) hI.2.2.2.2.2.2.2.2.2.2.2.2.2.2.2.2.2.2.2.2.2.2.2.2.2.2.2.2.2.2.2.2.2.2.2.1))
    have k_xSE : xSE W := by
      rw [hW]
      exact (uxSE rfl (uxSE (sinc_ok rfl _) hI.2.2.2.2.2.2.2.2.2.2.2.2.2.2.2.2.2.2.2.2.2.2.2.2.2.2.2.2.2.2.2.2.2.2.2.2.1))
    have k_xSW : xSW W := by
      rw [hW]
      exact (uxSW rfl (uxSW (sinc_ok rfl _) hI.2.2.2.2.2.2.2.2.2.2.2.2.2.2.2.2.2.2.2.2.2.2.2.2.2.2.2.2.2.2.2.2.2.2.2.2.2.1))
    have k_xST : xST W := by
      have r4_261 : W 4 261 = M 4 261 := by rw [hW, sU_ne (fun z => by omega), sU_ne (fun z => by omega)]
      have c1 : ∀ k : Nat, k ≠ (1 * ρ 1 + 0).toNat → W 1 k = M 1 k := fun k hk => by rw [hW, sU_ne (fun z => by omega), sU_ne (fun z => by omega)]
      have a1 : W 1 (1 * ρ 1 + 0).toNat = 1 * ρ 2 + 0 := by rw [hW, sU_ne (fun z => by omega), sU_at]
      have c92 : ∀ k, W 92 k = M 92 k := fun k => by rw [hW, sU_ne (fun z => by omega), sU_ne (fun z => by omega)]
      have e92 : W 92 = M 92 := funext c92
      intro i hi
      rw [r4_261] at hi
      rw [c1 i (by omega), e92]
      exact qxST i hi
    have k_xSP : xSP W := by
      have r4_262 : W 4 262 = 12 * ρ 0 + 0 := by rw [hW, sU_at]
      have r4_263 : W 4 263 = M 4 263 := by rw [hW, sU_ne (fun z => by omega), sU_ne (fun z => by omega)]
      have r4_264 : W 4 264 = M 4 264 := by rw [hW, sU_ne (fun z => by omega), sU_ne (fun z => by omega)]
      have r4_265 : W 4 265 = M 4 265 := by rw [hW, sU_ne (fun z => by omega), sU_ne (fun z => by omega)]
      have r4_266 : W 4 266 = M 4 266 := by rw [hW, sU_ne (fun z => by omega), sU_ne (fun z => by omega)]
      have r4_267 : W 4 267 = M 4 267 := by rw [hW, sU_ne (fun z => by omega), sU_ne (fun z => by omega)]
      have r4_268 : W 4 268 = M 4 268 := by rw [hW, sU_ne (fun z => by omega), sU_ne (fun z => by omega)]
      have r4_269 : W 4 269 = M 4 269 := by rw [hW, sU_ne (fun z => by omega), sU_ne (fun z => by omega)]
      have c1 : ∀ k : Nat, k ≠ (1 * ρ 1 + 0).toNat → W 1 k = M 1 k := fun k hk => by rw [hW, sU_ne (fun z => by omega), sU_ne (fun z => by omega)]
      have a1 : W 1 (1 * ρ 1 + 0).toNat = 1 * ρ 2 + 0 := by rw [hW, sU_ne (fun z => by omega), sU_at]
      have c92 : ∀ k, W 92 k = M 92 k := fun k => by rw [hW, sU_ne (fun z => by omega), sU_ne (fun z => by omega)]
      have e92 : W 92 = M 92 := funext c92
      unfold xSP
      rw [r4_262, r4_263, r4_264, e92]
      obtain ⟨p1, p2, p3⟩ := qxSP
      have e4 : ∀ x, x ≠ 262 → W 4 x = M 4 x := fun x hx => by rw [hW, sU_ne (fun z => by omega), sU_ne (fun z => by omega)]
      refine ⟨p1, fun q hq hl => ?_, fun q hq hl => by rw [e4 _ (by omega)]; exact p3 q hq hl⟩
      rw [h0] at hl
      rw [e4 _ (by omega)]
      by_cases hj : q = 11
      · subst hj
        show W 1 ((M 4 263).toNat + 11) = tSn (tBy (M 4 267) 11)
        rw [show (M 4 263).toNat + 11 = (1 * ρ 1 + 0).toNat by omega, a1, ← tb]
        have := xi2b (M 91 252)
        omega
      · rw [c1 _ (by omega)]
        exact p2 q hq (by omega)
    have k_xSL : xSL W := by
      rw [hW]
      exact (uxSL rfl (uxSL (sinc_ok rfl _) hI.2.2.2.2.2.2.2.2.2.2.2.2.2.2.2.2.2.2.2.2.2.2.2.2.2.2.2.2.2.2.2.2.2.2.2.2.2.2.2.2.1))
    have k_xSM : xSM W := by
      rw [hW]
      exact (uxSM rfl (uxSM (sinc_ok rfl _) hI.2.2.2.2.2.2.2.2.2.2.2.2.2.2.2.2.2.2.2.2.2.2.2.2.2.2.2.2.2.2.2.2.2.2.2.2.2.2.2.2.2.1))
    have k_xSI : xSI W := by
      rw [hW]
      exact (uxSI rfl (uxSI (sinc_ok rfl _) hI.2.2.2.2.2.2.2.2.2.2.2.2.2.2.2.2.2.2.2.2.2.2.2.2.2.2.2.2.2.2.2.2.2.2.2.2.2.2.2.2.2.2))
    have k_XC : XC W := ⟨k_xS1, k_xS2, k_xS3, k_xS4, k_xS5, k_xS6, k_xS7, k_xS8, k_xS9, k_xSA, k_xSG, k_xSF, k_xSB, k_xSC, k_xSD, k_xSE, k_xSW, k_xST, k_xSP, k_xSL, k_xSM, k_xSI⟩
    have kXB : XB W := ⟨k_xN1, k_xN2, k_xN3, k_xN4, k_xN5, k_xN6, k_xH1, k_xK1, k_xC1, k_xRW, k_xWT, k_xCU, k_xG2, k_xG3, k_xG4, k_xG5, k_xG6, k_XC⟩
    exact ⟨base, k2, k3, kXA, kXB⟩
-- fdW11
def xr_629 : qRu := (11, [[(-11, 0), (1, 1), (-1, 4)], [(11, 0), (-1, 1), (1, 4)], [(1, 1), (-1, 3)], [(-1, 1), (1, 3)], [(1, 4)], [(699, 0), (-1, 1)], [(1, 1)], [(1, 6)], [(-1, 6)], [(1, 5), (-1, 8)], [(-1, 5), (1, 8)], [(-1, 2), (1, 9)], [(1, 2), (-1, 9)], [(1, 2)], [(255, 0), (-1, 2)]], [(4, 261, [(1, 3)]), (4, 262, [(20, 0)]), (4, 263, [(1, 4)]), (4, 264, []), (4, 267, [(1, 8)]), (91, 257, [(1, 9)]), (4, 100, []), (4, 200, []), (4, 210, []), (4, 212, []), (4, 214, []), (4, 220, []), (4, 233, []), (4, 235, []), (91, 249, [(1, 0)]), (91, 250, [(1, 5)]), (91, 251, [(1, 6)]), (91, 252, [(1, 7)])], [(92, [(1, 1)], [(1, 2)])], [(91, 990, [(1, 11)]), (4, 261, [(1, 0), (1, 3)])], [])
theorem xo_629 : qRok xr_629 := by
  intro ρ M h0 hf hm hI
  have f0 := hf [(-11, 0), (1, 1), (-1, 4)] (by decide)
  have f1 := hf [(11, 0), (-1, 1), (1, 4)] (by decide)
  have f2 := hf [(1, 1), (-1, 3)] (by decide)
  have f3 := hf [(-1, 1), (1, 3)] (by decide)
  have f4 := hf [(1, 4)] (by decide)
  have f5 := hf [(699, 0), (-1, 1)] (by decide)
  have f6 := hf [(1, 1)] (by decide)
  have f7 := hf [(1, 6)] (by decide)
  have f8 := hf [(-1, 6)] (by decide)
  have f9 := hf [(1, 5), (-1, 8)] (by decide)
  have f10 := hf [(-1, 5), (1, 8)] (by decide)
  have f11 := hf [(-1, 2), (1, 9)] (by decide)
  have f12 := hf [(1, 2), (-1, 9)] (by decide)
  have f13 := hf [(1, 2)] (by decide)
  have f14 := hf [(255, 0), (-1, 2)] (by decide)
  simp only [qD, h0] at f0 f1 f2 f3 f4 f5 f6 f7 f8 f9 f10 f11 f12 f13 f14
  have m0 : M 4 261 = 1 * ρ 3 + 0 := hm (4, 261, [(1, 3)]) (by decide)
  have m1 : M 4 262 = 20 * ρ 0 + 0 := hm (4, 262, [(20, 0)]) (by decide)
  have m2 : M 4 263 = 1 * ρ 4 + 0 := hm (4, 263, [(1, 4)]) (by decide)
  have m3 : M 4 264 = 0 := hm (4, 264, []) (by decide)
  have m4 : M 4 267 = 1 * ρ 8 + 0 := hm (4, 267, [(1, 8)]) (by decide)
  have m5 : M 91 257 = 1 * ρ 9 + 0 := hm (91, 257, [(1, 9)]) (by decide)
  have m6 : M 4 100 = 0 := hm (4, 100, []) (by decide)
  have m7 : M 4 200 = 0 := hm (4, 200, []) (by decide)
  have m8 : M 4 210 = 0 := hm (4, 210, []) (by decide)
  have m9 : M 4 212 = 0 := hm (4, 212, []) (by decide)
  have m10 : M 4 214 = 0 := hm (4, 214, []) (by decide)
  have m11 : M 4 220 = 0 := hm (4, 220, []) (by decide)
  have m12 : M 4 233 = 0 := hm (4, 233, []) (by decide)
  have m13 : M 4 235 = 0 := hm (4, 235, []) (by decide)
  have m14 : M 91 249 = 1 * ρ 0 + 0 := hm (91, 249, [(1, 0)]) (by decide)
  have m15 : M 91 250 = 1 * ρ 5 + 0 := hm (91, 250, [(1, 5)]) (by decide)
  have m16 : M 91 251 = 1 * ρ 6 + 0 := hm (91, 251, [(1, 6)]) (by decide)
  have m17 : M 91 252 = 1 * ρ 7 + 0 := hm (91, 252, [(1, 7)]) (by decide)
  simp only [h0] at m1 m14
  have qxST := hI.2.2.2.2.2.2.2.2.2.2.2.2.2.2.2.2.2.2.2.2.2.2.2.2.2.2.2.2.2.2.2.2.2.2.2.2.2.2.1
  have qxSP := hI.2.2.2.2.2.2.2.2.2.2.2.2.2.2.2.2.2.2.2.2.2.2.2.2.2.2.2.2.2.2.2.2.2.2.2.2.2.2.2.1
  obtain ⟨g1, g2, g3, g4⟩ := gx_xSE hI (by omega)
  have tb : xop 1 (M 91 252) 255 = tBy (M 4 267) 11 := by
    unfold tBy
    rw [g1, show M 91 250 = M 4 267 by omega, show M 91 251 = 0 by omega]
    rfl

  have g257 := g4
  refine ⟨fun a => cond (Nat.blt a 11) (ρ a) (([xH (sU M 92 (1 * ρ 1 + 0).toNat (1 * ρ 2 + 0))] : List Int).getD (a - 11) 0), fun a ha => ?_, fun f h => ?_, ?_⟩
  · show cond (Nat.blt a 11) (ρ a) _ = ρ a
    rw [show Nat.blt a 11 = true from Nat.ble_eq_true_of_le ha]; rfl
  · exact nomatch h
  · show sI (sU (sU (sU M 92 (1 * ρ 1 + 0 : Int).toNat (1 * ρ 2 + 0)) 91 990 (1 * (xH (sU M 92 (1 * ρ 1 + 0).toNat (1 * ρ 2 + 0))) + 0)) 4 261 (1 * ρ 0 + (1 * ρ 3 + 0)))
    obtain ⟨W, hW⟩ : ∃ W, W = (sU (sU (sU M 92 (1 * ρ 1 + 0).toNat (1 * ρ 2 + 0)) 91 990 (1 * (xH (sU M 92 (1 * ρ 1 + 0).toNat (1 * ρ 2 + 0))) + 0)) 4 261 (1 * ρ 0 + (1 * ρ 3 + 0))) := ⟨_, rfl⟩
    rw [← hW]
    have base : sI0 W := by
      rw [hW]
      exact (si_u0 (si_u0 (si_u0 hI.1 (fun r hr => by rw [xt_92 hr]; exact ⟨by show (0 : Int) ≤ _; omega, by show _ ≤ (255 : Int); omega⟩)) (fun r hr => by cases hr)) (fun r hr => by cases hr))
    have k2 : XI2 W := by
      refine xi2_congr (fun o k hz ho => ?_) hI.2.1
      have h4 : ¬ (o = 4 ∧ k = 261) := fun z => by rw [z.1, z.2] at hz; exact absurd hz (by decide +kernel)
      rw [hW, sU_ne h4, sU_ne (fun z => by omega), sU_ne (fun z => by omega)]
    have k3 : XI3 W := by
      unfold XI3
      rw [hW]
      rw [sU_ne (fun z => by omega), sU_at]
      have e : ∀ o' k' x y, ¬ (o' = 91 ∧ k' = 990) → ¬ (o' = 4 ∧ k' = 261) → sU (sU (sU M 92 (1 * ρ 1 + 0).toNat (1 * ρ 2 + 0)) 91 990 x) 4 261 y o' k' = sU M 92 (1 * ρ 1 + 0).toNat (1 * ρ 2 + 0) o' k' := fun o' k' x y h h' => by rw [sU_ne h', sU_ne h]
      rw [show ∀ z : Int, 1 * z + 0 = z from fun z => by omega]
      unfold xH
      rw [e _ _ _ _ (by omega) (by omega), e _ _ _ _ (by omega) (by omega), e _ _ _ _ (by omega) (by omega)]
    have kXA : XA W := by
      rw [hW]
      exact (uXA rfl (uXA rfl (uXA (sinc_ok rfl _) hI.2.2.2.1)))
    have k_xN1 : xN1 W := by
      rw [hW]
      exact (uxN1 rfl (uxN1 rfl (uxN1 (sinc_ok rfl _) hI.2.2.2.2.1)))
    have k_xN2 : xN2 W := by
      rw [hW]
      exact (uxN2 rfl (uxN2 rfl (uxN2 (sinc_ok rfl _) hI.2.2.2.2.2.1)))
    have k_xN3 : xN3 W := by
      rw [hW]
      exact (uxN3 rfl (uxN3 rfl (uxN3 (sinc_ok rfl _) hI.2.2.2.2.2.2.1)))
    have k_xN4 : xN4 W := by
      rw [hW]
      exact (uxN4 rfl (uxN4 rfl (uxN4 (sinc_ok rfl _) hI.2.2.2.2.2.2.2.1)))
    have k_xN5 : xN5 W := by
      rw [hW]
      exact (uxN5 rfl (uxN5 rfl (uxN5 (sinc_ok rfl _) hI.2.2.2.2.2.2.2.2.1)))
    have k_xN6 : xN6 W := by
      rw [hW]
      exact (uxN6 rfl (uxN6 rfl (uxN6 (sinc_ok rfl _) hI.2.2.2.2.2.2.2.2.2.1)))
    have k_xH1 : xH1 W := by
      rw [hW]
      exact (uxH1 rfl (uxH1 rfl (uxH1 (sinc_ok rfl _) hI.2.2.2.2.2.2.2.2.2.2.1)))
    have k_xK1 : xK1 W := by
      rw [hW]
      exact (uxK1 rfl (uxK1 rfl (uxK1 (sinc_ok rfl _) hI.2.2.2.2.2.2.2.2.2.2.2.1)))
    have k_xC1 : xC1 W := by
      rw [hW]
      exact (uxC1 rfl (uxC1 rfl (uxC1 (sinc_ok rfl _) hI.2.2.2.2.2.2.2.2.2.2.2.2.1)))
    have k_xRW : xRW W := by
      rw [hW]
      exact (uxRW rfl (uxRW rfl (uxRW (sinc_ok rfl _) hI.2.2.2.2.2.2.2.2.2.2.2.2.2.1)))
    have k_xWT : xWT W := by
      rw [hW]
      exact (uxWT rfl (uxWT rfl (uxWT (sinc_ok rfl _) hI.2.2.2.2.2.2.2.2.2.2.2.2.2.2.1)))
    have k_xCU : xCU W := by
      rw [hW]
      exact (uxCU rfl (uxCU rfl (uxCU (sinc_ok rfl _) hI.2.2.2.2.2.2.2.2.2.2.2.2.2.2.2.1)))
    have k_xG2 : xG2 W := by
      rw [hW]
      exact (uxG2 rfl (uxG2 rfl (uxG2 (sinc_ok rfl _) hI.2.2.2.2.2.2.2.2.2.2.2.2.2.2.2.2.1)))
    have k_xG3 : xG3 W := by
      rw [hW]
      exact (uxG3 rfl (uxG3 rfl (uxG3 (sinc_ok rfl _) hI.2.2.2.2.2.2.2.2.2.2.2.2.2.2.2.2.2.1)))
    have k_xG4 : xG4 W := by
      rw [hW]
      exact (uxG4 rfl (uxG4 rfl (uxG4 (sinc_ok rfl _) hI.2.2.2.2.2.2.2.2.2.2.2.2.2.2.2.2.2.2.1)))
    have k_xG5 : xG5 W := by
      rw [hW]
      exact (uxG5 rfl (uxG5 rfl (uxG5 (sinc_ok rfl _) hI.2.2.2.2.2.2.2.2.2.2.2.2.2.2.2.2.2.2.2.1)))
    have k_xG6 : xG6 W := by
      rw [hW]
      exact (uxG6 rfl (uxG6 rfl (uxG6 (sinc_ok rfl _) hI.2.2.2.2.2.2.2.2.2.2.2.2.2.2.2.2.2.2.2.2.1)))
    have k_xS1 : xS1 W := by
      have r : W 4 100 = 0 := by
        have e := m6
        rw [hW, sU_ne (fun z => by omega), sU_ne (fun z => by omega), sU_ne (fun z => by omega)]
        omega
      intro h
      rw [r] at h
      exact absurd rfl h
    have k_xS2 : xS2 W := by
      have r : W 4 100 = 0 := by
        have e := m6
        rw [hW, sU_ne (fun z => by omega), sU_ne (fun z => by omega), sU_ne (fun z => by omega)]
        omega
      intro h
      rw [r] at h
      exact absurd rfl h
    have k_xS3 : xS3 W := by
      have r : W 4 100 = 0 := by
        have e := m6
        rw [hW, sU_ne (fun z => by omega), sU_ne (fun z => by omega), sU_ne (fun z => by omega)]
        omega
      intro h
      rw [r] at h
      exact absurd rfl h
    have k_xS4 : xS4 W := by
      rw [hW]
      exact (uxS4 rfl (uxS4 rfl (uxS4 (sinc_ok rfl _) hI.2.2.2.2.2.2.2.2.2.2.2.2.2.2.2.2.2.2.2.2.2.2.2.2.1)))
    have k_xS5 : xS5 W := by
      rw [hW]
      exact (uxS5 rfl (uxS5 rfl (uxS5 (sinc_ok rfl _) hI.2.2.2.2.2.2.2.2.2.2.2.2.2.2.2.2.2.2.2.2.2.2.2.2.2.1)))
    have k_xS6 : xS6 W := by
      rw [hW]
      exact (uxS6 rfl (uxS6 rfl (uxS6 (sinc_ok rfl _) hI.2.2.2.2.2.2.2.2.2.2.2.2.2.2.2.2.2.2.2.2.2.2.2.2.2.2.1)))
    have k_xS7 : xS7 W := by
      have r : W 4 200 = 0 := by
        have e := m7
        rw [hW, sU_ne (fun z => by omega), sU_ne (fun z => by omega), sU_ne (fun z => by omega)]
        omega
      intro h
      rw [r] at h
      omega
    have k_xS8 : xS8 W := by
      have r : W 4 210 = 0 := by
        have e := m8
        rw [hW, sU_ne (fun z => by omega), sU_ne (fun z => by omega), sU_ne (fun z => by omega)]
        omega
      intro h
      rw [r] at h
      omega
    have k_xS9 : xS9 W := by
      have r : W 4 212 = 0 := by
        have e := m9
        rw [hW, sU_ne (fun z => by omega), sU_ne (fun z => by omega), sU_ne (fun z => by omega)]
        omega
      intro h
      rw [r] at h
      omega
    have k_xSA : xSA W := by
      have r : W 4 214 = 0 := by
        have e := m10
        rw [hW, sU_ne (fun z => by omega), sU_ne (fun z => by omega), sU_ne (fun z => by omega)]
        omega
      intro h
      rw [r] at h
      omega
    have k_xSG : xSG W := by
      have r : W 4 235 = 0 := by
        have e := m13
        rw [hW, sU_ne (fun z => by omega), sU_ne (fun z => by omega), sU_ne (fun z => by omega)]
        omega
      intro h
      rw [r] at h
      omega
    have k_xSF : xSF W := by
      have r : W 4 233 = 0 := by
        have e := m12
        rw [hW, sU_ne (fun z => by omega), sU_ne (fun z => by omega), sU_ne (fun z => by omega)]
        omega
      intro h
      rw [r] at h
      omega
    have k_xSB : xSB W := by
      have r : W 4 220 = 0 := by
        have e := m11
        rw [hW, sU_ne (fun z => by omega), sU_ne (fun z => by omega), sU_ne (fun z => by omega)]
        omega
      intro h
      rw [r] at h
      omega
    have k_xSC : xSC W := by
      rw [hW]
      exact (uxSC rfl (uxSC rfl (uxSC (sinc_ok rfl _) hI.2.2.2.2.2.2.2.2.2.2.2.2.2.2.2.2.2.2.2.2.2.2.2.2.2.2.2.2.2.2.2.2.2.2.1)))
    have k_xSD : xSD W := by
      rw [hW]
      exact (uxSD rfl (uxSD rfl (uxSD (sinc_ok rfl _) hI.2.2.2.2.2.2.2.2.2.2.2.2.2.2.2.2.2.2.2.2.2.2.2.2.2.2.2.2.2.2.2.2.2.2.2.1)))
    have k_xSE : xSE W := by
      rw [hW]
      exact (uxSE rfl (uxSE rfl (uxSE (sinc_ok rfl _) hI.2.2.2.2.2.2.2.2.2.2.2.2.2.2.2.2.2.2.2.2.2.2.2.2.2.2.2.2.2.2.2.2.2.2.2.2.1)))
    have k_xSW : xSW W := by
      rw [hW]
      exact (uxSW rfl (uxSW rfl (uxSW (sinc_ok rfl _) hI.2.2.2.2.2.2.2.2.2.2.2.2.2.2.2.2.2.2.2.2.2.2.2.2.2.2.2.2.2.2.2.2.2.2.2.2.2.1)))
    have k_xST : xST W := by
      have r4_261 : W 4 261 = 1 * ρ 0 + (1 * ρ 3 + 0) := by rw [hW, sU_at]
      have c1 : ∀ k, W 1 k = M 1 k := fun k => by rw [hW, sU_ne (fun z => by omega), sU_ne (fun z => by omega), sU_ne (fun z => by omega)]
      have e1 : W 1 = M 1 := funext c1
      have c92 : ∀ k : Nat, k ≠ (1 * ρ 1 + 0).toNat → W 92 k = M 92 k := fun k hk => by rw [hW, sU_ne (fun z => by omega), sU_ne (fun z => by omega), sU_ne (fun z => by omega)]
      have a92 : W 92 (1 * ρ 1 + 0).toNat = 1 * ρ 2 + 0 := by rw [hW, sU_ne (fun z => by omega), sU_ne (fun z => by omega), sU_at]
      intro i hi
      rw [r4_261, h0] at hi
      rw [e1]
      by_cases hx : i = (1 * ρ 1 + 0).toNat
      · rw [hx, a92]
        obtain ⟨p1, p2, p3⟩ := gx_xSP hI
        have := p2 11 (by omega) (by omega)
        rw [show (M 4 263).toNat + 11 = (1 * ρ 1 + 0).toNat by omega] at this
        have this : M 1 (1 * ρ 1 + 0).toNat = tSn (tBy (M 4 267) 11) := this
        rw [this, ← tb]
        congr 1
        omega
      · rw [c92 i hx]
        exact qxST i (by omega)
    have k_xSP : xSP W := by
      have r4_262 : W 4 262 = M 4 262 := by rw [hW, sU_ne (fun z => by omega), sU_ne (fun z => by omega), sU_ne (fun z => by omega)]
      have r4_263 : W 4 263 = M 4 263 := by rw [hW, sU_ne (fun z => by omega), sU_ne (fun z => by omega), sU_ne (fun z => by omega)]
      have r4_264 : W 4 264 = M 4 264 := by rw [hW, sU_ne (fun z => by omega), sU_ne (fun z => by omega), sU_ne (fun z => by omega)]
      have r4_265 : W 4 265 = M 4 265 := by rw [hW, sU_ne (fun z => by omega), sU_ne (fun z => by omega), sU_ne (fun z => by omega)]
      have r4_266 : W 4 266 = M 4 266 := by rw [hW, sU_ne (fun z => by omega), sU_ne (fun z => by omega), sU_ne (fun z => by omega)]
      have r4_267 : W 4 267 = M 4 267 := by rw [hW, sU_ne (fun z => by omega), sU_ne (fun z => by omega), sU_ne (fun z => by omega)]
      have r4_268 : W 4 268 = M 4 268 := by rw [hW, sU_ne (fun z => by omega), sU_ne (fun z => by omega), sU_ne (fun z => by omega)]
      have r4_269 : W 4 269 = M 4 269 := by rw [hW, sU_ne (fun z => by omega), sU_ne (fun z => by omega), sU_ne (fun z => by omega)]
      have c1 : ∀ k, W 1 k = M 1 k := fun k => by rw [hW, sU_ne (fun z => by omega), sU_ne (fun z => by omega), sU_ne (fun z => by omega)]
      have e1 : W 1 = M 1 := funext c1
      have c92 : ∀ k : Nat, k ≠ (1 * ρ 1 + 0).toNat → W 92 k = M 92 k := fun k hk => by rw [hW, sU_ne (fun z => by omega), sU_ne (fun z => by omega), sU_ne (fun z => by omega)]
      have a92 : W 92 (1 * ρ 1 + 0).toNat = 1 * ρ 2 + 0 := by rw [hW, sU_ne (fun z => by omega), sU_ne (fun z => by omega), sU_at]
      unfold xSP
      rw [r4_262, r4_263, r4_264, e1]
      obtain ⟨p1, p2, p3⟩ := gx_xSP hI
      refine ⟨p1, fun q hq hl => ?_, fun q hq hl => by omega⟩
      have e4 : ∀ x, x ≠ 261 → W 4 x = M 4 x := fun x hx => by rw [hW, sU_ne (fun z => by omega), sU_ne (fun z => by omega), sU_ne (fun z => by omega)]
      rw [e4 _ (by omega)]
      exact p2 q hq hl
    have k_xSL : xSL W := by
      rw [hW]
      exact (uxSL rfl (uxSL rfl (uxSL (sinc_ok rfl _) hI.2.2.2.2.2.2.2.2.2.2.2.2.2.2.2.2.2.2.2.2.2.2.2.2.2.2.2.2.2.2.2.2.2.2.2.2.2.2.2.2.1)))
    have k_xSM : xSM W := by
      rw [hW]
      exact (uxSM rfl (uxSM rfl (uxSM (sinc_ok rfl _) hI.2.2.2.2.2.2.2.2.2.2.2.2.2.2.2.2.2.2.2.2.2.2.2.2.2.2.2.2.2.2.2.2.2.2.2.2.2.2.2.2.2.1)))
    have k_xSI : xSI W := by
      rw [hW]
      exact (uxSI rfl (uxSI rfl (uxSI (sinc_ok rfl _) hI.2.2.2.2.2.2.2.2.2.2.2.2.2.2.2.2.2.2.2.2.2.2.2.2.2.2.2.2.2.2.2.2.2.2.2.2.2.2.2.2.2.2)))
    have k_XC : XC W := ⟨k_xS1, k_xS2, k_xS3, k_xS4, k_xS5, k_xS6, k_xS7, k_xS8, k_xS9, k_xSA, k_xSG, k_xSF, k_xSB, k_xSC, k_xSD, k_xSE, k_xSW, k_xST, k_xSP, k_xSL, k_xSM, k_xSI⟩
    have kXB : XB W := ⟨k_xN1, k_xN2, k_xN3, k_xN4, k_xN5, k_xN6, k_xH1, k_xK1, k_xC1, k_xRW, k_xWT, k_xCU, k_xG2, k_xG3, k_xG4, k_xG5, k_xG6, k_XC⟩
    exact ⟨base, k2, k3, kXA, kXB⟩
-- fdC12
def xr_630 : qRu := (11, [[(-12, 0), (1, 1), (-1, 4)], [(12, 0), (-1, 1), (1, 4)], [(1, 1), (-1, 3)], [(1, 4)], [(699, 0), (-1, 1)], [(1, 1)], [(-24, 0), (1, 6)], [(24, 0), (-1, 6)], [(1, 5), (-1, 8)], [(-1, 5), (1, 8)], [(-1, 2), (1, 9)], [(1, 2), (-1, 9)], [(-1, 7), (1, 10)], [(1, 7), (-1, 10)], [(128, 0), (1, 2)], [(127, 0), (-1, 2)]], [(4, 100, []), (4, 261, [(1, 3)]), (4, 262, [(12, 0)]), (4, 263, [(1, 4)]), (4, 268, [(1, 8)]), (91, 259, [(1, 0)]), (91, 248, [(1, 10)]), (91, 258, [(1, 9)]), (91, 249, [(1, 0)]), (91, 250, [(1, 5)]), (91, 251, [(1, 6)]), (91, 252, [(1, 7)])], [(1, [(1, 1)], [(1, 2)])], [(4, 262, [(13, 0)])], [])
theorem xo_630 : qRok xr_630 := by
  intro ρ M h0 hf hm hI
  have f0 := hf [(-12, 0), (1, 1), (-1, 4)] (by decide)
  have f1 := hf [(12, 0), (-1, 1), (1, 4)] (by decide)
  have f2 := hf [(1, 1), (-1, 3)] (by decide)
  have f3 := hf [(1, 4)] (by decide)
  have f4 := hf [(699, 0), (-1, 1)] (by decide)
  have f5 := hf [(1, 1)] (by decide)
  have f6 := hf [(-24, 0), (1, 6)] (by decide)
  have f7 := hf [(24, 0), (-1, 6)] (by decide)
  have f8 := hf [(1, 5), (-1, 8)] (by decide)
  have f9 := hf [(-1, 5), (1, 8)] (by decide)
  have f10 := hf [(-1, 2), (1, 9)] (by decide)
  have f11 := hf [(1, 2), (-1, 9)] (by decide)
  have f12 := hf [(-1, 7), (1, 10)] (by decide)
  have f13 := hf [(1, 7), (-1, 10)] (by decide)
  have f14 := hf [(128, 0), (1, 2)] (by decide)
  have f15 := hf [(127, 0), (-1, 2)] (by decide)
  simp only [qD, h0] at f0 f1 f2 f3 f4 f5 f6 f7 f8 f9 f10 f11 f12 f13 f14 f15
  have m0 : M 4 100 = 0 := hm (4, 100, []) (by decide)
  have m1 : M 4 261 = 1 * ρ 3 + 0 := hm (4, 261, [(1, 3)]) (by decide)
  have m2 : M 4 262 = 12 * ρ 0 + 0 := hm (4, 262, [(12, 0)]) (by decide)
  have m3 : M 4 263 = 1 * ρ 4 + 0 := hm (4, 263, [(1, 4)]) (by decide)
  have m4 : M 4 268 = 1 * ρ 8 + 0 := hm (4, 268, [(1, 8)]) (by decide)
  have m5 : M 91 259 = 1 * ρ 0 + 0 := hm (91, 259, [(1, 0)]) (by decide)
  have m6 : M 91 248 = 1 * ρ 10 + 0 := hm (91, 248, [(1, 10)]) (by decide)
  have m7 : M 91 258 = 1 * ρ 9 + 0 := hm (91, 258, [(1, 9)]) (by decide)
  have m8 : M 91 249 = 1 * ρ 0 + 0 := hm (91, 249, [(1, 0)]) (by decide)
  have m9 : M 91 250 = 1 * ρ 5 + 0 := hm (91, 250, [(1, 5)]) (by decide)
  have m10 : M 91 251 = 1 * ρ 6 + 0 := hm (91, 251, [(1, 6)]) (by decide)
  have m11 : M 91 252 = 1 * ρ 7 + 0 := hm (91, 252, [(1, 7)]) (by decide)
  simp only [h0] at m2 m5 m8
  have qxST := hI.2.2.2.2.2.2.2.2.2.2.2.2.2.2.2.2.2.2.2.2.2.2.2.2.2.2.2.2.2.2.2.2.2.2.2.2.2.2.1
  have qxSP := hI.2.2.2.2.2.2.2.2.2.2.2.2.2.2.2.2.2.2.2.2.2.2.2.2.2.2.2.2.2.2.2.2.2.2.2.2.2.2.2.1
  obtain ⟨g1, g2, g3, g4⟩ := gx_xSE hI (by omega)
  have tb : xop 1 (M 91 252) 255 = tBy (M 4 268) 12 := by
    unfold tBy
    rw [g1, show M 91 250 = M 4 268 by omega, show M 91 251 = 24 by omega]
    rfl

  have gi := gx_xSI hI (by omega)
  rw [show M 91 248 = M 91 252 by omega] at gi
  refine ⟨ρ, fun _ _ => rfl, fun f h => ?_, ?_⟩
  · exact nomatch h
  · show sI (sU (sU M 1 (1 * ρ 1 + 0 : Int).toNat (1 * ρ 2 + 0)) 4 262 (13 * ρ 0 + 0))
    obtain ⟨W, hW⟩ : ∃ W, W = (sU (sU M 1 (1 * ρ 1 + 0).toNat (1 * ρ 2 + 0)) 4 262 (13 * ρ 0 + 0)) := ⟨_, rfl⟩
    rw [← hW]
    have base : sI0 W := by
      rw [hW]
      exact (si_u0 (si_u0 hI.1 (fun r hr => by rw [xt_1 hr]; exact ⟨by show (-128 : Int) ≤ _; omega, by show _ ≤ (127 : Int); omega⟩)) (fun r hr => by cases hr))
    have k2 : XI2 W := by
      rw [hW]
      exact (xi2_u rfl (xi2_u (sinc_ok rfl _) hI.2.1))
    have k3 : XI3 W := by
      rw [hW]
      exact (xi3_u rfl (xi3_u (sinc_ok rfl _) hI.2.2.1))
    have kXA : XA W := by
      rw [hW]
      exact (uXA rfl (uXA (sinc_ok rfl _) hI.2.2.2.1))
    have k_xN1 : xN1 W := by
      rw [hW]
      exact (uxN1 rfl (uxN1 (sinc_ok rfl _) hI.2.2.2.2.1))
    have k_xN2 : xN2 W := by
      rw [hW]
      exact (uxN2 rfl (uxN2 (sinc_ok rfl _) hI.2.2.2.2.2.1))
    have k_xN3 : xN3 W := by
      rw [hW]
      exact (uxN3 rfl (uxN3 (sinc_ok rfl _) hI.2.2.2.2.2.2.1))
    have k_xN4 : xN4 W := by
      rw [hW]
      exact (uxN4 rfl (uxN4 (sinc_ok rfl _) hI.2.2.2.2.2.2.2.1))
    have k_xN5 : xN5 W := by
      rw [hW]
      exact (uxN5 rfl (uxN5 (sinc_ok rfl _) hI.2.2.2.2.2.2.2.2.1))
    have k_xN6 : xN6 W := by
      rw [hW]
      exact (uxN6 rfl (uxN6 (sinc_ok rfl _) hI.2.2.2.2.2.2.2.2.2.1))
    have k_xH1 : xH1 W := by
      rw [hW]
      exact (uxH1 rfl (uxH1 (sinc_ok rfl _) hI.2.2.2.2.2.2.2.2.2.2.1))
    have k_xK1 : xK1 W := by
      rw [hW]
      exact (uxK1 rfl (uxK1 (sinc_ok rfl _) hI.2.2.2.2.2.2.2.2.2.2.2.1))
    have k_xC1 : xC1 W := by
      rw [hW]
      exact (uxC1 rfl (uxC1 (sinc_ok rfl _) hI.2.2.2.2.2.2.2.2.2.2.2.2.1))
    have k_xRW : xRW W := by
      rw [hW]
      exact (uxRW rfl (uxRW (sinc_ok rfl _) hI.2.2.2.2.2.2.2.2.2.2.2.2.2.1))
    have k_xWT : xWT W := by
      rw [hW]
      exact (uxWT rfl (uxWT (sinc_ok rfl _) hI.2.2.2.2.2.2.2.2.2.2.2.2.2.2.1))
    have k_xCU : xCU W := by
      rw [hW]
      exact (uxCU rfl (uxCU (sinc_ok rfl _) hI.2.2.2.2.2.2.2.2.2.2.2.2.2.2.2.1))
    have k_xG2 : xG2 W := by
      rw [hW]
      exact (uxG2 rfl (uxG2 (sinc_ok rfl _) hI.2.2.2.2.2.2.2.2.2.2.2.2.2.2.2.2.1))
    have k_xG3 : xG3 W := by
      rw [hW]
      exact (uxG3 rfl (uxG3 (sinc_ok rfl _) hI.2.2.2.2.2.2.2.2.2.2.2.2.2.2.2.2.2.1))
    have k_xG4 : xG4 W := by
      rw [hW]
      exact (uxG4 rfl (uxG4 (sinc_ok rfl _) hI.2.2.2.2.2.2.2.2.2.2.2.2.2.2.2.2.2.2.1))
    have k_xG5 : xG5 W := by
      rw [hW]
      exact (uxG5 rfl (uxG5 (sinc_ok rfl _) hI.2.2.2.2.2.2.2.2.2.2.2.2.2.2.2.2.2.2.2.1))
    have k_xG6 : xG6 W := by
      rw [hW]
      exact (uxG6 rfl (uxG6 (sinc_ok rfl _) hI.2.2.2.2.2.2.2.2.2.2.2.2.2.2.2.2.2.2.2.2.1))
    have k_xS1 : xS1 W := by
      have r : W 4 100 = 0 := by
        have e := m0
        rw [hW, sU_ne (fun z => by omega), sU_ne (fun z => by omega)]
        omega
      intro h
      rw [r] at h
      exact absurd rfl h
    have k_xS2 : xS2 W := by
      rw [hW]
      exact (uxS2 rfl (uxS2 (sinc_ok rfl _) hI.2.2.2.2.2.2.2.2.2.2.2.2.2.2.2.2.2.2.2.2.2.2.1))
    have k_xS3 : xS3 W := by
      rw [hW]
      exact (uxS3 rfl (uxS3 (sinc_ok rfl _) hI.2.2.2.2.2.2.2.2.2.2.2.2.2.2.2.2.2.2.2.2.2.2.2.1))
    have k_xS4 : xS4 W := by
      rw [hW]
      exact (uxS4 rfl (uxS4 (sinc_ok rfl _) hI.2.2.2.2.2.2.2.2.2.2.2.2.2.2.2.2.2.2.2.2.2.2.2.2.1))
    have k_xS5 : xS5 W := by
      rw [hW]
      exact (uxS5 rfl (uxS5 (sinc_ok rfl _) hI.2.2.2.2.2.2.2.2.2.2.2.2.2.2.2.2.2.2.2.2.2.2.2.2.2.1))
    have k_xS6 : xS6 W := by
      rw [hW]
      exact (uxS6 rfl (uxS6 (sinc_ok rfl _) hI.2.2.2.2.2.2.2.2.2.2.2.2.2.2.2.2.2.2.2.2.2.2.2.2.2.2.1))
    have k_xS7 : xS7 W := by
      rw [hW]
      exact (uxS7 rfl (uxS7 (sinc_ok rfl _) hI.2.2.2.2.2.2.2.2.2.2.2.2.2.2.2.2.2.2.2.2.2.2.2.2.2.2.2.1))
    have k_xS8 : xS8 W := by
      rw [hW]
      exact (uxS8 rfl (uxS8 (sinc_ok rfl _) hI.2.2.2.2.2.2.2.2.2.2.2.2.2.2.2.2.2.2.2.2.2.2.2.2.2.2.2.2.1))
    have k_xS9 : xS9 W := by
      rw [hW]
      exact (uxS9 rfl (uxS9 (sinc_ok rfl _) hI.2.2.2.2.2.2.2.2.2.2.2.2.2.2.2.2.2.2.2.2.2.2.2.2.2.2.2.2.2.1))
    have k_xSA : xSA W := by
      rw [hW]
      exact (uxSA rfl (uxSA (sinc_ok rfl _) hI.2.2.2.2.2.2.2.2.2.2.2.2.2.2.2.2.2.2.2.2.2.2.2.2.2.2.2.2.2.2.1))
    have k_xSG : xSG W := by
      rw [hW]
      exact (uxSG rfl (uxSG (sinc_ok rfl _) hI.2.2.2.2.2.2.2.2.2.2.2.2.2.2.2.2.2.2.2.2.2.2.2.2.2.2.2.2.2.2.2.1))
    have k_xSF : xSF W := by
      rw [hW]
      exact (uxSF rfl (uxSF (sinc_ok rfl _) hI.2.2.2.2.2.2.2.2.2.2.2.2.2.2.2.2.2.2.2.2.2.2.2.2.2.2.2.2.2.2.2.2.1))
    have k_xSB : xSB W := by
      rw [hW]
      exact (uxSB rfl (uxSB (sinc_ok rfl _) hI.2.2.2.2.2.2.2.2.2.2.2.2.2.2.2.2.2.2.2.2.2.2.2.2.2.2.2.2.2.2.2.2.2.1))
    have k_xSC : xSC W := by
      rw [hW]
      exact (uxSC rfl (uxSC (sinc_ok rfl _) hI.2.2.2.2.2.2.2.2.2.2.2.2.2.2.2.2.2.2.2.2.2.2.2.2.2.2.2.2.2.2.2.2.2.2.1))
    have k_xSD : xSD W := by
      rw [hW]
      exact (uxSD rfl (uxSD (sinc_ok rfl _) hI.2.2.2.2.2.2.2.2.2.2.2.2.2.2.2.2.2.2.2.2.2.2.2.2.2.2.2.2.2.2.2.2.2.2.2.1))
    have k_xSE : xSE W := by
      rw [hW]
      exact (uxSE rfl (uxSE (sinc_ok rfl _) hI.2.2.2.2.2.2.2.2.2.2.2.2.2.2.2.2.2.2.2.2.2.2.2.2.2.2.2.2.2.2.2.2.2.2.2.2.1))
    have k_xSW : xSW W := by
      rw [hW]
      exact (uxSW rfl (uxSW (sinc_ok rfl _) hI.2.2.2.2.2.2.2.2.2.2.2.2.2.2.2.2.2.2.2.2.2.2.2.2.2.2.2.2.2.2.2.2.2.2.2.2.2.1))
    have k_xST : xST W := by
      have r4_261 : W 4 261 = M 4 261 := by rw [hW, sU_ne (fun z => by omega), sU_ne (fun z => by omega)]
      have c1 : ∀ k : Nat, k ≠ (1 * ρ 1 + 0).toNat → W 1 k = M 1 k := fun k hk => by rw [hW, sU_ne (fun z => by omega), sU_ne (fun z => by omega)]
      have a1 : W 1 (1 * ρ 1 + 0).toNat = 1 * ρ 2 + 0 := by rw [hW, sU_ne (fun z => by omega), sU_at]
      have c92 : ∀ k, W 92 k = M 92 k := fun k => by rw [hW, sU_ne (fun z => by omega), sU_ne (fun z => by omega)]
      have e92 : W 92 = M 92 := funext c92
      intro i hi
      rw [r4_261] at hi
      rw [c1 i (by omega), e92]
      exact qxST i hi
    have k_xSP : xSP W := by
      have r4_262 : W 4 262 = 13 * ρ 0 + 0 := by rw [hW, sU_at]
      have r4_263 : W 4 263 = M 4 263 := by rw [hW, sU_ne (fun z => by omega), sU_ne (fun z => by omega)]
      have r4_264 : W 4 264 = M 4 264 := by rw [hW, sU_ne (fun z => by omega), sU_ne (fun z => by omega)]
      have r4_265 : W 4 265 = M 4 265 := by rw [hW, sU_ne (fun z => by omega), sU_ne (fun z => by omega)]
      have r4_266 : W 4 266 = M 4 266 := by rw [hW, sU_ne (fun z => by omega), sU_ne (fun z => by omega)]
      have r4_267 : W 4 267 = M 4 267 := by rw [hW, sU_ne (fun z => by omega), sU_ne (fun z => by omega)]
      have r4_268 : W 4 268 = M 4 268 := by rw [hW, sU_ne (fun z => by omega), sU_ne (fun z => by omega)]
      have r4_269 : W 4 269 = M 4 269 := by rw [hW, sU_ne (fun z => by omega), sU_ne (fun z => by omega)]
      have c1 : ∀ k : Nat, k ≠ (1 * ρ 1 + 0).toNat → W 1 k = M 1 k := fun k hk => by rw [hW, sU_ne (fun z => by omega), sU_ne (fun z => by omega)]
      have a1 : W 1 (1 * ρ 1 + 0).toNat = 1 * ρ 2 + 0 := by rw [hW, sU_ne (fun z => by omega), sU_at]
      have c92 : ∀ k, W 92 k = M 92 k := fun k => by rw [hW, sU_ne (fun z => by omega), sU_ne (fun z => by omega)]
      have e92 : W 92 = M 92 := funext c92
      unfold xSP
      rw [r4_262, r4_263, r4_264, e92]
      obtain ⟨p1, p2, p3⟩ := qxSP
      have e4 : ∀ x, x ≠ 262 → W 4 x = M 4 x := fun x hx => by rw [hW, sU_ne (fun z => by omega), sU_ne (fun z => by omega)]
      refine ⟨p1, fun q hq hl => ?_, fun q hq hl => by rw [e4 _ (by omega)]; exact p3 q hq hl⟩
      rw [h0] at hl
      rw [e4 _ (by omega)]
      by_cases hj : q = 12
      · subst hj
        show W 1 ((M 4 263).toNat + 12) = tSn (tBy (M 4 268) 12)
        rw [show (M 4 263).toNat + 12 = (1 * ρ 1 + 0).toNat by omega, a1, ← tb]
        have := xi2b (M 91 252)
        omega
      · rw [c1 _ (by omega)]
        exact p2 q hq (by omega)
    have k_xSL : xSL W := by
      rw [hW]
      exact (uxSL rfl (uxSL (sinc_ok rfl _) hI.2.2.2.2.2.2.2.2.2.2.2.2.2.2.2.2.2.2.2.2.2.2.2.2.2.2.2.2.2.2.2.2.2.2.2.2.2.2.2.2.1))
    have k_xSM : xSM W := by
      rw [hW]
      exact (uxSM rfl (uxSM (sinc_ok rfl _) hI.2.2.2.2.2.2.2.2.2.2.2.2.2.2.2.2.2.2.2.2.2.2.2.2.2.2.2.2.2.2.2.2.2.2.2.2.2.2.2.2.2.1))
    have k_xSI : xSI W := by
      rw [hW]
      exact (uxSI rfl (uxSI (sinc_ok rfl _) hI.2.2.2.2.2.2.2.2.2.2.2.2.2.2.2.2.2.2.2.2.2.2.2.2.2.2.2.2.2.2.2.2.2.2.2.2.2.2.2.2.2.2))
    have k_XC : XC W := ⟨k_xS1, k_xS2, k_xS3, k_xS4, k_xS5, k_xS6, k_xS7, k_xS8, k_xS9, k_xSA, k_xSG, k_xSF, k_xSB, k_xSC, k_xSD, k_xSE, k_xSW, k_xST, k_xSP, k_xSL, k_xSM, k_xSI⟩
    have kXB : XB W := ⟨k_xN1, k_xN2, k_xN3, k_xN4, k_xN5, k_xN6, k_xH1, k_xK1, k_xC1, k_xRW, k_xWT, k_xCU, k_xG2, k_xG3, k_xG4, k_xG5, k_xG6, k_XC⟩
    exact ⟨base, k2, k3, kXA, kXB⟩
-- fdW12
def xr_631 : qRu := (11, [[(-12, 0), (1, 1), (-1, 4)], [(12, 0), (-1, 1), (1, 4)], [(1, 1), (-1, 3)], [(-1, 1), (1, 3)], [(1, 4)], [(699, 0), (-1, 1)], [(1, 1)], [(-24, 0), (1, 6)], [(24, 0), (-1, 6)], [(1, 5), (-1, 8)], [(-1, 5), (1, 8)], [(-1, 2), (1, 9)], [(1, 2), (-1, 9)], [(1, 2)], [(255, 0), (-1, 2)]], [(4, 261, [(1, 3)]), (4, 262, [(20, 0)]), (4, 263, [(1, 4)]), (4, 264, []), (4, 268, [(1, 8)]), (91, 257, [(1, 9)]), (4, 100, []), (4, 200, []), (4, 210, []), (4, 212, []), (4, 214, []), (4, 220, []), (4, 233, []), (4, 235, []), (91, 249, [(1, 0)]), (91, 250, [(1, 5)]), (91, 251, [(1, 6)]), (91, 252, [(1, 7)])], [(92, [(1, 1)], [(1, 2)])], [(91, 990, [(1, 11)]), (4, 261, [(1, 0), (1, 3)])], [])
theorem xo_631 : qRok xr_631 := by
  intro ρ M h0 hf hm hI
  have f0 := hf [(-12, 0), (1, 1), (-1, 4)] (by decide)
  have f1 := hf [(12, 0), (-1, 1), (1, 4)] (by decide)
  have f2 := hf [(1, 1), (-1, 3)] (by decide)
  have f3 := hf [(-1, 1), (1, 3)] (by decide)
  have f4 := hf [(1, 4)] (by decide)
  have f5 := hf [(699, 0), (-1, 1)] (by decide)
  have f6 := hf [(1, 1)] (by decide)
  have f7 := hf [(-24, 0), (1, 6)] (by decide)
  have f8 := hf [(24, 0), (-1, 6)] (by decide)
  have f9 := hf [(1, 5), (-1, 8)] (by decide)
  have f10 := hf [(-1, 5), (1, 8)] (by decide)
  have f11 := hf [(-1, 2), (1, 9)] (by decide)
  have f12 := hf [(1, 2), (-1, 9)] (by decide)
  have f13 := hf [(1, 2)] (by decide)
  have f14 := hf [(255, 0), (-1, 2)] (by decide)
  simp only [qD, h0] at f0 f1 f2 f3 f4 f5 f6 f7 f8 f9 f10 f11 f12 f13 f14
  have m0 : M 4 261 = 1 * ρ 3 + 0 := hm (4, 261, [(1, 3)]) (by decide)
  have m1 : M 4 262 = 20 * ρ 0 + 0 := hm (4, 262, [(20, 0)]) (by decide)
  have m2 : M 4 263 = 1 * ρ 4 + 0 := hm (4, 263, [(1, 4)]) (by decide)
  have m3 : M 4 264 = 0 := hm (4, 264, []) (by decide)
  have m4 : M 4 268 = 1 * ρ 8 + 0 := hm (4, 268, [(1, 8)]) (by decide)
  have m5 : M 91 257 = 1 * ρ 9 + 0 := hm (91, 257, [(1, 9)]) (by decide)
  have m6 : M 4 100 = 0 := hm (4, 100, []) (by decide)
  have m7 : M 4 200 = 0 := hm (4, 200, []) (by decide)
  have m8 : M 4 210 = 0 := hm (4, 210, []) (by decide)
  have m9 : M 4 212 = 0 := hm (4, 212, []) (by decide)
  have m10 : M 4 214 = 0 := hm (4, 214, []) (by decide)
  have m11 : M 4 220 = 0 := hm (4, 220, []) (by decide)
  have m12 : M 4 233 = 0 := hm (4, 233, []) (by decide)
  have m13 : M 4 235 = 0 := hm (4, 235, []) (by decide)
  have m14 : M 91 249 = 1 * ρ 0 + 0 := hm (91, 249, [(1, 0)]) (by decide)
  have m15 : M 91 250 = 1 * ρ 5 + 0 := hm (91, 250, [(1, 5)]) (by decide)
  have m16 : M 91 251 = 1 * ρ 6 + 0 := hm (91, 251, [(1, 6)]) (by decide)
  have m17 : M 91 252 = 1 * ρ 7 + 0 := hm (91, 252, [(1, 7)]) (by decide)
  simp only [h0] at m1 m14
  have qxST := hI.2.2.2.2.2.2.2.2.2.2.2.2.2.2.2.2.2.2.2.2.2.2.2.2.2.2.2.2.2.2.2.2.2.2.2.2.2.2.1
  have qxSP := hI.2.2.2.2.2.2.2.2.2.2.2.2.2.2.2.2.2.2.2.2.2.2.2.2.2.2.2.2.2.2.2.2.2.2.2.2.2.2.2.1
  obtain ⟨g1, g2, g3, g4⟩ := gx_xSE hI (by omega)
  have tb : xop 1 (M 91 252) 255 = tBy (M 4 268) 12 := by
    unfold tBy
    rw [g1, show M 91 250 = M 4 268 by omega, show M 91 251 = 24 by omega]
    rfl

  have g257 := g4
  refine ⟨fun a => cond (Nat.blt a 11) (ρ a) (([xH (sU M 92 (1 * ρ 1 + 0).toNat (1 * ρ 2 + 0))] : List Int).getD (a - 11) 0), fun a ha => ?_, fun f h => ?_, ?_⟩
  · show cond (Nat.blt a 11) (ρ a) _ = ρ a
    rw [show Nat.blt a 11 = true from Nat.ble_eq_true_of_le ha]; rfl
  · exact nomatch h
  · show sI (sU (sU (sU M 92 (1 * ρ 1 + 0 : Int).toNat (1 * ρ 2 + 0)) 91 990 (1 * (xH (sU M 92 (1 * ρ 1 + 0).toNat (1 * ρ 2 + 0))) + 0)) 4 261 (1 * ρ 0 + (1 * ρ 3 + 0)))
    obtain ⟨W, hW⟩ : ∃ W, W = (sU (sU (sU M 92 (1 * ρ 1 + 0).toNat (1 * ρ 2 + 0)) 91 990 (1 * (xH (sU M 92 (1 * ρ 1 + 0).toNat (1 * ρ 2 + 0))) + 0)) 4 261 (1 * ρ 0 + (1 * ρ 3 + 0))) := ⟨_, rfl⟩
    rw [← hW]
    have base : sI0 W := by
      rw [hW]
      exact (si_u0 (si_u0 (si_u0 hI.1 (fun r hr => by rw [xt_92 hr]; exact ⟨by show (0 : Int) ≤ _; omega, by show _ ≤ (255 : Int); omega⟩)) (fun r hr => by cases hr)) (fun r hr => by cases hr))
    have k2 : XI2 W := by
      refine xi2_congr (fun o k hz ho => ?_) hI.2.1
      have h4 : ¬ (o = 4 ∧ k = 261) := fun z => by rw [z.1, z.2] at hz; exact absurd hz (by decide +kernel)
      rw [hW, sU_ne h4, sU_ne (fun z => by omega), sU_ne (fun z => by omega)]
    have k3 : XI3 W := by
      unfold XI3
      rw [hW]
      rw [sU_ne (fun z => by omega), sU_at]
      have e : ∀ o' k' x y, ¬ (o' = 91 ∧ k' = 990) → ¬ (o' = 4 ∧ k' = 261) → sU (sU (sU M 92 (1 * ρ 1 + 0).toNat (1 * ρ 2 + 0)) 91 990 x) 4 261 y o' k' = sU M 92 (1 * ρ 1 + 0).toNat (1 * ρ 2 + 0) o' k' := fun o' k' x y h h' => by rw [sU_ne h', sU_ne h]
      rw [show ∀ z : Int, 1 * z + 0 = z from fun z => by omega]
      unfold xH
      rw [e _ _ _ _ (by omega) (by omega), e _ _ _ _ (by omega) (by omega), e _ _ _ _ (by omega) (by omega)]
    have kXA : XA W := by
      rw [hW]
      exact (uXA rfl (uXA rfl (uXA (sinc_ok rfl _) hI.2.2.2.1)))
    have k_xN1 : xN1 W := by
      rw [hW]
      exact (uxN1 rfl (uxN1 rfl (uxN1 (sinc_ok rfl _) hI.2.2.2.2.1)))
    have k_xN2 : xN2 W := by
      rw [hW]
      exact (uxN2 rfl (uxN2 rfl (uxN2 (sinc_ok rfl _) hI.2.2.2.2.2.1)))
    have k_xN3 : xN3 W := by
      rw [hW]
      exact (uxN3 rfl (uxN3 rfl (uxN3 (sinc_ok rfl _) hI.2.2.2.2.2.2.1)))
    have k_xN4 : xN4 W := by
      rw [hW]
      exact (uxN4 rfl (uxN4 rfl (uxN4 (sinc_ok rfl _) hI.2.2.2.2.2.2.2.1)))
    have k_xN5 : xN5 W := by
      rw [hW]
      exact (uxN5 rfl (uxN5 rfl (uxN5 (sinc_ok rfl _) hI.2.2.2.2.2.2.2.2.1)))
    have k_xN6 : xN6 W := by
      rw [hW]
      exact (uxN6 rfl (uxN6 rfl (uxN6 (sinc_ok rfl _) hI.2.2.2.2.2.2.2.2.2.1)))
    have k_xH1 : xH1 W := by
      rw [hW]
      exact (uxH1 rfl (uxH1 rfl (uxH1 (sinc_ok rfl _) hI.2.2.2.2.2.2.2.2.2.2.1)))
    have k_xK1 : xK1 W := by
      rw [hW]
      exact (uxK1 rfl (uxK1 rfl (uxK1 (sinc_ok rfl _) hI.2.2.2.2.2.2.2.2.2.2.2.1)))
    have k_xC1 : xC1 W := by
      rw [hW]
      exact (uxC1 rfl (uxC1 rfl (uxC1 (sinc_ok rfl _) hI.2.2.2.2.2.2.2.2.2.2.2.2.1)))
    have k_xRW : xRW W := by
      rw [hW]
      exact (uxRW rfl (uxRW rfl (uxRW (sinc_ok rfl _) hI.2.2.2.2.2.2.2.2.2.2.2.2.2.1)))
    have k_xWT : xWT W := by
      rw [hW]
      exact (uxWT rfl (uxWT rfl (uxWT (sinc_ok rfl _) hI.2.2.2.2.2.2.2.2.2.2.2.2.2.2.1)))
    have k_xCU : xCU W := by
      rw [hW]
      exact (uxCU rfl (uxCU rfl (uxCU (sinc_ok rfl _) hI.2.2.2.2.2.2.2.2.2.2.2.2.2.2.2.1)))
    have k_xG2 : xG2 W := by
      rw [hW]
      exact (uxG2 rfl (uxG2 rfl (uxG2 (sinc_ok rfl _) hI.2.2.2.2.2.2.2.2.2.2.2.2.2.2.2.2.1)))
    have k_xG3 : xG3 W := by
      rw [hW]
      exact (uxG3 rfl (uxG3 rfl (uxG3 (sinc_ok rfl _) hI.2.2.2.2.2.2.2.2.2.2.2.2.2.2.2.2.2.1)))
    have k_xG4 : xG4 W := by
      rw [hW]
      exact (uxG4 rfl (uxG4 rfl (uxG4 (sinc_ok rfl _) hI.2.2.2.2.2.2.2.2.2.2.2.2.2.2.2.2.2.2.1)))
    have k_xG5 : xG5 W := by
      rw [hW]
      exact (uxG5 rfl (uxG5 rfl (uxG5 (sinc_ok rfl _) hI.2.2.2.2.2.2.2.2.2.2.2.2.2.2.2.2.2.2.2.1)))
    have k_xG6 : xG6 W := by
      rw [hW]
      exact (uxG6 rfl (uxG6 rfl (uxG6 (sinc_ok rfl _) hI.2.2.2.2.2.2.2.2.2.2.2.2.2.2.2.2.2.2.2.2.1)))
    have k_xS1 : xS1 W := by
      have r : W 4 100 = 0 := by
        have e := m6
        rw [hW, sU_ne (fun z => by omega), sU_ne (fun z => by omega), sU_ne (fun z => by omega)]
        omega
      intro h
      rw [r] at h
      exact absurd rfl h
    have k_xS2 : xS2 W := by
      have r : W 4 100 = 0 := by
        have e := m6
        rw [hW, sU_ne (fun z => by omega), sU_ne (fun z => by omega), sU_ne (fun z => by omega)]
        omega
      intro h
      rw [r] at h
      exact absurd rfl h
    have k_xS3 : xS3 W := by
      have r : W 4 100 = 0 := by
        have e := m6
        rw [hW, sU_ne (fun z => by omega), sU_ne (fun z => by omega), sU_ne (fun z => by omega)]
        omega
      intro h
      rw [r] at h
      exact absurd rfl h
    have k_xS4 : xS4 W := by
      rw [hW]
      exact (uxS4 rfl (uxS4 rfl (uxS4 (sinc_ok rfl _) hI.2.2.2.2.2.2.2.2.2.2.2.2.2.2.2.2.2.2.2.2.2.2.2.2.1)))
    have k_xS5 : xS5 W := by
      rw [hW]
      exact (uxS5 rfl (uxS5 rfl (uxS5 (sinc_ok rfl _) hI.2.2.2.2.2.2.2.2.2.2.2.2.2.2.2.2.2.2.2.2.2.2.2.2.2.1)))
    have k_xS6 : xS6 W := by
      rw [hW]
      exact (uxS6 rfl (uxS6 rfl (uxS6 (sinc_ok rfl _) hI.2.2.2.2.2.2.2.2.2.2.2.2.2.2.2.2.2.2.2.2.2.2.2.2.2.2.1)))
    have k_xS7 : xS7 W := by
      have r : W 4 200 = 0 := by
        have e := m7
        rw [hW, sU_ne (fun z => by omega), sU_ne (fun z => by omega), sU_ne (fun z => by omega)]
        omega
      intro h
      rw [r] at h
      omega
    have k_xS8 : xS8 W := by
      have r : W 4 210 = 0 := by
        have e := m8
        rw [hW, sU_ne (fun z => by omega), sU_ne (fun z => by omega), sU_ne (fun z => by omega)]
        omega
      intro h
      rw [r] at h
      omega
    have k_xS9 : xS9 W := by
      have r : W 4 212 = 0 := by
        have e := m9
        rw [hW, sU_ne (fun z => by omega), sU_ne (fun z => by omega), sU_ne (fun z => by omega)]
        omega
      intro h
      rw [r] at h
      omega
    have k_xSA : xSA W := by
      have r : W 4 214 = 0 := by
        have e := m10
        rw [hW, sU_ne (fun z => by omega), sU_ne (fun z => by omega), sU_ne (fun z => by omega)]
        omega
      intro h
      rw [r] at h
      omega
    have k_xSG : xSG W := by
      have r : W 4 235 = 0 := by
        have e := m13
        rw [hW, sU_ne (fun z => by omega), sU_ne (fun z => by omega), sU_ne (fun z => by omega)]
        omega
      intro h
      rw [r] at h
      omega
    have k_xSF : xSF W := by
      have r : W 4 233 = 0 := by
        have e := m12
        rw [hW, sU_ne (fun z => by omega), sU_ne (fun z => by omega), sU_ne (fun z => by omega)]
        omega
      intro h
      rw [r] at h
      omega
    have k_xSB : xSB W := by
      have r : W 4 220 = 0 := by
        have e := m11
        rw [hW, sU_ne (fun z => by omega), sU_ne (fun z => by omega), sU_ne (fun z => by omega)]
        omega
      intro h
      rw [r] at h
      omega
    have k_xSC : xSC W := by
      rw [hW]
      exact (uxSC rfl (uxSC rfl (uxSC (sinc_ok rfl _) hI.2.2.2.2.2.2.2.2.2.2.2.2.2.2.2.2.2.2.2.2.2.2.2.2.2.2.2.2.2.2.2.2.2.2.1)))
    have k_xSD : xSD W := by
      rw [hW]
      exact (uxSD rfl (uxSD rfl (uxSD (sinc_ok rfl _) hI.2.2.2.2.2.2.2.2.2.2.2.2.2.2.2.2.2.2.2.2.2.2.2.2.2.2.2.2.2.2.2.2.2.2.2.1)))
    have k_xSE : xSE W := by
      rw [hW]
      exact (uxSE rfl (uxSE rfl (uxSE (sinc_ok rfl _) hI.2.2.2.2.2.2.2.2.2.2.2.2.2.2.2.2.2.2.2.2.2.2.2.2.2.2.2.2.2.2.2.2.2.2.2.2.1)))
    have k_xSW : xSW W := by
      rw [hW]
      exact (uxSW rfl (uxSW rfl (uxSW (sinc_ok rfl _) hI.2.2.2.2.2.2.2.2.2.2.2.2.2.2.2.2.2.2.2.2.2.2.2.2.2.2.2.2.2.2.2.2.2.2.2.2.2.1)))
    have k_xST : xST W := by
      have r4_261 : W 4 261 = 1 * ρ 0 + (1 * ρ 3 + 0) := by rw [hW, sU_at]
      have c1 : ∀ k, W 1 k = M 1 k := fun k => by rw [hW, sU_ne (fun z => by omega), sU_ne (fun z => by omega), sU_ne (fun z => by omega)]
      have e1 : W 1 = M 1 := funext c1
      have c92 : ∀ k : Nat, k ≠ (1 * ρ 1 + 0).toNat → W 92 k = M 92 k := fun k hk => by rw [hW, sU_ne (fun z => by omega), sU_ne (fun z => by omega), sU_ne (fun z => by omega)]
      have a92 : W 92 (1 * ρ 1 + 0).toNat = 1 * ρ 2 + 0 := by rw [hW, sU_ne (fun z => by omega), sU_ne (fun z => by omega), sU_at]
      intro i hi
      rw [r4_261, h0] at hi
      rw [e1]
      by_cases hx : i = (1 * ρ 1 + 0).toNat
      · rw [hx, a92]
        obtain ⟨p1, p2, p3⟩ := gx_xSP hI
        have := p2 12 (by omega) (by omega)
        rw [show (M 4 263).toNat + 12 = (1 * ρ 1 + 0).toNat by omega] at this
        have this : M 1 (1 * ρ 1 + 0).toNat = tSn (tBy (M 4 268) 12) := this
        rw [this, ← tb]
        congr 1
        omega
      · rw [c92 i hx]
        exact qxST i (by omega)
    have k_xSP : xSP W := by
      have r4_262 : W 4 262 = M 4 262 := by rw [hW, sU_ne (fun z => by omega), sU_ne (fun z => by omega), sU_ne (fun z => by omega)]
      have r4_263 : W 4 263 = M 4 263 := by rw [hW, sU_ne (fun z => by omega), sU_ne (fun z => by omega), sU_ne (fun z => by omega)]
      have r4_264 : W 4 264 = M 4 264 := by rw [hW, sU_ne (fun z => by omega), sU_ne (fun z => by omega), sU_ne (fun z => by omega)]
      have r4_265 : W 4 265 = M 4 265 := by rw [hW, sU_ne (fun z => by omega), sU_ne (fun z => by omega), sU_ne (fun z => by omega)]
      have r4_266 : W 4 266 = M 4 266 := by rw [hW, sU_ne (fun z => by omega), sU_ne (fun z => by omega), sU_ne (fun z => by omega)]
      have r4_267 : W 4 267 = M 4 267 := by rw [hW, sU_ne (fun z => by omega), sU_ne (fun z => by omega), sU_ne (fun z => by omega)]
      have r4_268 : W 4 268 = M 4 268 := by rw [hW, sU_ne (fun z => by omega), sU_ne (fun z => by omega), sU_ne (fun z => by omega)]
      have r4_269 : W 4 269 = M 4 269 := by rw [hW, sU_ne (fun z => by omega), sU_ne (fun z => by omega), sU_ne (fun z => by omega)]
      have c1 : ∀ k, W 1 k = M 1 k := fun k => by rw [hW, sU_ne (fun z => by omega), sU_ne (fun z => by omega), sU_ne (fun z => by omega)]
      have e1 : W 1 = M 1 := funext c1
      have c92 : ∀ k : Nat, k ≠ (1 * ρ 1 + 0).toNat → W 92 k = M 92 k := fun k hk => by rw [hW, sU_ne (fun z => by omega), sU_ne (fun z => by omega), sU_ne (fun z => by omega)]
      have a92 : W 92 (1 * ρ 1 + 0).toNat = 1 * ρ 2 + 0 := by rw [hW, sU_ne (fun z => by omega), sU_ne (fun z => by omega), sU_at]
      unfold xSP
      rw [r4_262, r4_263, r4_264, e1]
      obtain ⟨p1, p2, p3⟩ := gx_xSP hI
      refine ⟨p1, fun q hq hl => ?_, fun q hq hl => by omega⟩
      have e4 : ∀ x, x ≠ 261 → W 4 x = M 4 x := fun x hx => by rw [hW, sU_ne (fun z => by omega), sU_ne (fun z => by omega), sU_ne (fun z => by omega)]
      rw [e4 _ (by omega)]
      exact p2 q hq hl
    have k_xSL : xSL W := by
      rw [hW]
      exact (uxSL rfl (uxSL rfl (uxSL (sinc_ok rfl _) hI.2.2.2.2.2.2.2.2.2.2.2.2.2.2.2.2.2.2.2.2.2.2.2.2.2.2.2.2.2.2.2.2.2.2.2.2.2.2.2.2.1)))
    have k_xSM : xSM W := by
      rw [hW]
      exact (uxSM rfl (uxSM rfl (uxSM (sinc_ok rfl _) hI.2.2.2.2.2.2.2.2.2.2.2.2.2.2.2.2.2.2.2.2.2.2.2.2.2.2.2.2.2.2.2.2.2.2.2.2.2.2.2.2.2.1)))
    have k_xSI : xSI W := by
      rw [hW]
      exact (uxSI rfl (uxSI rfl (uxSI (sinc_ok rfl _) hI.2.2.2.2.2.2.2.2.2.2.2.2.2.2.2.2.2.2.2.2.2.2.2.2.2.2.2.2.2.2.2.2.2.2.2.2.2.2.2.2.2.2)))
    have k_XC : XC W := ⟨k_xS1, k_xS2, k_xS3, k_xS4, k_xS5, k_xS6, k_xS7, k_xS8, k_xS9, k_xSA, k_xSG, k_xSF, k_xSB, k_xSC, k_xSD, k_xSE, k_xSW, k_xST, k_xSP, k_xSL, k_xSM, k_xSI⟩
    have kXB : XB W := ⟨k_xN1, k_xN2, k_xN3, k_xN4, k_xN5, k_xN6, k_xH1, k_xK1, k_xC1, k_xRW, k_xWT, k_xCU, k_xG2, k_xG3, k_xG4, k_xG5, k_xG6, k_XC⟩
    exact ⟨base, k2, k3, kXA, kXB⟩
-- fdC13
def xr_632 : qRu := (11, [[(-13, 0), (1, 1), (-1, 4)], [(13, 0), (-1, 1), (1, 4)], [(1, 1), (-1, 3)], [(1, 4)], [(699, 0), (-1, 1)], [(1, 1)], [(-16, 0), (1, 6)], [(16, 0), (-1, 6)], [(1, 5), (-1, 8)], [(-1, 5), (1, 8)], [(-1, 2), (1, 9)], [(1, 2), (-1, 9)], [(-1, 7), (1, 10)], [(1, 7), (-1, 10)], [(128, 0), (1, 2)], [(127, 0), (-1, 2)]], [(4, 100, []), (4, 261, [(1, 3)]), (4, 262, [(13, 0)]), (4, 263, [(1, 4)]), (4, 268, [(1, 8)]), (91, 259, [(1, 0)]), (91, 248, [(1, 10)]), (91, 258, [(1, 9)]), (91, 249, [(1, 0)]), (91, 250, [(1, 5)]), (91, 251, [(1, 6)]), (91, 252, [(1, 7)])], [(1, [(1, 1)], [(1, 2)])], [(4, 262, [(14, 0)])], [])
theorem xo_632 : qRok xr_632 := by
  intro ρ M h0 hf hm hI
  have f0 := hf [(-13, 0), (1, 1), (-1, 4)] (by decide)
  have f1 := hf [(13, 0), (-1, 1), (1, 4)] (by decide)
  have f2 := hf [(1, 1), (-1, 3)] (by decide)
  have f3 := hf [(1, 4)] (by decide)
  have f4 := hf [(699, 0), (-1, 1)] (by decide)
  have f5 := hf [(1, 1)] (by decide)
  have f6 := hf [(-16, 0), (1, 6)] (by decide)
  have f7 := hf [(16, 0), (-1, 6)] (by decide)
  have f8 := hf [(1, 5), (-1, 8)] (by decide)
  have f9 := hf [(-1, 5), (1, 8)] (by decide)
  have f10 := hf [(-1, 2), (1, 9)] (by decide)
  have f11 := hf [(1, 2), (-1, 9)] (by decide)
  have f12 := hf [(-1, 7), (1, 10)] (by decide)
  have f13 := hf [(1, 7), (-1, 10)] (by decide)
  have f14 := hf [(128, 0), (1, 2)] (by decide)
  have f15 := hf [(127, 0), (-1, 2)] (by decide)
  simp only [qD, h0] at f0 f1 f2 f3 f4 f5 f6 f7 f8 f9 f10 f11 f12 f13 f14 f15
  have m0 : M 4 100 = 0 := hm (4, 100, []) (by decide)
  have m1 : M 4 261 = 1 * ρ 3 + 0 := hm (4, 261, [(1, 3)]) (by decide)
  have m2 : M 4 262 = 13 * ρ 0 + 0 := hm (4, 262, [(13, 0)]) (by decide)
  have m3 : M 4 263 = 1 * ρ 4 + 0 := hm (4, 263, [(1, 4)]) (by decide)
  have m4 : M 4 268 = 1 * ρ 8 + 0 := hm (4, 268, [(1, 8)]) (by decide)
  have m5 : M 91 259 = 1 * ρ 0 + 0 := hm (91, 259, [(1, 0)]) (by decide)
  have m6 : M 91 248 = 1 * ρ 10 + 0 := hm (91, 248, [(1, 10)]) (by decide)
  have m7 : M 91 258 = 1 * ρ 9 + 0 := hm (91, 258, [(1, 9)]) (by decide)
  have m8 : M 91 249 = 1 * ρ 0 + 0 := hm (91, 249, [(1, 0)]) (by decide)
  have m9 : M 91 250 = 1 * ρ 5 + 0 := hm (91, 250, [(1, 5)]) (by decide)
  have m10 : M 91 251 = 1 * ρ 6 + 0 := hm (91, 251, [(1, 6)]) (by decide)
  have m11 : M 91 252 = 1 * ρ 7 + 0 := hm (91, 252, [(1, 7)]) (by decide)
  simp only [h0] at m2 m5 m8
  have qxST := hI.2.2.2.2.2.2.2.2.2.2.2.2.2.2.2.2.2.2.2.2.2.2.2.2.2.2.2.2.2.2.2.2.2.2.2.2.2.2.1
  have qxSP := hI.2.2.2.2.2.2.2.2.2.2.2.2.2.2.2.2.2.2.2.2.2.2.2.2.2.2.2.2.2.2.2.2.2.2.2.2.2.2.2.1
  obtain ⟨g1, g2, g3, g4⟩ := gx_xSE hI (by omega)
  have tb : xop 1 (M 91 252) 255 = tBy (M 4 268) 13 := by
    unfold tBy
    rw [g1, show M 91 250 = M 4 268 by omega, show M 91 251 = 16 by omega]
    rfl

  have gi := gx_xSI hI (by omega)
  rw [show M 91 248 = M 91 252 by omega] at gi
  refine ⟨ρ, fun _ _ => rfl, fun f h => ?_, ?_⟩
  · exact nomatch h
  · show sI (sU (sU M 1 (1 * ρ 1 + 0 : Int).toNat (1 * ρ 2 + 0)) 4 262 (14 * ρ 0 + 0))
    obtain ⟨W, hW⟩ : ∃ W, W = (sU (sU M 1 (1 * ρ 1 + 0).toNat (1 * ρ 2 + 0)) 4 262 (14 * ρ 0 + 0)) := ⟨_, rfl⟩
    rw [← hW]
    have base : sI0 W := by
      rw [hW]
      exact (si_u0 (si_u0 hI.1 (fun r hr => by rw [xt_1 hr]; exact ⟨by show (-128 : Int) ≤ _; omega, by show _ ≤ (127 : Int); omega⟩)) (fun r hr => by cases hr))
    have k2 : XI2 W := by
      rw [hW]
      exact (xi2_u rfl (xi2_u (sinc_ok rfl _) hI.2.1))
    have k3 : XI3 W := by
      rw [hW]
      exact (xi3_u rfl (xi3_u (sinc_ok rfl _) hI.2.2.1))
    have kXA : XA W := by
      rw [hW]
      exact (uXA rfl (uXA (sinc_ok rfl _) hI.2.2.2.1))
    have k_xN1 : xN1 W := by
      rw [hW]
      exact (uxN1 rfl (uxN1 (sinc_ok rfl _) hI.2.2.2.2.1))
    have k_xN2 : xN2 W := by
      rw [hW]
      exact (uxN2 rfl (uxN2 (sinc_ok rfl _) hI.2.2.2.2.2.1))
    have k_xN3 : xN3 W := by
      rw [hW]
      exact (uxN3 rfl (uxN3 (sinc_ok rfl _) hI.2.2.2.2.2.2.1))
    have k_xN4 : xN4 W := by
      rw [hW]
      exact (uxN4 rfl (uxN4 (sinc_ok rfl _) hI.2.2.2.2.2.2.2.1))
    have k_xN5 : xN5 W := by
      rw [hW]
      exact (uxN5 rfl (uxN5 (sinc_ok rfl _) hI.2.2.2.2.2.2.2.2.1))
    have k_xN6 : xN6 W := by
      rw [hW]
      exact (uxN6 rfl (uxN6 (sinc_ok rfl _) hI.2.2.2.2.2.2.2.2.2.1))
    have k_xH1 : xH1 W := by
      rw [hW]
      exact (uxH1 rfl (uxH1 (sinc_ok rfl _) hI.2.2.2.2.2.2.2.2.2.2.1))
    have k_xK1 : xK1 W := by
      rw [hW]
      exact (uxK1 rfl (uxK1 (sinc_ok rfl _) hI.2.2.2.2.2.2.2.2.2.2.2.1))
    have k_xC1 : xC1 W := by
      rw [hW]
      exact (uxC1 rfl (uxC1 (sinc_ok rfl _) hI.2.2.2.2.2.2.2.2.2.2.2.2.1))
    have k_xRW : xRW W := by
      rw [hW]
      exact (uxRW rfl (uxRW (sinc_ok rfl _) hI.2.2.2.2.2.2.2.2.2.2.2.2.2.1))
    have k_xWT : xWT W := by
      rw [hW]
      exact (uxWT rfl (uxWT (sinc_ok rfl _) hI.2.2.2.2.2.2.2.2.2.2.2.2.2.2.1))
    have k_xCU : xCU W := by
      rw [hW]
      exact (uxCU rfl (uxCU (sinc_ok rfl _) hI.2.2.2.2.2.2.2.2.2.2.2.2.2.2.2.1))
    have k_xG2 : xG2 W := by
      rw [hW]
      exact (uxG2 rfl (uxG2 (sinc_ok rfl _) hI.2.2.2.2.2.2.2.2.2.2.2.2.2.2.2.2.1))
    have k_xG3 : xG3 W := by
      rw [hW]
      exact (uxG3 rfl (uxG3 (sinc_ok rfl _) hI.2.2.2.2.2.2.2.2.2.2.2.2.2.2.2.2.2.1))
    have k_xG4 : xG4 W := by
      rw [hW]
      exact (uxG4 rfl (uxG4 (sinc_ok rfl _) hI.2.2.2.2.2.2.2.2.2.2.2.2.2.2.2.2.2.2.1))
    have k_xG5 : xG5 W := by
      rw [hW]
      exact (uxG5 rfl (uxG5 (sinc_ok rfl _) hI.2.2.2.2.2.2.2.2.2.2.2.2.2.2.2.2.2.2.2.1))
    have k_xG6 : xG6 W := by
      rw [hW]
      exact (uxG6 rfl (uxG6 (sinc_ok rfl _) hI.2.2.2.2.2.2.2.2.2.2.2.2.2.2.2.2.2.2.2.2.1))
    have k_xS1 : xS1 W := by
      have r : W 4 100 = 0 := by
        have e := m0
        rw [hW, sU_ne (fun z => by omega), sU_ne (fun z => by omega)]
        omega
      intro h
      rw [r] at h
      exact absurd rfl h
    have k_xS2 : xS2 W := by
      rw [hW]
      exact (uxS2 rfl (uxS2 (sinc_ok rfl _) hI.2.2.2.2.2.2.2.2.2.2.2.2.2.2.2.2.2.2.2.2.2.2.1))
    have k_xS3 : xS3 W := by
      rw [hW]
      exact (uxS3 rfl (uxS3 (sinc_ok rfl _) hI.2.2.2.2.2.2.2.2.2.2.2.2.2.2.2.2.2.2.2.2.2.2.2.1))
    have k_xS4 : xS4 W := by
      rw [hW]
      exact (uxS4 rfl (uxS4 (sinc_ok rfl _) hI.2.2.2.2.2.2.2.2.2.2.2.2.2.2.2.2.2.2.2.2.2.2.2.2.1))
    have k_xS5 : xS5 W := by
      rw [hW]
      exact (uxS5 rfl (uxS5 (sinc_ok rfl _) hI.2.2.2.2.2.2.2.2.2.2.2.2.2.2.2.2.2.2.2.2.2.2.2.2.2.1))
    have k_xS6 : xS6 W := by
      rw [hW]
      exact (uxS6 rfl (uxS6 (sinc_ok rfl _) hI.2.2.2.2.2.2.2.2.2.2.2.2.2.2.2.2.2.2.2.2.2.2.2.2.2.2.1))
    have k_xS7 : xS7 W := by
      rw [hW]
      exact (uxS7 rfl (uxS7 (sinc_ok rfl _) hI.2.2.2.2.2.2.2.2.2.2.2.2.2.2.2.2.2.2.2.2.2.2.2.2.2.2.2.1))
    have k_xS8 : xS8 W := by
      rw [hW]
      exact (uxS8 rfl (uxS8 (sinc_ok rfl _) hI.2.2.2.2.2.2.2.2.2.2.2.2.2.2.2.2.2.2.2.2.2.2.2.2.2.2.2.2.1))
    have k_xS9 : xS9 W := by
      rw [hW]
      exact (uxS9 rfl (uxS9 (sinc_ok rfl _) hI.2.2.2.2.2.2.2.2.2.2.2.2.2.2.2.2.2.2.2.2.2.2.2.2.2.2.2.2.2.1))
    have k_xSA : xSA W := by
      rw [hW]
      exact (uxSA rfl (uxSA (sinc_ok rfl _) hI.2.2.2.2.2.2.2.2.2.2.2.2.2.2.2.2.2.2.2.2.2.2.2.2.2.2.2.2.2.2.1))
    have k_xSG : xSG W := by
      rw [hW]
      exact (uxSG rfl (uxSG (sinc_ok rfl _) hI.2.2.2.2.2.2.2.2.2.2.2.2.2.2.2.2.2.2.2.2.2.2.2.2.2.2.2.2.2.2.2.1))
    have k_xSF : xSF W := by
      rw [hW]
      exact (uxSF rfl (uxSF (sinc_ok rfl _) hI.2.2.2.2.2.2.2.2.2.2.2.2.2.2.2.2.2.2.2.2.2.2.2.2.2.2.2.2.2.2.2.2.1))
    have k_xSB : xSB W := by
      rw [hW]
      exact (uxSB rfl (uxSB (sinc_ok rfl _) hI.2.2.2.2.2.2.2.2.2.2.2.2.2.2.2.2.2.2.2.2.2.2.2.2.2.2.2.2.2.2.2.2.2.1))
    have k_xSC : xSC W := by
      rw [hW]
      exact (uxSC rfl (uxSC (sinc_ok rfl _) hI.2.2.2.2.2.2.2.2.2.2.2.2.2.2.2.2.2.2.2.2.2.2.2.2.2.2.2.2.2.2.2.2.2.2.1))
    have k_xSD : xSD W := by
      rw [hW]
      exact (uxSD rfl (uxSD (sinc_ok rfl _) hI.2.2.2.2.2.2.2.2.2.2.2.2.2.2.2.2.2.2.2.2.2.2.2.2.2.2.2.2.2.2.2.2.2.2.2.1))
    have k_xSE : xSE W := by
      rw [hW]
      exact (uxSE rfl (uxSE (sinc_ok rfl _) hI.2.2.2.2.2.2.2.2.2.2.2.2.2.2.2.2.2.2.2.2.2.2.2.2.2.2.2.2.2.2.2.2.2.2.2.2.1))
    have k_xSW : xSW W := by
      rw [hW]
      exact (uxSW rfl (uxSW (sinc_ok rfl _) hI.2.2.2.2.2.2.2.2.2.2.2.2.2.2.2.2.2.2.2.2.2.2.2.2.2.2.2.2.2.2.2.2.2.2.2.2.2.1))
    have k_xST : xST W := by
      have r4_261 : W 4 261 = M 4 261 := by rw [hW, sU_ne (fun z => by omega), sU_ne (fun z => by omega)]
      have c1 : ∀ k : Nat, k ≠ (1 * ρ 1 + 0).toNat → W 1 k = M 1 k := fun k hk => by rw [hW, sU_ne (fun z => by omega), sU_ne (fun z => by omega)]
      have a1 : W 1 (1 * ρ 1 + 0).toNat = 1 * ρ 2 + 0 := by rw [hW, sU_ne (fun z => by omega), sU_at]
      have c92 : ∀ k, W 92 k = M 92 k := fun k => by rw [hW, sU_ne (fun z => by omega), sU_ne (fun z => by omega)]
      have e92 : W 92 = M 92 := funext c92
      intro i hi
      rw [r4_261] at hi
      rw [c1 i (by omega), e92]
      exact qxST i hi
    have k_xSP : xSP W := by
      have r4_262 : W 4 262 = 14 * ρ 0 + 0 := by rw [hW, sU_at]
      have r4_263 : W 4 263 = M 4 263 := by rw [hW, sU_ne (fun z => by omega), sU_ne (fun z => by omega)]
      have r4_264 : W 4 264 = M 4 264 := by rw [hW, sU_ne (fun z => by omega), sU_ne (fun z => by omega)]
      have r4_265 : W 4 265 = M 4 265 := by rw [hW, sU_ne (fun z => by omega), sU_ne (fun z => by omega)]
      have r4_266 : W 4 266 = M 4 266 := by rw [hW, sU_ne (fun z => by omega), sU_ne (fun z => by omega)]
      have r4_267 : W 4 267 = M 4 267 := by rw [hW, sU_ne (fun z => by omega), sU_ne (fun z => by omega)]
      have r4_268 : W 4 268 = M 4 268 := by rw [hW, sU_ne (fun z => by omega), sU_ne (fun z => by omega)]
      have r4_269 : W 4 269 = M 4 269 := by rw [hW, sU_ne (fun z => by omega), sU_ne (fun z => by omega)]
      have c1 : ∀ k : Nat, k ≠ (1 * ρ 1 + 0).toNat → W 1 k = M 1 k := fun k hk => by rw [hW, sU_ne (fun z => by omega), sU_ne (fun z => by omega)]
      have a1 : W 1 (1 * ρ 1 + 0).toNat = 1 * ρ 2 + 0 := by rw [hW, sU_ne (fun z => by omega), sU_at]
      have c92 : ∀ k, W 92 k = M 92 k := fun k => by rw [hW, sU_ne (fun z => by omega), sU_ne (fun z => by omega)]
      have e92 : W 92 = M 92 := funext c92
      unfold xSP
      rw [r4_262, r4_263, r4_264, e92]
      obtain ⟨p1, p2, p3⟩ := qxSP
      have e4 : ∀ x, x ≠ 262 → W 4 x = M 4 x := fun x hx => by rw [hW, sU_ne (fun z => by omega), sU_ne (fun z => by omega)]
      refine ⟨p1, fun q hq hl => ?_, fun q hq hl => by rw [e4 _ (by omega)]; exact p3 q hq hl⟩
      rw [h0] at hl
      rw [e4 _ (by omega)]
      by_cases hj : q = 13
      · subst hj
        show W 1 ((M 4 263).toNat + 13) = tSn (tBy (M 4 268) 13)
        rw [show (M 4 263).toNat + 13 = (1 * ρ 1 + 0).toNat by omega, a1, ← tb]
        have := xi2b (M 91 252)
        omega
      · rw [c1 _ (by omega)]
        exact p2 q hq (by omega)
    have k_xSL : xSL W := by
      rw [hW]
      exact (uxSL rfl (uxSL (sinc_ok rfl _) hI.2.2.2.2.2.2.2.2.2.2.2.2.2.2.2.2.2.2.2.2.2.2.2.2.2.2.2.2.2.2.2.2.2.2.2.2.2.2.2.2.1))
    have k_xSM : xSM W := by
      rw [hW]
      exact (uxSM rfl (uxSM (sinc_ok rfl _) hI.2.2.2.2.2.2.2.2.2.2.2.2.2.2.2.2.2.2.2.2.2.2.2.2.2.2.2.2.2.2.2.2.2.2.2.2.2.2.2.2.2.1))
    have k_xSI : xSI W := by
      rw [hW]
      exact (uxSI rfl (uxSI (sinc_ok rfl _) hI.2.2.2.2.2.2.2.2.2.2.2.2.2.2.2.2.2.2.2.2.2.2.2.2.2.2.2.2.2.2.2.2.2.2.2.2.2.2.2.2.2.2))
    have k_XC : XC W := ⟨k_xS1, k_xS2, k_xS3, k_xS4, k_xS5, k_xS6, k_xS7, k_xS8, k_xS9, k_xSA, k_xSG, k_xSF, k_xSB, k_xSC, k_xSD, k_xSE, k_xSW, k_xST, k_xSP, k_xSL, k_xSM, k_xSI⟩
    have kXB : XB W := ⟨k_xN1, k_xN2, k_xN3, k_xN4, k_xN5, k_xN6, k_xH1, k_xK1, k_xC1, k_xRW, k_xWT, k_xCU, k_xG2, k_xG3, k_xG4, k_xG5, k_xG6, k_XC⟩
    exact ⟨base, k2, k3, kXA, kXB⟩
-- fdW13
def xr_633 : qRu := (11, [[(-13, 0), (1, 1), (-1, 4)], [(13, 0), (-1, 1), (1, 4)], [(1, 1), (-1, 3)], [(-1, 1), (1, 3)], [(1, 4)], [(699, 0), (-1, 1)], [(1, 1)], [(-16, 0), (1, 6)], [(16, 0), (-1, 6)], [(1, 5), (-1, 8)], [(-1, 5), (1, 8)], [(-1, 2), (1, 9)], [(1, 2), (-1, 9)], [(1, 2)], [(255, 0), (-1, 2)]], [(4, 261, [(1, 3)]), (4, 262, [(20, 0)]), (4, 263, [(1, 4)]), (4, 264, []), (4, 268, [(1, 8)]), (91, 257, [(1, 9)]), (4, 100, []), (4, 200, []), (4, 210, []), (4, 212, []), (4, 214, []), (4, 220, []), (4, 233, []), (4, 235, []), (91, 249, [(1, 0)]), (91, 250, [(1, 5)]), (91, 251, [(1, 6)]), (91, 252, [(1, 7)])], [(92, [(1, 1)], [(1, 2)])], [(91, 990, [(1, 11)]), (4, 261, [(1, 0), (1, 3)])], [])
theorem xo_633 : qRok xr_633 := by
  intro ρ M h0 hf hm hI
  have f0 := hf [(-13, 0), (1, 1), (-1, 4)] (by decide)
  have f1 := hf [(13, 0), (-1, 1), (1, 4)] (by decide)
  have f2 := hf [(1, 1), (-1, 3)] (by decide)
  have f3 := hf [(-1, 1), (1, 3)] (by decide)
  have f4 := hf [(1, 4)] (by decide)
  have f5 := hf [(699, 0), (-1, 1)] (by decide)
  have f6 := hf [(1, 1)] (by decide)
  have f7 := hf [(-16, 0), (1, 6)] (by decide)
  have f8 := hf [(16, 0), (-1, 6)] (by decide)
  have f9 := hf [(1, 5), (-1, 8)] (by decide)
  have f10 := hf [(-1, 5), (1, 8)] (by decide)
  have f11 := hf [(-1, 2), (1, 9)] (by decide)
  have f12 := hf [(1, 2), (-1, 9)] (by decide)
  have f13 := hf [(1, 2)] (by decide)
  have f14 := hf [(255, 0), (-1, 2)] (by decide)
  simp only [qD, h0] at f0 f1 f2 f3 f4 f5 f6 f7 f8 f9 f10 f11 f12 f13 f14
  have m0 : M 4 261 = 1 * ρ 3 + 0 := hm (4, 261, [(1, 3)]) (by decide)
  have m1 : M 4 262 = 20 * ρ 0 + 0 := hm (4, 262, [(20, 0)]) (by decide)
  have m2 : M 4 263 = 1 * ρ 4 + 0 := hm (4, 263, [(1, 4)]) (by decide)
  have m3 : M 4 264 = 0 := hm (4, 264, []) (by decide)
  have m4 : M 4 268 = 1 * ρ 8 + 0 := hm (4, 268, [(1, 8)]) (by decide)
  have m5 : M 91 257 = 1 * ρ 9 + 0 := hm (91, 257, [(1, 9)]) (by decide)
  have m6 : M 4 100 = 0 := hm (4, 100, []) (by decide)
  have m7 : M 4 200 = 0 := hm (4, 200, []) (by decide)
  have m8 : M 4 210 = 0 := hm (4, 210, []) (by decide)
  have m9 : M 4 212 = 0 := hm (4, 212, []) (by decide)
  have m10 : M 4 214 = 0 := hm (4, 214, []) (by decide)
  have m11 : M 4 220 = 0 := hm (4, 220, []) (by decide)
  have m12 : M 4 233 = 0 := hm (4, 233, []) (by decide)
  have m13 : M 4 235 = 0 := hm (4, 235, []) (by decide)
  have m14 : M 91 249 = 1 * ρ 0 + 0 := hm (91, 249, [(1, 0)]) (by decide)
  have m15 : M 91 250 = 1 * ρ 5 + 0 := hm (91, 250, [(1, 5)]) (by decide)
  have m16 : M 91 251 = 1 * ρ 6 + 0 := hm (91, 251, [(1, 6)]) (by decide)
  have m17 : M 91 252 = 1 * ρ 7 + 0 := hm (91, 252, [(1, 7)]) (by decide)
  simp only [h0] at m1 m14
  have qxST := hI.2.2.2.2.2.2.2.2.2.2.2.2.2.2.2.2.2.2.2.2.2.2.2.2.2.2.2.2.2.2.2.2.2.2.2.2.2.2.1
  have qxSP := hI.2.2.2.2.2.2.2.2.2.2.2.2.2.2.2.2.2.2.2.2.2.2.2.2.2.2.2.2.2.2.2.2.2.2.2.2.2.2.2.1
  obtain ⟨g1, g2, g3, g4⟩ := gx_xSE hI (by omega)
  have tb : xop 1 (M 91 252) 255 = tBy (M 4 268) 13 := by
    unfold tBy
    rw [g1, show M 91 250 = M 4 268 by omega, show M 91 251 = 16 by omega]
    rfl

  have g257 := g4
  refine ⟨fun a => cond (Nat.blt a 11) (ρ a) (([xH (sU M 92 (1 * ρ 1 + 0).toNat (1 * ρ 2 + 0))] : List Int).getD (a - 11) 0), fun a ha => ?_, fun f h => ?_, ?_⟩
  · show cond (Nat.blt a 11) (ρ a) _ = ρ a
    rw [show Nat.blt a 11 = true from Nat.ble_eq_true_of_le ha]; rfl
  · exact nomatch h
  · show sI (sU (sU (sU M 92 (1 * ρ 1 + 0 : Int).toNat (1 * ρ 2 + 0)) 91 990 (1 * (xH (sU M 92 (1 * ρ 1 + 0).toNat (1 * ρ 2 + 0))) + 0)) 4 261 (1 * ρ 0 + (1 * ρ 3 + 0)))
    obtain ⟨W, hW⟩ : ∃ W, W = (sU (sU (sU M 92 (1 * ρ 1 + 0).toNat (1 * ρ 2 + 0)) 91 990 (1 * (xH (sU M 92 (1 * ρ 1 + 0).toNat (1 * ρ 2 + 0))) + 0)) 4 261 (1 * ρ 0 + (1 * ρ 3 + 0))) := ⟨_, rfl⟩
    rw [← hW]
    have base : sI0 W := by
      rw [hW]
      exact (si_u0 (si_u0 (si_u0 hI.1 (fun r hr => by rw [xt_92 hr]; exact ⟨by show (0 : Int) ≤ _; omega, by show _ ≤ (255 : Int); omega⟩)) (fun r hr => by cases hr)) (fun r hr => by cases hr))
    have k2 : XI2 W := by
      refine xi2_congr (fun o k hz ho => ?_) hI.2.1
      have h4 : ¬ (o = 4 ∧ k = 261) := fun z => by rw [z.1, z.2] at hz; exact absurd hz (by decide +kernel)
      rw [hW, sU_ne h4, sU_ne (fun z => by omega), sU_ne (fun z => by omega)]
    have k3 : XI3 W := by
      unfold XI3
      rw [hW]
      rw [sU_ne (fun z => by omega), sU_at]
      have e : ∀ o' k' x y, ¬ (o' = 91 ∧ k' = 990) → ¬ (o' = 4 ∧ k' = 261) → sU (sU (sU M 92 (1 * ρ 1 + 0).toNat (1 * ρ 2 + 0)) 91 990 x) 4 261 y o' k' = sU M 92 (1 * ρ 1 + 0).toNat (1 * ρ 2 + 0) o' k' := fun o' k' x y h h' => by rw [sU_ne h', sU_ne h]
      rw [show ∀ z : Int, 1 * z + 0 = z from fun z => by omega]
      unfold xH
      rw [e _ _ _ _ (by omega) (by omega), e _ _ _ _ (by omega) (by omega), e _ _ _ _ (by omega) (by omega)]
    have kXA : XA W := by
      rw [hW]
      exact (uXA rfl (uXA rfl (uXA (sinc_ok rfl _) hI.2.2.2.1)))
    have k_xN1 : xN1 W := by
      rw [hW]
      exact (uxN1 rfl (uxN1 rfl (uxN1 (sinc_ok rfl _) hI.2.2.2.2.1)))
    have k_xN2 : xN2 W := by
      rw [hW]
      exact (uxN2 rfl (uxN2 rfl (uxN2 (sinc_ok rfl _) hI.2.2.2.2.2.1)))
    have k_xN3 : xN3 W := by
      rw [hW]
      exact (uxN3 rfl (uxN3 rfl (uxN3 (sinc_ok rfl _) hI.2.2.2.2.2.2.1)))
    have k_xN4 : xN4 W := by
      rw [hW]
      exact (uxN4 rfl (uxN4 rfl (uxN4 (sinc_ok rfl _) hI.2.2.2.2.2.2.2.1)))
    have k_xN5 : xN5 W := by
      rw [hW]
      exact (uxN5 rfl (uxN5 rfl (uxN5 (sinc_ok rfl _) hI.2.2.2.2.2.2.2.2.1)))
    have k_xN6 : xN6 W := by
      rw [hW]
      exact (uxN6 rfl (uxN6 rfl (uxN6 (sinc_ok rfl _) hI.2.2.2.2.2.2.2.2.2.1)))
    have k_xH1 : xH1 W := by
      rw [hW]
      exact (uxH1 rfl (uxH1 rfl (uxH1 (sinc_ok rfl _) hI.2.2.2.2.2.2.2.2.2.2.1)))
    have k_xK1 : xK1 W := by
      rw [hW]
      exact (uxK1 rfl (uxK1 rfl (uxK1 (sinc_ok rfl _) hI.2.2.2.2.2.2.2.2.2.2.2.1)))
    have k_xC1 : xC1 W := by
      rw [hW]
      exact (uxC1 rfl (uxC1 rfl (uxC1 (sinc_ok rfl _) hI.2.2.2.2.2.2.2.2.2.2.2.2.1)))
    have k_xRW : xRW W := by
      rw [hW]
      exact (uxRW rfl (uxRW rfl (uxRW (sinc_ok rfl _) hI.2.2.2.2.2.2.2.2.2.2.2.2.2.1)))
    have k_xWT : xWT W := by
      rw [hW]
      exact (uxWT rfl (uxWT rfl (uxWT (sinc_ok rfl _) hI.2.2.2.2.2.2.2.2.2.2.2.2.2.2.1)))
    have k_xCU : xCU W := by
      rw [hW]
      exact (uxCU rfl (uxCU rfl (uxCU (sinc_ok rfl _) hI.2.2.2.2.2.2.2.2.2.2.2.2.2.2.2.1)))
    have k_xG2 : xG2 W := by
      rw [hW]
      exact (uxG2 rfl (uxG2 rfl (uxG2 (sinc_ok rfl _) hI.2.2.2.2.2.2.2.2.2.2.2.2.2.2.2.2.1)))
    have k_xG3 : xG3 W := by
      rw [hW]
      exact (uxG3 rfl (uxG3 rfl (uxG3 (sinc_ok rfl _) hI.2.2.2.2.2.2.2.2.2.2.2.2.2.2.2.2.2.1)))
    have k_xG4 : xG4 W := by
      rw [hW]
      exact (uxG4 rfl (uxG4 rfl (uxG4 (sinc_ok rfl _) hI.2.2.2.2.2.2.2.2.2.2.2.2.2.2.2.2.2.2.1)))
    have k_xG5 : xG5 W := by
      rw [hW]
      exact (uxG5 rfl (uxG5 rfl (uxG5 (sinc_ok rfl _) hI.2.2.2.2.2.2.2.2.2.2.2.2.2.2.2.2.2.2.2.1)))
    have k_xG6 : xG6 W := by
      rw [hW]
      exact (uxG6 rfl (uxG6 rfl (uxG6 (sinc_ok rfl _) hI.2.2.2.2.2.2.2.2.2.2.2.2.2.2.2.2.2.2.2.2.1)))
    have k_xS1 : xS1 W := by
      have r : W 4 100 = 0 := by
        have e := m6
        rw [hW, sU_ne (fun z => by omega), sU_ne (fun z => by omega), sU_ne (fun z => by omega)]
        omega
      intro h
      rw [r] at h
      exact absurd rfl h
    have k_xS2 : xS2 W := by
      have r : W 4 100 = 0 := by
        have e := m6
        rw [hW, sU_ne (fun z => by omega), sU_ne (fun z => by omega), sU_ne (fun z => by omega)]
        omega
      intro h
      rw [r] at h
      exact absurd rfl h
    have k_xS3 : xS3 W := by
      have r : W 4 100 = 0 := by
        have e := m6
        rw [hW, sU_ne (fun z => by omega), sU_ne (fun z => by omega), sU_ne (fun z => by omega)]
        omega
      intro h
      rw [r] at h
      exact absurd rfl h
    have k_xS4 : xS4 W := by
      rw [hW]
      exact (uxS4 rfl (uxS4 rfl (uxS4 (sinc_ok rfl _) hI.2.2.2.2.2.2.2.2.2.2.2.2.2.2.2.2.2.2.2.2.2.2.2.2.1)))
    have k_xS5 : xS5 W := by
      rw [hW]
      exact (uxS5 rfl (uxS5 rfl (uxS5 (sinc_ok rfl _) hI.2.2.2.2.2.2.2.2.2.2.2.2.2.2.2.2.2.2.2.2.2.2.2.2.2.1)))
    have k_xS6 : xS6 W := by
      rw [hW]
      exact (uxS6 rfl (uxS6 rfl (uxS6 (sinc_ok rfl _) hI.2.2.2.2.2.2.2.2.2.2.2.2.2.2.2.2.2.2.2.2.2.2.2.2.2.2.1)))
    have k_xS7 : xS7 W := by
      have r : W 4 200 = 0 := by
        have e := m7
        rw [hW, sU_ne (fun z => by omega), sU_ne (fun z => by omega), sU_ne (fun z => by omega)]
        omega
      intro h
      rw [r] at h
      omega
    have k_xS8 : xS8 W := by
      have r : W 4 210 = 0 := by
        have e := m8
        rw [hW, sU_ne (fun z => by omega), sU_ne (fun z => by omega), sU_ne (fun z => by omega)]
        omega
      intro h
      rw [r] at h
      omega
    have k_xS9 : xS9 W := by
      have r : W 4 212 = 0 := by
        have e := m9
        rw [hW, sU_ne (fun z => by omega), sU_ne (fun z => by omega), sU_ne (fun z => by omega)]
        omega
      intro h
      rw [r] at h
      omega
    have k_xSA : xSA W := by
      have r : W 4 214 = 0 := by
        have e := m10
        rw [hW, sU_ne (fun z => by omega), sU_ne (fun z => by omega), sU_ne (fun z => by omega)]
        omega
      intro h
      rw [r] at h
      omega
    have k_xSG : xSG W := by
      have r : W 4 235 = 0 := by
        have e := m13
        rw [hW, sU_ne (fun z => by omega), sU_ne (fun z => by omega), sU_ne (fun z => by omega)]
        omega
      intro h
      rw [r] at h
      omega
    have k_xSF : xSF W := by
      have r : W 4 233 = 0 := by
        have e := m12
        rw [hW, sU_ne (fun z => by omega), sU_ne (fun z => by omega), sU_ne (fun z => by omega)]
        omega
      intro h
      rw [r] at h
      omega
    have k_xSB : xSB W := by
      have r : W 4 220 = 0 := by
        have e := m11
        rw [hW, sU_ne (fun z => by omega), sU_ne (fun z => by omega), sU_ne (fun z => by omega)]
        omega
      intro h
      rw [r] at h
      omega
    have k_xSC : xSC W := by
      rw [hW]
      exact (uxSC rfl (uxSC rfl (uxSC (sinc_ok rfl _) hI.2.2.2.2.2.2.2.2.2.2.2.2.2.2.2.2.2.2.2.2.2.2.2.2.2.2.2.2.2.2.2.2.2.2.1)))
    have k_xSD : xSD W := by
      rw [hW]
      exact (uxSD rfl (uxSD rfl (uxSD (sinc_ok rfl _) hI.2.2.2.2.2.2.2.2.2.2.2.2.2.2.2.2.2.2.2.2.2.2.2.2.2.2.2.2.2.2.2.2.2.2.2.1)))
    have k_xSE : xSE W := by
      rw [hW]
      exact (uxSE rfl (uxSE rfl (uxSE (sinc_ok rfl _) hI.2.2.2.2.2.2.2.2.2.2.2.2.2.2.2.2.2.2.2.2.2.2.2.2.2.2.2.2.2.2.2.2.2.2.2.2.1)))
    have k_xSW : xSW W := by
      rw [hW]
      exact (uxSW rfl (uxSW rfl (uxSW (sinc_ok rfl _) hI.2.2.2.2.2.2.2.2.2.2.2.2.2.2.2.2.2.2.2.2.2.2.2.2.2.2.2.2.2.2.2.2.2.2.2.2.2.1)))
    have k_xST : xST W := by
      have r4_261 : W 4 261 = 1 * ρ 0 + (1 * ρ 3 + 0) := by rw [hW, sU_at]
      have c1 : ∀ k, W 1 k = M 1 k := fun k => by rw [hW, sU_ne (fun z => by omega), sU_ne (fun z => by omega), sU_ne (fun z => by omega)]
      have e1 : W 1 = M 1 := funext c1
      have c92 : ∀ k : Nat, k ≠ (1 * ρ 1 + 0).toNat → W 92 k = M 92 k := fun k hk => by rw [hW, sU_ne (fun z => by omega), sU_ne (fun z => by omega), sU_ne (fun z => by omega)]
      have a92 : W 92 (1 * ρ 1 + 0).toNat = 1 * ρ 2 + 0 := by rw [hW, sU_ne (fun z => by omega), sU_ne (fun z => by omega), sU_at]
      intro i hi
      rw [r4_261, h0] at hi
      rw [e1]
      by_cases hx : i = (1 * ρ 1 + 0).toNat
      · rw [hx, a92]
        obtain ⟨p1, p2, p3⟩ := gx_xSP hI
        have := p2 13 (by omega) (by omega)
        rw [show (M 4 263).toNat + 13 = (1 * ρ 1 + 0).toNat by omega] at this
        have this : M 1 (1 * ρ 1 + 0).toNat = tSn (tBy (M 4 268) 13) := this
        rw [this, ← tb]
        congr 1
        omega
      · rw [c92 i hx]
        exact qxST i (by omega)
    have k_xSP : xSP W := by
      have r4_262 : W 4 262 = M 4 262 := by rw [hW, sU_ne (fun z => by omega), sU_ne (fun z => by omega), sU_ne (fun z => by omega)]
      have r4_263 : W 4 263 = M 4 263 := by rw [hW, sU_ne (fun z => by omega), sU_ne (fun z => by omega), sU_ne (fun z => by omega)]
      have r4_264 : W 4 264 = M 4 264 := by rw [hW, sU_ne (fun z => by omega), sU_ne (fun z => by omega), sU_ne (fun z => by omega)]
      have r4_265 : W 4 265 = M 4 265 := by rw [hW, sU_ne (fun z => by omega), sU_ne (fun z => by omega), sU_ne (fun z => by omega)]
      have r4_266 : W 4 266 = M 4 266 := by rw [hW, sU_ne (fun z => by omega), sU_ne (fun z => by omega), sU_ne (fun z => by omega)]
      have r4_267 : W 4 267 = M 4 267 := by rw [hW, sU_ne (fun z => by omega), sU_ne (fun z => by omega), sU_ne (fun z => by omega)]
      have r4_268 : W 4 268 = M 4 268 := by rw [hW, sU_ne (fun z => by omega), sU_ne (fun z => by omega), sU_ne (fun z => by omega)]
      have r4_269 : W 4 269 = M 4 269 := by rw [hW, sU_ne (fun z => by omega), sU_ne (fun z => by omega), sU_ne (fun z => by omega)]
      have c1 : ∀ k, W 1 k = M 1 k := fun k => by rw [hW, sU_ne (fun z => by omega), sU_ne (fun z => by omega), sU_ne (fun z => by omega)]
      have e1 : W 1 = M 1 := funext c1
      have c92 : ∀ k : Nat, k ≠ (1 * ρ 1 + 0).toNat → W 92 k = M 92 k := fun k hk => by rw [hW, sU_ne (fun z => by omega), sU_ne (fun z => by omega), sU_ne (fun z => by omega)]
      have a92 : W 92 (1 * ρ 1 + 0).toNat = 1 * ρ 2 + 0 := by rw [hW, sU_ne (fun z => by omega), sU_ne (fun z => by omega), sU_at]
      unfold xSP
      rw [r4_262, r4_263, r4_264, e1]
      obtain ⟨p1, p2, p3⟩ := gx_xSP hI
      refine ⟨p1, fun q hq hl => ?_, fun q hq hl => by omega⟩
      have e4 : ∀ x, x ≠ 261 → W 4 x = M 4 x := fun x hx => by rw [hW, sU_ne (fun z => by omega), sU_ne (fun z => by omega), sU_ne (fun z => by omega)]
      rw [e4 _ (by omega)]
      exact p2 q hq hl
    have k_xSL : xSL W := by
      rw [hW]
      exact (uxSL rfl (uxSL rfl (uxSL (sinc_ok rfl _) hI.2.2.2.2.2.2.2.2.2.2.2.2.2.2.2.2.2.2.2.2.2.2.2.2.2.2.2.2.2.2.2.2.2.2.2.2.2.2.2.2.1)))
    have k_xSM : xSM W := by
      rw [hW]
      exact (uxSM rfl (uxSM rfl (uxSM (sinc_ok rfl _) hI.2.2.2.2.2.2.2.2.2.2.2.2.2.2.2.2.2.2.2.2.2.2.2.2.2.2.2.2.2.2.2.2.2.2.2.2.2.2.2.2.2.1)))
    have k_xSI : xSI W := by
      rw [hW]
      exact (uxSI rfl (uxSI rfl (uxSI (sinc_ok rfl _) hI.2.2.2.2.2.2.2.2.2.2.2.2.2.2.2.2.2.2.2.2.2.2.2.2.2.2.2.2.2.2.2.2.2.2.2.2.2.2.2.2.2.2)))
    have k_XC : XC W := ⟨k_xS1, k_xS2, k_xS3, k_xS4, k_xS5, k_xS6, k_xS7, k_xS8, k_xS9, k_xSA, k_xSG, k_xSF, k_xSB, k_xSC, k_xSD, k_xSE, k_xSW, k_xST, k_xSP, k_xSL, k_xSM, k_xSI⟩
    have kXB : XB W := ⟨k_xN1, k_xN2, k_xN3, k_xN4, k_xN5, k_xN6, k_xH1, k_xK1, k_xC1, k_xRW, k_xWT, k_xCU, k_xG2, k_xG3, k_xG4, k_xG5, k_xG6, k_XC⟩
    exact ⟨base, k2, k3, kXA, kXB⟩
-- fdC14
def xr_634 : qRu := (11, [[(-14, 0), (1, 1), (-1, 4)], [(14, 0), (-1, 1), (1, 4)], [(1, 1), (-1, 3)], [(1, 4)], [(699, 0), (-1, 1)], [(1, 1)], [(-8, 0), (1, 6)], [(8, 0), (-1, 6)], [(1, 5), (-1, 8)], [(-1, 5), (1, 8)], [(-1, 2), (1, 9)], [(1, 2), (-1, 9)], [(-1, 7), (1, 10)], [(1, 7), (-1, 10)], [(128, 0), (1, 2)], [(127, 0), (-1, 2)]], [(4, 100, []), (4, 261, [(1, 3)]), (4, 262, [(14, 0)]), (4, 263, [(1, 4)]), (4, 268, [(1, 8)]), (91, 259, [(1, 0)]), (91, 248, [(1, 10)]), (91, 258, [(1, 9)]), (91, 249, [(1, 0)]), (91, 250, [(1, 5)]), (91, 251, [(1, 6)]), (91, 252, [(1, 7)])], [(1, [(1, 1)], [(1, 2)])], [(4, 262, [(15, 0)])], [])
theorem xo_634 : qRok xr_634 := by
  intro ρ M h0 hf hm hI
  have f0 := hf [(-14, 0), (1, 1), (-1, 4)] (by decide)
  have f1 := hf [(14, 0), (-1, 1), (1, 4)] (by decide)
  have f2 := hf [(1, 1), (-1, 3)] (by decide)
  have f3 := hf [(1, 4)] (by decide)
  have f4 := hf [(699, 0), (-1, 1)] (by decide)
  have f5 := hf [(1, 1)] (by decide)
  have f6 := hf [(-8, 0), (1, 6)] (by decide)
  have f7 := hf [(8, 0), (-1, 6)] (by decide)
  have f8 := hf [(1, 5), (-1, 8)] (by decide)
  have f9 := hf [(-1, 5), (1, 8)] (by decide)
  have f10 := hf [(-1, 2), (1, 9)] (by decide)
  have f11 := hf [(1, 2), (-1, 9)] (by decide)
  have f12 := hf [(-1, 7), (1, 10)] (by decide)
  have f13 := hf [(1, 7), (-1, 10)] (by decide)
  have f14 := hf [(128, 0), (1, 2)] (by decide)
  have f15 := hf [(127, 0), (-1, 2)] (by decide)
  simp only [qD, h0] at f0 f1 f2 f3 f4 f5 f6 f7 f8 f9 f10 f11 f12 f13 f14 f15
  have m0 : M 4 100 = 0 := hm (4, 100, []) (by decide)
  have m1 : M 4 261 = 1 * ρ 3 + 0 := hm (4, 261, [(1, 3)]) (by decide)
  have m2 : M 4 262 = 14 * ρ 0 + 0 := hm (4, 262, [(14, 0)]) (by decide)
  have m3 : M 4 263 = 1 * ρ 4 + 0 := hm (4, 263, [(1, 4)]) (by decide)
  have m4 : M 4 268 = 1 * ρ 8 + 0 := hm (4, 268, [(1, 8)]) (by decide)
  have m5 : M 91 259 = 1 * ρ 0 + 0 := hm (91, 259, [(1, 0)]) (by decide)
  have m6 : M 91 248 = 1 * ρ 10 + 0 := hm (91, 248, [(1, 10)]) (by decide)
  have m7 : M 91 258 = 1 * ρ 9 + 0 := hm (91, 258, [(1, 9)]) (by decide)
  have m8 : M 91 249 = 1 * ρ 0 + 0 := hm (91, 249, [(1, 0)]) (by decide)
  have m9 : M 91 250 = 1 * ρ 5 + 0 := hm (91, 250, [(1, 5)]) (by decide)
  have m10 : M 91 251 = 1 * ρ 6 + 0 := hm (91, 251, [(1, 6)]) (by decide)
  have m11 : M 91 252 = 1 * ρ 7 + 0 := hm (91, 252, [(1, 7)]) (by decide)
  simp only [h0] at m2 m5 m8
  have qxST := hI.2.2.2.2.2.2.2.2.2.2.2.2.2.2.2.2.2.2.2.2.2.2.2.2.2.2.2.2.2.2.2.2.2.2.2.2.2.2.1
  have qxSP := hI.2.2.2.2.2.2.2.2.2.2.2.2.2.2.2.2.2.2.2.2.2.2.2.2.2.2.2.2.2.2.2.2.2.2.2.2.2.2.2.1
  obtain ⟨g1, g2, g3, g4⟩ := gx_xSE hI (by omega)
  have tb : xop 1 (M 91 252) 255 = tBy (M 4 268) 14 := by
    unfold tBy
    rw [g1, show M 91 250 = M 4 268 by omega, show M 91 251 = 8 by omega]
    rfl

  have gi := gx_xSI hI (by omega)
  rw [show M 91 248 = M 91 252 by omega] at gi
  refine ⟨ρ, fun _ _ => rfl, fun f h => ?_, ?_⟩
  · exact nomatch h
  · show sI (sU (sU M 1 (1 * ρ 1 + 0 : Int).toNat (1 * ρ 2 + 0)) 4 262 (15 * ρ 0 + 0))
    obtain ⟨W, hW⟩ : ∃ W, W = (sU (sU M 1 (1 * ρ 1 + 0).toNat (1 * ρ 2 + 0)) 4 262 (15 * ρ 0 + 0)) := ⟨_, rfl⟩
    rw [← hW]
    have base : sI0 W := by
      rw [hW]
      exact (si_u0 (si_u0 hI.1 (fun r hr => by rw [xt_1 hr]; exact ⟨by show (-128 : Int) ≤ _; omega, by show _ ≤ (127 : Int); omega⟩)) (fun r hr => by cases hr))
    have k2 : XI2 W := by
      rw [hW]
      exact (xi2_u rfl (xi2_u (sinc_ok rfl _) hI.2.1))
    have k3 : XI3 W := by
      rw [hW]
      exact (xi3_u rfl (xi3_u (sinc_ok rfl _) hI.2.2.1))
    have kXA : XA W := by
      rw [hW]
      exact (uXA rfl (uXA (sinc_ok rfl _) hI.2.2.2.1))
    have k_xN1 : xN1 W := by
      rw [hW]
      exact (uxN1 rfl (uxN1 (sinc_ok rfl _) hI.2.2.2.2.1))
    have k_xN2 : xN2 W := by
      rw [hW]
      exact (uxN2 rfl (uxN2 (sinc_ok rfl _) hI.2.2.2.2.2.1))
    have k_xN3 : xN3 W := by
      rw [hW]
      exact (uxN3 rfl (uxN3 (sinc_ok rfl _) hI.2.2.2.2.2.2.1))
    have k_xN4 : xN4 W := by
      rw [hW]
      exact (uxN4 rfl (uxN4 (sinc_ok rfl _) hI.2.2.2.2.2.2.2.1))
    have k_xN5 : xN5 W := by
      rw [hW]
      exact (uxN5 rfl (uxN5 (sinc_ok rfl _) hI.2.2.2.2.2.2.2.2.1))
    have k_xN6 : xN6 W := by
      rw [hW]
      exact (uxN6 rfl (uxN6 (sinc_ok rfl _) hI.2.2.2.2.2.2.2.2.2.1))
    have k_xH1 : xH1 W := by
      rw [hW]
      exact (uxH1 rfl (uxH1 (sinc_ok rfl _) hI.2.2.2.2.2.2.2.2.2.2.1))
    have k_xK1 : xK1 W := by
      rw [hW]
      exact (uxK1 rfl (uxK1 (sinc_ok rfl _) hI.2.2.2.2.2.2.2.2.2.2.2.1))
    have k_xC1 : xC1 W := by
      rw [hW]
      exact (uxC1 rfl (uxC1 (sinc_ok rfl _) hI.2.2.2.2.2.2.2.2.2.2.2.2.1))
    have k_xRW : xRW W := by
      rw [hW]
      exact (uxRW rfl (uxRW (sinc_ok rfl _) hI.2.2.2.2.2.2.2.2.2.2.2.2.2.1))
    have k_xWT : xWT W := by
      rw [hW]
      exact (uxWT rfl (uxWT (sinc_ok rfl _) hI.2.2.2.2.2.2.2.2.2.2.2.2.2.2.1))
    have k_xCU : xCU W := by
      rw [hW]
      exact (uxCU rfl (uxCU (sinc_ok rfl _) hI.2.2.2.2.2.2.2.2.2.2.2.2.2.2.2.1))
    have k_xG2 : xG2 W := by
      rw [hW]
      exact (uxG2 rfl (uxG2 (sinc_ok rfl _) hI.2.2.2.2.2.2.2.2.2.2.2.2.2.2.2.2.1))
    have k_xG3 : xG3 W := by
      rw [hW]
      exact (uxG3 rfl (uxG3 (sinc_ok rfl _) hI.2.2.2.2.2.2.2.2.2.2.2.2.2.2.2.2.2.1))
    have k_xG4 : xG4 W := by
      rw [hW]
      exact (uxG4 rfl (uxG4 (sinc_ok rfl _) hI.2.2.2.2.2.2.2.2.2.2.2.2.2.2.2.2.2.2.1))
    have k_xG5 : xG5 W := by
      rw [hW]
      exact (uxG5 rfl (uxG5 (sinc_ok rfl _) hI.2.2.2.2.2.2.2.2.2.2.2.2.2.2.2.2.2.2.2.1))
    have k_xG6 : xG6 W := by
      rw [hW]
      exact (uxG6 rfl (uxG6 (sinc_ok rfl _) hI.2.2.2.2.2.2.2.2.2.2.2.2.2.2.2.2.2.2.2.2.1))
    have k_xS1 : xS1 W := by
      have r : W 4 100 = 0 := by
        have e := m0
        rw [hW, sU_ne (fun z => by omega), sU_ne (fun z => by omega)]
        omega
      intro h
      rw [r] at h
      exact absurd rfl h
    have k_xS2 : xS2 W := by
      rw [hW]
      exact (uxS2 rfl (uxS2 (sinc_ok rfl _) hI.2.2.2.2.2.2.2.2.2.2.2.2.2.2.2.2.2.2.2.2.2.2.1))
    have k_xS3 : xS3 W := by
      rw [hW]
      exact (uxS3 rfl (uxS3 (sinc_ok rfl _) hI.2.2.2.2.2.2.2.2.2.2.2.2.2.2.2.2.2.2.2.2.2.2.2.1))
    have k_xS4 : xS4 W := by
      rw [hW]
      exact (uxS4 rfl (uxS4 (sinc_ok rfl _) hI.2.2.2.2.2.2.2.2.2.2.2.2.2.2.2.2.2.2.2.2.2.2.2.2.1))
    have k_xS5 : xS5 W := by
      rw [hW]
      exact (uxS5 rfl (uxS5 (sinc_ok rfl _) hI.2.2.2.2.2.2.2.2.2.2.2.2.2.2.2.2.2.2.2.2.2.2.2.2.2.1))
    have k_xS6 : xS6 W := by
      rw [hW]
      exact (uxS6 rfl (uxS6 (sinc_ok rfl _) hI.2.2.2.2.2.2.2.2.2.2.2.2.2.2.2.2.2.2.2.2.2.2.2.2.2.2.1))
    have k_xS7 : xS7 W := by
      rw [hW]
      exact (uxS7 rfl (uxS7 (sinc_ok rfl _) hI.2.2.2.2.2.2.2.2.2.2.2.2.2.2.2.2.2.2.2.2.2.2.2.2.2.2.2.1))
    have k_xS8 : xS8 W := by
      rw [hW]
      exact (uxS8 rfl (uxS8 (sinc_ok rfl _) hI.2.2.2.2.2.2.2.2.2.2.2.2.2.2.2.2.2.2.2.2.2.2.2.2.2.2.2.2.1))
    have k_xS9 : xS9 W := by
      rw [hW]
      exact (uxS9 rfl (uxS9 (sinc_ok rfl _) hI.2.2.2.2.2.2.2.2.2.2.2.2.2.2.2.2.2.2.2.2.2.2.2.2.2.2.2.2.2.1))
    have k_xSA : xSA W := by
      rw [hW]
      exact (uxSA rfl (uxSA (sinc_ok rfl _) hI.2.2.2.2.2.2.2.2.2.2.2.2.2.2.2.2.2.2.2.2.2.2.2.2.2.2.2.2.2.2.1))
    have k_xSG : xSG W := by
      rw [hW]
      exact (uxSG rfl (uxSG (sinc_ok rfl _) hI.2.2.2.2.2.2.2.2.2.2.2.2.2.2.2.2.2.2.2.2.2.2.2.2.2.2.2.2.2.2.2.1))
    have k_xSF : xSF W := by
      rw [hW]
      exact (uxSF rfl (uxSF (sinc_ok rfl _) hI.2.2.2.2.2.2.2.2.2.2.2.2.2.2.2.2.2.2.2.2.2.2.2.2.2.2.2.2.2.2.2.2.1))
    have k_xSB : xSB W := by
      rw [hW]
      exact (uxSB rfl (uxSB (sinc_ok rfl _) hI.2.2.2.2.2.2.2.2.2.2.2.2.2.2.2.2.2.2.2.2.2.2.2.2.2.2.2.2.2.2.2.2.2.1))
    have k_xSC : xSC W := by
      rw [hW]
      exact (uxSC rfl (uxSC (sinc_ok rfl _) hI.2.2.2.2.2.2.2.2.2.2.2.2.2.2.2.2.2.2.2.2.2.2.2.2.2.2.2.2.2.2.2.2.2.2.1))
    have k_xSD : xSD W := by
      rw [hW]
      exact (uxSD rfl (uxSD (sinc_ok rfl _) hI.2.2.2.2.2.2.2.2.2.2.2.2.2.2.2.2.2.2.2.2.2.2.2.2.2.2.2.2.2.2.2.2.2.2.2.1))
    have k_xSE : xSE W := by
      rw [hW]
      exact (uxSE rfl (uxSE (sinc_ok rfl _) hI.2.2.2.2.2.2.2.2.2.2.2.2.2.2.2.2.2.2.2.2.2.2.2.2.2.2.2.2.2.2.2.2.2.2.2.2.1))
    have k_xSW : xSW W := by
      rw [hW]
      exact (uxSW rfl (uxSW (sinc_ok rfl _) hI.2.2.2.2.2.2.2.2.2.2.2.2.2.2.2.2.2.2.2.2.2.2.2.2.2.2.2.2.2.2.2.2.2.2.2.2.2.1))
    have k_xST : xST W := by
      have r4_261 : W 4 261 = M 4 261 := by rw [hW, sU_ne (fun z => by omega), sU_ne (fun z => by omega)]
      have c1 : ∀ k : Nat, k ≠ (1 * ρ 1 + 0).toNat → W 1 k = M 1 k := fun k hk => by rw [hW, sU_ne (fun z => by omega), sU_ne (fun z => by omega)]
      have a1 : W 1 (1 * ρ 1 + 0).toNat = 1 * ρ 2 + 0 := by rw [hW, sU_ne (fun z => by omega), sU_at]
      have c92 : ∀ k, W 92 k = M 92 k := fun k => by rw [hW, sU_ne (fun z => by omega), sU_ne (fun z => by omega)]
      have e92 : W 92 = M 92 := funext c92
      intro i hi
      rw [r4_261] at hi
      rw [c1 i (by omega), e92]
      exact qxST i hi
    have k_xSP : xSP W := by
      have r4_262 : W 4 262 = 15 * ρ 0 + 0 := by rw [hW, sU_at]
      have r4_263 : W 4 263 = M 4 263 := by rw [hW, sU_ne (fun z => by omega), sU_ne (fun z => by omega)]
      have r4_264 : W 4 264 = M 4 264 := by rw [hW, sU_ne (fun z => by omega), sU_ne (fun z => by omega)]
      have r4_265 : W 4 265 = M 4 265 := by rw [hW, sU_ne (fun z => by omega), sU_ne (fun z => by omega)]
      have r4_266 : W 4 266 = M 4 266 := by rw [hW, sU_ne (fun z => by omega), sU_ne (fun z => by omega)]
      have r4_267 : W 4 267 = M 4 267 := by rw [hW, sU_ne (fun z => by omega), sU_ne (fun z => by omega)]
      have r4_268 : W 4 268 = M 4 268 := by rw [hW, sU_ne (fun z => by omega), sU_ne (fun z => by omega)]
      have r4_269 : W 4 269 = M 4 269 := by rw [hW, sU_ne (fun z => by omega), sU_ne (fun z => by omega)]
      have c1 : ∀ k : Nat, k ≠ (1 * ρ 1 + 0).toNat → W 1 k = M 1 k := fun k hk => by rw [hW, sU_ne (fun z => by omega), sU_ne (fun z => by omega)]
      have a1 : W 1 (1 * ρ 1 + 0).toNat = 1 * ρ 2 + 0 := by rw [hW, sU_ne (fun z => by omega), sU_at]
      have c92 : ∀ k, W 92 k = M 92 k := fun k => by rw [hW, sU_ne (fun z => by omega), sU_ne (fun z => by omega)]
      have e92 : W 92 = M 92 := funext c92
      unfold xSP
      rw [r4_262, r4_263, r4_264, e92]
      obtain ⟨p1, p2, p3⟩ := qxSP
      have e4 : ∀ x, x ≠ 262 → W 4 x = M 4 x := fun x hx => by rw [hW, sU_ne (fun z => by omega), sU_ne (fun z => by omega)]
      refine ⟨p1, fun q hq hl => ?_, fun q hq hl => by rw [e4 _ (by omega)]; exact p3 q hq hl⟩
      rw [h0] at hl
      rw [e4 _ (by omega)]
      by_cases hj : q = 14
      · subst hj
        show W 1 ((M 4 263).toNat + 14) = tSn (tBy (M 4 268) 14)
        rw [show (M 4 263).toNat + 14 = (1 * ρ 1 + 0).toNat by omega, a1, ← tb]
        have := xi2b (M 91 252)
        omega
      · rw [c1 _ (by omega)]
        exact p2 q hq (by omega)
    have k_xSL : xSL W := by
      rw [hW]
      exact (uxSL rfl (uxSL (sinc_ok rfl _) hI.2.2.2.2.2.2.2.2.2.2.2.2.2.2.2.2.2.2.2.2.2.2.2.2.2.2.2.2.2.2.2.2.2.2.2.2.2.2.2.2.1))
    have k_xSM : xSM W := by
      rw [hW]
      exact (uxSM rfl (uxSM (sinc_ok rfl _) hI.2.2.2.2.2.2.2.2.2.2.2.2.2.2.2.2.2.2.2.2.2.2.2.2.2.2.2.2.2.2.2.2.2.2.2.2.2.2.2.2.2.1))
    have k_xSI : xSI W := by
      rw [hW]
      exact (uxSI rfl (uxSI (sinc_ok rfl _) hI.2.2.2.2.2.2.2.2.2.2.2.2.2.2.2.2.2.2.2.2.2.2.2.2.2.2.2.2.2.2.2.2.2.2.2.2.2.2.2.2.2.2))
    have k_XC : XC W := ⟨k_xS1, k_xS2, k_xS3, k_xS4, k_xS5, k_xS6, k_xS7, k_xS8, k_xS9, k_xSA, k_xSG, k_xSF, k_xSB, k_xSC, k_xSD, k_xSE, k_xSW, k_xST, k_xSP, k_xSL, k_xSM, k_xSI⟩
    have kXB : XB W := ⟨k_xN1, k_xN2, k_xN3, k_xN4, k_xN5, k_xN6, k_xH1, k_xK1, k_xC1, k_xRW, k_xWT, k_xCU, k_xG2, k_xG3, k_xG4, k_xG5, k_xG6, k_XC⟩
    exact ⟨base, k2, k3, kXA, kXB⟩
-- fdW14
def xr_635 : qRu := (11, [[(-14, 0), (1, 1), (-1, 4)], [(14, 0), (-1, 1), (1, 4)], [(1, 1), (-1, 3)], [(-1, 1), (1, 3)], [(1, 4)], [(699, 0), (-1, 1)], [(1, 1)], [(-8, 0), (1, 6)], [(8, 0), (-1, 6)], [(1, 5), (-1, 8)], [(-1, 5), (1, 8)], [(-1, 2), (1, 9)], [(1, 2), (-1, 9)], [(1, 2)], [(255, 0), (-1, 2)]], [(4, 261, [(1, 3)]), (4, 262, [(20, 0)]), (4, 263, [(1, 4)]), (4, 264, []), (4, 268, [(1, 8)]), (91, 257, [(1, 9)]), (4, 100, []), (4, 200, []), (4, 210, []), (4, 212, []), (4, 214, []), (4, 220, []), (4, 233, []), (4, 235, []), (91, 249, [(1, 0)]), (91, 250, [(1, 5)]), (91, 251, [(1, 6)]), (91, 252, [(1, 7)])], [(92, [(1, 1)], [(1, 2)])], [(91, 990, [(1, 11)]), (4, 261, [(1, 0), (1, 3)])], [])
theorem xo_635 : qRok xr_635 := by
  intro ρ M h0 hf hm hI
  have f0 := hf [(-14, 0), (1, 1), (-1, 4)] (by decide)
  have f1 := hf [(14, 0), (-1, 1), (1, 4)] (by decide)
  have f2 := hf [(1, 1), (-1, 3)] (by decide)
  have f3 := hf [(-1, 1), (1, 3)] (by decide)
  have f4 := hf [(1, 4)] (by decide)
  have f5 := hf [(699, 0), (-1, 1)] (by decide)
  have f6 := hf [(1, 1)] (by decide)
  have f7 := hf [(-8, 0), (1, 6)] (by decide)
  have f8 := hf [(8, 0), (-1, 6)] (by decide)
  have f9 := hf [(1, 5), (-1, 8)] (by decide)
  have f10 := hf [(-1, 5), (1, 8)] (by decide)
  have f11 := hf [(-1, 2), (1, 9)] (by decide)
  have f12 := hf [(1, 2), (-1, 9)] (by decide)
  have f13 := hf [(1, 2)] (by decide)
  have f14 := hf [(255, 0), (-1, 2)] (by decide)
  simp only [qD, h0] at f0 f1 f2 f3 f4 f5 f6 f7 f8 f9 f10 f11 f12 f13 f14
  have m0 : M 4 261 = 1 * ρ 3 + 0 := hm (4, 261, [(1, 3)]) (by decide)
  have m1 : M 4 262 = 20 * ρ 0 + 0 := hm (4, 262, [(20, 0)]) (by decide)
  have m2 : M 4 263 = 1 * ρ 4 + 0 := hm (4, 263, [(1, 4)]) (by decide)
  have m3 : M 4 264 = 0 := hm (4, 264, []) (by decide)
  have m4 : M 4 268 = 1 * ρ 8 + 0 := hm (4, 268, [(1, 8)]) (by decide)
  have m5 : M 91 257 = 1 * ρ 9 + 0 := hm (91, 257, [(1, 9)]) (by decide)
  have m6 : M 4 100 = 0 := hm (4, 100, []) (by decide)
  have m7 : M 4 200 = 0 := hm (4, 200, []) (by decide)
  have m8 : M 4 210 = 0 := hm (4, 210, []) (by decide)
  have m9 : M 4 212 = 0 := hm (4, 212, []) (by decide)
  have m10 : M 4 214 = 0 := hm (4, 214, []) (by decide)
  have m11 : M 4 220 = 0 := hm (4, 220, []) (by decide)
  have m12 : M 4 233 = 0 := hm (4, 233, []) (by decide)
  have m13 : M 4 235 = 0 := hm (4, 235, []) (by decide)
  have m14 : M 91 249 = 1 * ρ 0 + 0 := hm (91, 249, [(1, 0)]) (by decide)
  have m15 : M 91 250 = 1 * ρ 5 + 0 := hm (91, 250, [(1, 5)]) (by decide)
  have m16 : M 91 251 = 1 * ρ 6 + 0 := hm (91, 251, [(1, 6)]) (by decide)
  have m17 : M 91 252 = 1 * ρ 7 + 0 := hm (91, 252, [(1, 7)]) (by decide)
  simp only [h0] at m1 m14
  have qxST := hI.2.2.2.2.2.2.2.2.2.2.2.2.2.2.2.2.2.2.2.2.2.2.2.2.2.2.2.2.2.2.2.2.2.2.2.2.2.2.1
  have qxSP := hI.2.2.2.2.2.2.2.2.2.2.2.2.2.2.2.2.2.2.2.2.2.2.2.2.2.2.2.2.2.2.2.2.2.2.2.2.2.2.2.1
  obtain ⟨g1, g2, g3, g4⟩ := gx_xSE hI (by omega)
  have tb : xop 1 (M 91 252) 255 = tBy (M 4 268) 14 := by
    unfold tBy
    rw [g1, show M 91 250 = M 4 268 by omega, show M 91 251 = 8 by omega]
    rfl

  have g257 := g4
  refine ⟨fun a => cond (Nat.blt a 11) (ρ a) (([xH (sU M 92 (1 * ρ 1 + 0).toNat (1 * ρ 2 + 0))] : List Int).getD (a - 11) 0), fun a ha => ?_, fun f h => ?_, ?_⟩
  · show cond (Nat.blt a 11) (ρ a) _ = ρ a
    rw [show Nat.blt a 11 = true from Nat.ble_eq_true_of_le ha]; rfl
  · exact nomatch h
  · show sI (sU (sU (sU M 92 (1 * ρ 1 + 0 : Int).toNat (1 * ρ 2 + 0)) 91 990 (1 * (xH (sU M 92 (1 * ρ 1 + 0).toNat (1 * ρ 2 + 0))) + 0)) 4 261 (1 * ρ 0 + (1 * ρ 3 + 0)))
    obtain ⟨W, hW⟩ : ∃ W, W = (sU (sU (sU M 92 (1 * ρ 1 + 0).toNat (1 * ρ 2 + 0)) 91 990 (1 * (xH (sU M 92 (1 * ρ 1 + 0).toNat (1 * ρ 2 + 0))) + 0)) 4 261 (1 * ρ 0 + (1 * ρ 3 + 0))) := ⟨_, rfl⟩
    rw [← hW]
    have base : sI0 W := by
      rw [hW]
      exact (si_u0 (si_u0 (si_u0 hI.1 (fun r hr => by rw [xt_92 hr]; exact ⟨by show (0 : Int) ≤ _; omega, by show _ ≤ (255 : Int); omega⟩)) (fun r hr => by cases hr)) (fun r hr => by cases hr))
    have k2 : XI2 W := by
      refine xi2_congr (fun o k hz ho => ?_) hI.2.1
      have h4 : ¬ (o = 4 ∧ k = 261) := fun z => by rw [z.1, z.2] at hz; exact absurd hz (by decide +kernel)
      rw [hW, sU_ne h4, sU_ne (fun z => by omega), sU_ne (fun z => by omega)]
    have k3 : XI3 W := by
      unfold XI3
      rw [hW]
      rw [sU_ne (fun z => by omega), sU_at]
      have e : ∀ o' k' x y, ¬ (o' = 91 ∧ k' = 990) → ¬ (o' = 4 ∧ k' = 261) → sU (sU (sU M 92 (1 * ρ 1 + 0).toNat (1 * ρ 2 + 0)) 91 990 x) 4 261 y o' k' = sU M 92 (1 * ρ 1 + 0).toNat (1 * ρ 2 + 0) o' k' := fun o' k' x y h h' => by rw [sU_ne h', sU_ne h]
      rw [show ∀ z : Int, 1 * z + 0 = z from fun z => by omega]
      unfold xH
      rw [e _ _ _ _ (by omega) (by omega), e _ _ _ _ (by omega) (by omega), e _ _ _ _ (by omega) (by omega)]
    have kXA : XA W := by
      rw [hW]
      exact (uXA rfl (uXA rfl (uXA (sinc_ok rfl _) hI.2.2.2.1)))
    have k_xN1 : xN1 W := by
      rw [hW]
      exact (uxN1 rfl (uxN1 rfl (uxN1 (sinc_ok rfl _) hI.2.2.2.2.1)))
    have k_xN2 : xN2 W := by
      rw [hW]
      exact (uxN2 rfl (uxN2 rfl (uxN2 (sinc_ok rfl _) hI.2.2.2.2.2.1)))
    have k_xN3 : xN3 W := by
      rw [hW]
      exact (uxN3 rfl (uxN3 rfl (uxN3 (sinc_ok rfl _) hI.2.2.2.2.2.2.1)))
    have k_xN4 : xN4 W := by
      rw [hW]
      exact (uxN4 rfl (uxN4 rfl (uxN4 (sinc_ok rfl _) hI.2.2.2.2.2.2.2.1)))
    have k_xN5 : xN5 W := by
      rw [hW]
      exact (uxN5 rfl (uxN5 rfl (uxN5 (sinc_ok rfl _) hI.2.2.2.2.2.2.2.2.1)))
    have k_xN6 : xN6 W := by
      rw [hW]
      exact (uxN6 rfl (uxN6 rfl (uxN6 (sinc_ok rfl _) hI.2.2.2.2.2.2.2.2.2.1)))
    have k_xH1 : xH1 W := by
      rw [hW]
      exact (uxH1 rfl (uxH1 rfl (uxH1 (sinc_ok rfl _) hI.2.2.2.2.2.2.2.2.2.2.1)))
    have k_xK1 : xK1 W := by
      rw [hW]
      exact (uxK1 rfl (uxK1 rfl (uxK1 (sinc_ok rfl _) hI.2.2.2.2.2.2.2.2.2.2.2.1)))
    have k_xC1 : xC1 W := by
      rw [hW]
      exact (uxC1 rfl (uxC1 rfl (uxC1 (sinc_ok rfl _) hI.2.2.2.2.2.2.2.2.2.2.2.2.1)))
    have k_xRW : xRW W := by
      rw [hW]
      exact (uxRW rfl (uxRW rfl (uxRW (sinc_ok rfl _) hI.2.2.2.2.2.2.2.2.2.2.2.2.2.1)))
    have k_xWT : xWT W := by
      rw [hW]
      exact (uxWT rfl (uxWT rfl (uxWT (sinc_ok rfl _) hI.2.2.2.2.2.2.2.2.2.2.2.2.2.2.1)))
    have k_xCU : xCU W := by
      rw [hW]
      exact (uxCU rfl (uxCU rfl (uxCU (sinc_ok rfl _) hI.2.2.2.2.2.2.2.2.2.2.2.2.2.2.2.1)))
    have k_xG2 : xG2 W := by
      rw [hW]
      exact (uxG2 rfl (uxG2 rfl (uxG2 (sinc_ok rfl _) hI.2.2.2.2.2.2.2.2.2.2.2.2.2.2.2.2.1)))
    have k_xG3 : xG3 W := by
      rw [hW]
      exact (uxG3 rfl (uxG3 rfl (uxG3 (sinc_ok rfl _) hI.2.2.2.2.2.2.2.2.2.2.2.2.2.2.2.2.2.1)))
    have k_xG4 : xG4 W := by
      rw [hW]
      exact (uxG4 rfl (uxG4 rfl (uxG4 (sinc_ok rfl _) hI.2.2.2.2.2.2.2.2.2.2.2.2.2.2.2.2.2.2.1)))
    have k_xG5 : xG5 W := by
      rw [hW]
      exact (uxG5 rfl (uxG5 rfl (uxG5 (sinc_ok rfl _) hI.2.2.2.2.2.2.2.2.2.2.2.2.2.2.2.2.2.2.2.1)))
    have k_xG6 : xG6 W := by
      rw [hW]
      exact (uxG6 rfl (uxG6 rfl (uxG6 (sinc_ok rfl _) hI.2.2.2.2.2.2.2.2.2.2.2.2.2.2.2.2.2.2.2.2.1)))
    have k_xS1 : xS1 W := by
      have r : W 4 100 = 0 := by
        have e := m6
        rw [hW, sU_ne (fun z => by omega), sU_ne (fun z => by omega), sU_ne (fun z => by omega)]
        omega
      intro h
      rw [r] at h
      exact absurd rfl h
    have k_xS2 : xS2 W := by
      have r : W 4 100 = 0 := by
        have e := m6
        rw [hW, sU_ne (fun z => by omega), sU_ne (fun z => by omega), sU_ne (fun z => by omega)]
        omega
      intro h
      rw [r] at h
      exact absurd rfl h
    have k_xS3 : xS3 W := by
      have r : W 4 100 = 0 := by
        have e := m6
        rw [hW, sU_ne (fun z => by omega), sU_ne (fun z => by omega), sU_ne (fun z => by omega)]
        omega
      intro h
      rw [r] at h
      exact absurd rfl h
    have k_xS4 : xS4 W := by
      rw [hW]
      exact (uxS4 rfl (uxS4 rfl (uxS4 (sinc_ok rfl _) hI.2.2.2.2.2.2.2.2.2.2.2.2.2.2.2.2.2.2.2.2.2.2.2.2.1)))
    have k_xS5 : xS5 W := by
      rw [hW]
      exact (uxS5 rfl (uxS5 rfl (uxS5 (sinc_ok rfl _) hI.2.2.2.2.2.2.2.2.2.2.2.2.2.2.2.2.2.2.2.2.2.2.2.2.2.1)))
    have k_xS6 : xS6 W := by
      rw [hW]
      exact (uxS6 rfl (uxS6 rfl (uxS6 (sinc_ok rfl _) hI.2.2.2.2.2.2.2.2.2.2.2.2.2.2.2.2.2.2.2.2.2.2.2.2.2.2.1)))
    have k_xS7 : xS7 W := by
      have r : W 4 200 = 0 := by
        have e := m7
        rw [hW, sU_ne (fun z => by omega), sU_ne (fun z => by omega), sU_ne (fun z => by omega)]
        omega
      intro h
      rw [r] at h
      omega
    have k_xS8 : xS8 W := by
      have r : W 4 210 = 0 := by
        have e := m8
        rw [hW, sU_ne (fun z => by omega), sU_ne (fun z => by omega), sU_ne (fun z => by omega)]
        omega
      intro h
      rw [r] at h
      omega
    have k_xS9 : xS9 W := by
      have r : W 4 212 = 0 := by
        have e := m9
        rw [hW, sU_ne (fun z => by omega), sU_ne (fun z => by omega), sU_ne (fun z => by omega)]
        omega
      intro h
      rw [r] at h
      omega
    have k_xSA : xSA W := by
      have r : W 4 214 = 0 := by
        have e := m10
        rw [hW, sU_ne (fun z => by omega), sU_ne (fun z => by omega), sU_ne (fun z => by omega)]
        omega
      intro h
      rw [r] at h
      omega
    have k_xSG : xSG W := by
      have r : W 4 235 = 0 := by
        have e := m13
        rw [hW, sU_ne (fun z => by omega), sU_ne (fun z => by omega), sU_ne (fun z => by omega)]
        omega
      intro h
      rw [r] at h
      omega
    have k_xSF : xSF W := by
      have r : W 4 233 = 0 := by
        have e := m12
        rw [hW, sU_ne (fun z => by omega), sU_ne (fun z => by omega), sU_ne (fun z => by omega)]
        omega
      intro h
      rw [r] at h
      omega
    have k_xSB : xSB W := by
      have r : W 4 220 = 0 := by
        have e := m11
        rw [hW, sU_ne (fun z => by omega), sU_ne (fun z => by omega), sU_ne (fun z => by omega)]
        omega
      intro h
      rw [r] at h
      omega
    have k_xSC : xSC W := by
      rw [hW]
      exact (uxSC rfl (uxSC rfl (uxSC (sinc_ok rfl _) hI.2.2.2.2.2.2.2.2.2.2.2.2.2.2.2.2.2.2.2.2.2.2.2.2.2.2.2.2.2.2.2.2.2.2.1)))
    have k_xSD : xSD W := by
      rw [hW]
      exact (uxSD rfl (uxSD rfl (uxSD (sinc_ok rfl _) hI.2.2.2.2.2.2.2.2.2.2.2.2.2.2.2.2.2.2.2.2.2.2.2.2.2.2.2.2.2.2.2.2.2.2.2.1)))
    have k_xSE : xSE W := by
      rw [hW]
      exact (uxSE rfl (uxSE rfl (uxSE (sinc_ok rfl _) hI.2.2.2.2.2.2.2.2.2.2.2.2.2.2.2.2.2.2.2.2.2.2.2.2.2.2.2.2.2.2.2.2.2.2.2.2.1)))
    have k_xSW : xSW W := by
      rw [hW]
      exact (uxSW rfl (uxSW rfl (uxSW (sinc_ok rfl _) hI.2.2.2.2.2.2.2.2.2.2.2.2.2.2.2.2.2.2.2.2.2.2.2.2.2.2.2.2.2.2.2.2.2.2.2.2.2.1)))
    have k_xST : xST W := by
      have r4_261 : W 4 261 = 1 * ρ 0 + (1 * ρ 3 + 0) := by rw [hW, sU_at]
      have c1 : ∀ k, W 1 k = M 1 k := fun k => by rw [hW, sU_ne (fun z => by omega), sU_ne (fun z => by omega), sU_ne (fun z => by omega)]
      have e1 : W 1 = M 1 := funext c1
      have c92 : ∀ k : Nat, k ≠ (1 * ρ 1 + 0).toNat → W 92 k = M 92 k := fun k hk => by rw [hW, sU_ne (fun z => by omega), sU_ne (fun z => by omega), sU_ne (fun z => by omega)]
      have a92 : W 92 (1 * ρ 1 + 0).toNat = 1 * ρ 2 + 0 := by rw [hW, sU_ne (fun z => by omega), sU_ne (fun z => by omega), sU_at]
      intro i hi
      rw [r4_261, h0] at hi
      rw [e1]
      by_cases hx : i = (1 * ρ 1 + 0).toNat
      · rw [hx, a92]
        obtain ⟨p1, p2, p3⟩ := gx_xSP hI
        have := p2 14 (by omega) (by omega)
        rw [show (M 4 263).toNat + 14 = (1 * ρ 1 + 0).toNat by omega] at this
        have this : M 1 (1 * ρ 1 + 0).toNat = tSn (tBy (M 4 268) 14) := this
        rw [this, ← tb]
        congr 1
        omega
      · rw [c92 i hx]
        exact qxST i (by omega)
    have k_xSP : xSP W := by
      have r4_262 : W 4 262 = M 4 262 := by rw [hW, sU_ne (fun z => by omega), sU_ne (fun z => by omega), sU_ne (fun z => by omega)]
      have r4_263 : W 4 263 = M 4 263 := by rw [hW, sU_ne (fun z => by omega), sU_ne (fun z => by omega), sU_ne (fun z => by omega)]
      have r4_264 : W 4 264 = M 4 264 := by rw [hW, sU_ne (fun z => by omega), sU_ne (fun z => by omega), sU_ne (fun z => by omega)]
      have r4_265 : W 4 265 = M 4 265 := by rw [hW, sU_ne (fun z => by omega), sU_ne (fun z => by omega), sU_ne (fun z => by omega)]
      have r4_266 : W 4 266 = M 4 266 := by rw [hW, sU_ne (fun z => by omega), sU_ne (fun z => by omega), sU_ne (fun z => by omega)]
      have r4_267 : W 4 267 = M 4 267 := by rw [hW, sU_ne (fun z => by omega), sU_ne (fun z => by omega), sU_ne (fun z => by omega)]
      have r4_268 : W 4 268 = M 4 268 := by rw [hW, sU_ne (fun z => by omega), sU_ne (fun z => by omega), sU_ne (fun z => by omega)]
      have r4_269 : W 4 269 = M 4 269 := by rw [hW, sU_ne (fun z => by omega), sU_ne (fun z => by omega), sU_ne (fun z => by omega)]
      have c1 : ∀ k, W 1 k = M 1 k := fun k => by rw [hW, sU_ne (fun z => by omega), sU_ne (fun z => by omega), sU_ne (fun z => by omega)]
      have e1 : W 1 = M 1 := funext c1
      have c92 : ∀ k : Nat, k ≠ (1 * ρ 1 + 0).toNat → W 92 k = M 92 k := fun k hk => by rw [hW, sU_ne (fun z => by omega), sU_ne (fun z => by omega), sU_ne (fun z => by omega)]
      have a92 : W 92 (1 * ρ 1 + 0).toNat = 1 * ρ 2 + 0 := by rw [hW, sU_ne (fun z => by omega), sU_ne (fun z => by omega), sU_at]
      unfold xSP
      rw [r4_262, r4_263, r4_264, e1]
      obtain ⟨p1, p2, p3⟩ := gx_xSP hI
      refine ⟨p1, fun q hq hl => ?_, fun q hq hl => by omega⟩
      have e4 : ∀ x, x ≠ 261 → W 4 x = M 4 x := fun x hx => by rw [hW, sU_ne (fun z => by omega), sU_ne (fun z => by omega), sU_ne (fun z => by omega)]
      rw [e4 _ (by omega)]
      exact p2 q hq hl
    have k_xSL : xSL W := by
      rw [hW]
      exact (uxSL rfl (uxSL rfl (uxSL (sinc_ok rfl _) hI.2.2.2.2.2.2.2.2.2.2.2.2.2.2.2.2.2.2.2.2.2.2.2.2.2.2.2.2.2.2.2.2.2.2.2.2.2.2.2.2.1)))
    have k_xSM : xSM W := by
      rw [hW]
      exact (uxSM rfl (uxSM rfl (uxSM (sinc_ok rfl _) hI.2.2.2.2.2.2.2.2.2.2.2.2.2.2.2.2.2.2.2.2.2.2.2.2.2.2.2.2.2.2.2.2.2.2.2.2.2.2.2.2.2.1)))
    have k_xSI : xSI W := by
      rw [hW]
      exact (uxSI rfl (uxSI rfl (uxSI (sinc_ok rfl _) hI.2.2.2.2.2.2.2.2.2.2.2.2.2.2.2.2.2.2.2.2.2.2.2.2.2.2.2.2.2.2.2.2.2.2.2.2.2.2.2.2.2.2)))
    have k_XC : XC W := ⟨k_xS1, k_xS2, k_xS3, k_xS4, k_xS5, k_xS6, k_xS7, k_xS8, k_xS9, k_xSA, k_xSG, k_xSF, k_xSB, k_xSC, k_xSD, k_xSE, k_xSW, k_xST, k_xSP, k_xSL, k_xSM, k_xSI⟩
    have kXB : XB W := ⟨k_xN1, k_xN2, k_xN3, k_xN4, k_xN5, k_xN6, k_xH1, k_xK1, k_xC1, k_xRW, k_xWT, k_xCU, k_xG2, k_xG3, k_xG4, k_xG5, k_xG6, k_XC⟩
    exact ⟨base, k2, k3, kXA, kXB⟩
-- fdC15
def xr_636 : qRu := (11, [[(-15, 0), (1, 1), (-1, 4)], [(15, 0), (-1, 1), (1, 4)], [(1, 1), (-1, 3)], [(1, 4)], [(699, 0), (-1, 1)], [(1, 1)], [(1, 6)], [(-1, 6)], [(1, 5), (-1, 8)], [(-1, 5), (1, 8)], [(-1, 2), (1, 9)], [(1, 2), (-1, 9)], [(-1, 7), (1, 10)], [(1, 7), (-1, 10)], [(128, 0), (1, 2)], [(127, 0), (-1, 2)]], [(4, 100, []), (4, 261, [(1, 3)]), (4, 262, [(15, 0)]), (4, 263, [(1, 4)]), (4, 268, [(1, 8)]), (91, 259, [(1, 0)]), (91, 248, [(1, 10)]), (91, 258, [(1, 9)]), (91, 249, [(1, 0)]), (91, 250, [(1, 5)]), (91, 251, [(1, 6)]), (91, 252, [(1, 7)])], [(1, [(1, 1)], [(1, 2)])], [(4, 262, [(16, 0)])], [])
theorem xo_636 : qRok xr_636 := by
  intro ρ M h0 hf hm hI
  have f0 := hf [(-15, 0), (1, 1), (-1, 4)] (by decide)
  have f1 := hf [(15, 0), (-1, 1), (1, 4)] (by decide)
  have f2 := hf [(1, 1), (-1, 3)] (by decide)
  have f3 := hf [(1, 4)] (by decide)
  have f4 := hf [(699, 0), (-1, 1)] (by decide)
  have f5 := hf [(1, 1)] (by decide)
  have f6 := hf [(1, 6)] (by decide)
  have f7 := hf [(-1, 6)] (by decide)
  have f8 := hf [(1, 5), (-1, 8)] (by decide)
  have f9 := hf [(-1, 5), (1, 8)] (by decide)
  have f10 := hf [(-1, 2), (1, 9)] (by decide)
  have f11 := hf [(1, 2), (-1, 9)] (by decide)
  have f12 := hf [(-1, 7), (1, 10)] (by decide)
  have f13 := hf [(1, 7), (-1, 10)] (by decide)
  have f14 := hf [(128, 0), (1, 2)] (by decide)
  have f15 := hf [(127, 0), (-1, 2)] (by decide)
  simp only [qD, h0] at f0 f1 f2 f3 f4 f5 f6 f7 f8 f9 f10 f11 f12 f13 f14 f15
  have m0 : M 4 100 = 0 := hm (4, 100, []) (by decide)
  have m1 : M 4 261 = 1 * ρ 3 + 0 := hm (4, 261, [(1, 3)]) (by decide)
  have m2 : M 4 262 = 15 * ρ 0 + 0 := hm (4, 262, [(15, 0)]) (by decide)
  have m3 : M 4 263 = 1 * ρ 4 + 0 := hm (4, 263, [(1, 4)]) (by decide)
  have m4 : M 4 268 = 1 * ρ 8 + 0 := hm (4, 268, [(1, 8)]) (by decide)
  have m5 : M 91 259 = 1 * ρ 0 + 0 := hm (91, 259, [(1, 0)]) (by decide)
  have m6 : M 91 248 = 1 * ρ 10 + 0 := hm (91, 248, [(1, 10)]) (by decide)
  have m7 : M 91 258 = 1 * ρ 9 + 0 := hm (91, 258, [(1, 9)]) (by decide)
  have m8 : M 91 249 = 1 * ρ 0 + 0 := hm (91, 249, [(1, 0)]) (by decide)
  have m9 : M 91 250 = 1 * ρ 5 + 0 := hm (91, 250, [(1, 5)]) (by decide)
  have m10 : M 91 251 = 1 * ρ 6 + 0 := hm (91, 251, [(1, 6)]) (by decide)
  have m11 : M 91 252 = 1 * ρ 7 + 0 := hm (91, 252, [(1, 7)]) (by decide)
  simp only [h0] at m2 m5 m8
  have qxST := hI.2.2.2.2.2.2.2.2.2.2.2.2.2.2.2.2.2.2.2.2.2.2.2.2.2.2.2.2.2.2.2.2.2.2.2.2.2.2.1
  have qxSP := hI.2.2.2.2.2.2.2.2.2.2.2.2.2.2.2.2.2.2.2.2.2.2.2.2.2.2.2.2.2.2.2.2.2.2.2.2.2.2.2.1
  obtain ⟨g1, g2, g3, g4⟩ := gx_xSE hI (by omega)
  have tb : xop 1 (M 91 252) 255 = tBy (M 4 268) 15 := by
    unfold tBy
    rw [g1, show M 91 250 = M 4 268 by omega, show M 91 251 = 0 by omega]
    rfl

  have gi := gx_xSI hI (by omega)
  rw [show M 91 248 = M 91 252 by omega] at gi
  refine ⟨ρ, fun _ _ => rfl, fun f h => ?_, ?_⟩
  · exact nomatch h
  · show sI (sU (sU M 1 (1 * ρ 1 + 0 : Int).toNat (1 * ρ 2 + 0)) 4 262 (16 * ρ 0 + 0))
    obtain ⟨W, hW⟩ : ∃ W, W = (sU (sU M 1 (1 * ρ 1 + 0).toNat (1 * ρ 2 + 0)) 4 262 (16 * ρ 0 + 0)) := ⟨_, rfl⟩
    rw [← hW]
    have base : sI0 W := by
      rw [hW]
      exact (si_u0 (si_u0 hI.1 (fun r hr => by rw [xt_1 hr]; exact ⟨by show (-128 : Int) ≤ _; omega, by show _ ≤ (127 : Int); omega⟩)) (fun r hr => by cases hr))
    have k2 : XI2 W := by
      rw [hW]
      exact (xi2_u rfl (xi2_u (sinc_ok rfl _) hI.2.1))
    have k3 : XI3 W := by
      rw [hW]
      exact (xi3_u rfl (xi3_u (sinc_ok rfl _) hI.2.2.1))
    have kXA : XA W := by
      rw [hW]
      exact (uXA rfl (uXA (sinc_ok rfl _) hI.2.2.2.1))
    have k_xN1 : xN1 W := by
      rw [hW]
      exact (uxN1 rfl (uxN1 (sinc_ok rfl _) hI.2.2.2.2.1))
    have k_xN2 : xN2 W := by
      rw [hW]
      exact (uxN2 rfl (uxN2 (sinc_ok rfl _) hI.2.2.2.2.2.1))
    have k_xN3 : xN3 W := by
      rw [hW]
      exact (uxN3 rfl (uxN3 (sinc_ok rfl _) hI.2.2.2.2.2.2.1))
    have k_xN4 : xN4 W := by
      rw [hW]
      exact (uxN4 rfl (uxN4 (sinc_ok rfl _) hI.2.2.2.2.2.2.2.1))
    have k_xN5 : xN5 W := by
      rw [hW]
      exact (uxN5 rfl (uxN5 (sinc_ok rfl _) hI.2.2.2.2.2.2.2.2.1))
    have k_xN6 : xN6 W := by
      rw [hW]
      exact (uxN6 rfl (uxN6 (sinc_ok rfl _) hI.2.2.2.2.2.2.2.2.2.1))
    have k_xH1 : xH1 W := by
      rw [hW]
      exact (uxH1 rfl (uxH1 (sinc_ok rfl _) hI.2.2.2.2.2.2.2.2.2.2.1))
    have k_xK1 : xK1 W := by
      rw [hW]
      exact (uxK1 rfl (uxK1 (sinc_ok rfl _) hI.2.2.2.2.2.2.2.2.2.2.2.1))
    have k_xC1 : xC1 W := by
      rw [hW]
      exact (uxC1 rfl (uxC1 (sinc_ok rfl _) hI.2.2.2.2.2.2.2.2.2.2.2.2.1))
    have k_xRW : xRW W := by
      rw [hW]
      exact (uxRW rfl (uxRW (sinc_ok rfl _) hI.2.2.2.2.2.2.2.2.2.2.2.2.2.1))
    have k_xWT : xWT W := by
      rw [hW]
      exact (uxWT rfl (uxWT (sinc_ok rfl _) hI.2.2.2.2.2.2.2.2.2.2.2.2.2.2.1))
    have k_xCU : xCU W := by
      rw [hW]
      exact (uxCU rfl (uxCU (sinc_ok rfl _) hI.2.2.2.2.2.2.2.2.2.2.2.2.2.2.2.1))
    have k_xG2 : xG2 W := by
      rw [hW]
      exact (uxG2 rfl (uxG2 (sinc_ok rfl _) hI.2.2.2.2.2.2.2.2.2.2.2.2.2.2.2.2.1))
    have k_xG3 : xG3 W := by
      rw [hW]
      exact (uxG3 rfl (uxG3 (sinc_ok rfl _) hI.2.2.2.2.2.2.2.2.2.2.2.2.2.2.2.2.2.1))
    have k_xG4 : xG4 W := by
      rw [hW]
      exact (uxG4 rfl (uxG4 (sinc_ok rfl _) hI.2.2.2.2.2.2.2.2.2.2.2.2.2.2.2.2.2.2.1))
    have k_xG5 : xG5 W := by
      rw [hW]
      exact (uxG5 rfl (uxG5 (sinc_ok rfl _) hI.2.2.2.2.2.2.2.2.2.2.2.2.2.2.2.2.2.2.2.1))
    have k_xG6 : xG6 W := by
      rw [hW]
      exact (uxG6 rfl (uxG6 (sinc_ok rfl _) hI.2.2.2.2.2.2.2.2.2.2.2.2.2.2.2.2.2.2.2.2.1))
    have k_xS1 : xS1 W := by
      have r : W 4 100 = 0 := by
        have e := m0
        rw [hW, sU_ne (fun z => by omega), sU_ne (fun z => by omega)]
        omega
      intro h
      rw [r] at h
      exact absurd rfl h
    have k_xS2 : xS2 W := by
      rw [hW]
      exact (uxS2 rfl (uxS2 (sinc_ok rfl _) hI.2.2.2.2.2.2.2.2.2.2.2.2.2.2.2.2.2.2.2.2.2.2.1))
    have k_xS3 : xS3 W := by
      rw [hW]
      exact (uxS3 rfl (uxS3 (sinc_ok rfl _) hI.2.2.2.2.2.2.2.2.2.2.2.2.2.2.2.2.2.2.2.2.2.2.2.1))
    have k_xS4 : xS4 W := by
      rw [hW]
      exact (uxS4 rfl (uxS4 (sinc_ok rfl _) hI.2.2.2.2.2.2.2.2.2.2.2.2.2.2.2.2.2.2.2.2.2.2.2.2.1))
    have k_xS5 : xS5 W := by
      rw [hW]
      exact (uxS5 rfl (uxS5 (sinc_ok rfl _) hI.2.2.2.2.2.2.2.2.2.2.2.2.2.2.2.2.2.2.2.2.2.2.2.2.2.1))
    have k_xS6 : xS6 W := by
      rw [hW]
      exact (uxS6 rfl (uxS6 (sinc_ok rfl _) hI.2.2.2.2.2.2.2.2.2.2.2.2.2.2.2.2.2.2.2.2.2.2.2.2.2.2.1))
    have k_xS7 : xS7 W := by
      rw [hW]
      exact (uxS7 rfl (uxS7 (sinc_ok rfl _) hI.2.2.2.2.2.2.2.2.2.2.2.2.2.2.2.2.2.2.2.2.2.2.2.2.2.2.2.1))
    have k_xS8 : xS8 W := by
      rw [hW]
      exact (uxS8 rfl (uxS8 (sinc_ok rfl _) hI.2.2.2.2.2.2.2.2.2.2.2.2.2.2.2.2.2.2.2.2.2.2.2.2.2.2.2.2.1))
    have k_xS9 : xS9 W := by
      rw [hW]
      exact (uxS9 rfl (uxS9 (sinc_ok rfl _) hI.2.2.2.2.2.2.2.2.2.2.2.2.2.2.2.2.2.2.2.2.2.2.2.2.2.2.2.2.2.1))
    have k_xSA : xSA W := by
      rw [hW]
      exact (uxSA rfl (uxSA (sinc_ok rfl _) hI.2.2.2.2.2.2.2.2.2.2.2.2.2.2.2.2.2.2.2.2.2.2.2.2.2.2.2.2.2.2.1))
    have k_xSG : xSG W := by
      rw [hW]
      exact (uxSG rfl (uxSG (sinc_ok rfl _) hI.2.2.2.2.2.2.2.2.2.2.2.2.2.2.2.2.2.2.2.2.2.2.2.2.2.2.2.2.2.2.2.1))
    have k_xSF : xSF W := by
      rw [hW]
      exact (uxSF rfl (uxSF (sinc_ok rfl _) hI.2.2.2.2.2.2.2.2.2.2.2.2.2.2.2.2.2.2.2.2.2.2.2.2.2.2.2.2.2.2.2.2.1))
    have k_xSB : xSB W := by
      rw [hW]
      exact (uxSB rfl (uxSB (sinc_ok rfl _) hI.2.2.2.2.2.2.2.2.2.2.2.2.2.2.2.2.2.2.2.2.2.2.2.2.2.2.2.2.2.2.2.2.2.1))
    have k_xSC : xSC W := by
      rw [hW]
      exact (uxSC rfl (uxSC (sinc_ok rfl _) hI.2.2.2.2.2.2.2.2.2.2.2.2.2.2.2.2.2.2.2.2.2.2.2.2.2.2.2.2.2.2.2.2.2.2.1))
    have k_xSD : xSD W := by
      rw [hW]
      exact (uxSD rfl (uxSD (sinc_ok rfl _) hI.2.2.2.2.2.2.2.2.2.2.2.2.2.2.2.2.2.2.2.2.2.2.2.2.2.2.2.2.2.2.2.2.2.2.2.1))
    have k_xSE : xSE W := by
      rw [hW]
      exact (uxSE rfl (uxSE (sinc_ok rfl _) hI.2.2.2.2.2.2.2.2.2.2.2.2.2.2.2.2.2.2.2.2.2.2.2.2.2.2.2.2.2.2.2.2.2.2.2.2.1))
    have k_xSW : xSW W := by
      rw [hW]
      exact (uxSW rfl (uxSW (sinc_ok rfl _) hI.2.2.2.2.2.2.2.2.2.2.2.2.2.2.2.2.2.2.2.2.2.2.2.2.2.2.2.2.2.2.2.2.2.2.2.2.2.1))
    have k_xST : xST W := by
      have r4_261 : W 4 261 = M 4 261 := by rw [hW, sU_ne (fun z => by omega), sU_ne (fun z => by omega)]
      have c1 : ∀ k : Nat, k ≠ (1 * ρ 1 + 0).toNat → W 1 k = M 1 k := fun k hk => by rw [hW, sU_ne (fun z => by omega), sU_ne (fun z => by omega)]
      have a1 : W 1 (1 * ρ 1 + 0).toNat = 1 * ρ 2 + 0 := by rw [hW, sU_ne (fun z => by omega), sU_at]
      have c92 : ∀ k, W 92 k = M 92 k := fun k => by rw [hW, sU_ne (fun z => by omega), sU_ne (fun z => by omega)]
      have e92 : W 92 = M 92 := funext c92
      intro i hi
      rw [r4_261] at hi
      rw [c1 i (by omega), e92]
      exact qxST i hi
    have k_xSP : xSP W := by
      have r4_262 : W 4 262 = 16 * ρ 0 + 0 := by rw [hW, sU_at]
      have r4_263 : W 4 263 = M 4 263 := by rw [hW, sU_ne (fun z => by omega), sU_ne (fun z => by omega)]
      have r4_264 : W 4 264 = M 4 264 := by rw [hW, sU_ne (fun z => by omega), sU_ne (fun z => by omega)]
      have r4_265 : W 4 265 = M 4 265 := by rw [hW, sU_ne (fun z => by omega), sU_ne (fun z => by omega)]
      have r4_266 : W 4 266 = M 4 266 := by rw [hW, sU_ne (fun z => by omega), sU_ne (fun z => by omega)]
      have r4_267 : W 4 267 = M 4 267 := by rw [hW, sU_ne (fun z => by omega), sU_ne (fun z => by omega)]
      have r4_268 : W 4 268 = M 4 268 := by rw [hW, sU_ne (fun z => by omega), sU_ne (fun z => by omega)]
      have r4_269 : W 4 269 = M 4 269 := by rw [hW, sU_ne (fun z => by omega), sU_ne (fun z => by omega)]
      have c1 : ∀ k : Nat, k ≠ (1 * ρ 1 + 0).toNat → W 1 k = M 1 k := fun k hk => by rw [hW, sU_ne (fun z => by omega), sU_ne (fun z => by omega)]
      have a1 : W 1 (1 * ρ 1 + 0).toNat = 1 * ρ 2 + 0 := by rw [hW, sU_ne (fun z => by omega), sU_at]
      have c92 : ∀ k, W 92 k = M 92 k := fun k => by rw [hW, sU_ne (fun z => by omega), sU_ne (fun z => by omega)]
      have e92 : W 92 = M 92 := funext c92
      unfold xSP
      rw [r4_262, r4_263, r4_264, e92]
      obtain ⟨p1, p2, p3⟩ := qxSP
      have e4 : ∀ x, x ≠ 262 → W 4 x = M 4 x := fun x hx => by rw [hW, sU_ne (fun z => by omega), sU_ne (fun z => by omega)]
      refine ⟨p1, fun q hq hl => ?_, fun q hq hl => by rw [e4 _ (by omega)]; exact p3 q hq hl⟩
      rw [h0] at hl
      rw [e4 _ (by omega)]
      by_cases hj : q = 15
      · subst hj
        show W 1 ((M 4 263).toNat + 15) = tSn (tBy (M 4 268) 15)
        rw [show (M 4 263).toNat + 15 = (1 * ρ 1 + 0).toNat by omega, a1, ← tb]
        have := xi2b (M 91 252)
        omega
      · rw [c1 _ (by omega)]
        exact p2 q hq (by omega)
    have k_xSL : xSL W := by
      rw [hW]
      exact (uxSL rfl (uxSL (sinc_ok rfl _) hI.2.2.2.2.2.2.2.2.2.2.2.2.2.2.2.2.2.2.2.2.2.2.2.2.2.2.2.2.2.2.2.2.2.2.2.2.2.2.2.2.1))
    have k_xSM : xSM W := by
      rw [hW]
      exact (uxSM rfl (uxSM (sinc_ok rfl _) hI.2.2.2.2.2.2.2.2.2.2.2.2.2.2.2.2.2.2.2.2.2.2.2.2.2.2.2.2.2.2.2.2.2.2.2.2.2.2.2.2.2.1))
    have k_xSI : xSI W := by
      rw [hW]
      exact (uxSI rfl (uxSI (sinc_ok rfl _) hI.2.2.2.2.2.2.2.2.2.2.2.2.2.2.2.2.2.2.2.2.2.2.2.2.2.2.2.2.2.2.2.2.2.2.2.2.2.2.2.2.2.2))
    have k_XC : XC W := ⟨k_xS1, k_xS2, k_xS3, k_xS4, k_xS5, k_xS6, k_xS7, k_xS8, k_xS9, k_xSA, k_xSG, k_xSF, k_xSB, k_xSC, k_xSD, k_xSE, k_xSW, k_xST, k_xSP, k_xSL, k_xSM, k_xSI⟩
    have kXB : XB W := ⟨k_xN1, k_xN2, k_xN3, k_xN4, k_xN5, k_xN6, k_xH1, k_xK1, k_xC1, k_xRW, k_xWT, k_xCU, k_xG2, k_xG3, k_xG4, k_xG5, k_xG6, k_XC⟩
    exact ⟨base, k2, k3, kXA, kXB⟩
-- fdW15
def xr_637 : qRu := (11, [[(-15, 0), (1, 1), (-1, 4)], [(15, 0), (-1, 1), (1, 4)], [(1, 1), (-1, 3)], [(-1, 1), (1, 3)], [(1, 4)], [(699, 0), (-1, 1)], [(1, 1)], [(1, 6)], [(-1, 6)], [(1, 5), (-1, 8)], [(-1, 5), (1, 8)], [(-1, 2), (1, 9)], [(1, 2), (-1, 9)], [(1, 2)], [(255, 0), (-1, 2)]], [(4, 261, [(1, 3)]), (4, 262, [(20, 0)]), (4, 263, [(1, 4)]), (4, 264, []), (4, 268, [(1, 8)]), (91, 257, [(1, 9)]), (4, 100, []), (4, 200, []), (4, 210, []), (4, 212, []), (4, 214, []), (4, 220, []), (4, 233, []), (4, 235, []), (91, 249, [(1, 0)]), (91, 250, [(1, 5)]), (91, 251, [(1, 6)]), (91, 252, [(1, 7)])], [(92, [(1, 1)], [(1, 2)])], [(91, 990, [(1, 11)]), (4, 261, [(1, 0), (1, 3)])], [])
theorem xo_637 : qRok xr_637 := by
  intro ρ M h0 hf hm hI
  have f0 := hf [(-15, 0), (1, 1), (-1, 4)] (by decide)
  have f1 := hf [(15, 0), (-1, 1), (1, 4)] (by decide)
  have f2 := hf [(1, 1), (-1, 3)] (by decide)
  have f3 := hf [(-1, 1), (1, 3)] (by decide)
  have f4 := hf [(1, 4)] (by decide)
  have f5 := hf [(699, 0), (-1, 1)] (by decide)
  have f6 := hf [(1, 1)] (by decide)
  have f7 := hf [(1, 6)] (by decide)
  have f8 := hf [(-1, 6)] (by decide)
  have f9 := hf [(1, 5), (-1, 8)] (by decide)
  have f10 := hf [(-1, 5), (1, 8)] (by decide)
  have f11 := hf [(-1, 2), (1, 9)] (by decide)
  have f12 := hf [(1, 2), (-1, 9)] (by decide)
  have f13 := hf [(1, 2)] (by decide)
  have f14 := hf [(255, 0), (-1, 2)] (by decide)
  simp only [qD, h0] at f0 f1 f2 f3 f4 f5 f6 f7 f8 f9 f10 f11 f12 f13 f14
  have m0 : M 4 261 = 1 * ρ 3 + 0 := hm (4, 261, [(1, 3)]) (by decide)
  have m1 : M 4 262 = 20 * ρ 0 + 0 := hm (4, 262, [(20, 0)]) (by decide)
  have m2 : M 4 263 = 1 * ρ 4 + 0 := hm (4, 263, [(1, 4)]) (by decide)
  have m3 : M 4 264 = 0 := hm (4, 264, []) (by decide)
  have m4 : M 4 268 = 1 * ρ 8 + 0 := hm (4, 268, [(1, 8)]) (by decide)
  have m5 : M 91 257 = 1 * ρ 9 + 0 := hm (91, 257, [(1, 9)]) (by decide)
  have m6 : M 4 100 = 0 := hm (4, 100, []) (by decide)
  have m7 : M 4 200 = 0 := hm (4, 200, []) (by decide)
  have m8 : M 4 210 = 0 := hm (4, 210, []) (by decide)
  have m9 : M 4 212 = 0 := hm (4, 212, []) (by decide)
  have m10 : M 4 214 = 0 := hm (4, 214, []) (by decide)
  have m11 : M 4 220 = 0 := hm (4, 220, []) (by decide)
  have m12 : M 4 233 = 0 := hm (4, 233, []) (by decide)
  have m13 : M 4 235 = 0 := hm (4, 235, []) (by decide)
  have m14 : M 91 249 = 1 * ρ 0 + 0 := hm (91, 249, [(1, 0)]) (by decide)
  have m15 : M 91 250 = 1 * ρ 5 + 0 := hm (91, 250, [(1, 5)]) (by decide)
  have m16 : M 91 251 = 1 * ρ 6 + 0 := hm (91, 251, [(1, 6)]) (by decide)
  have m17 : M 91 252 = 1 * ρ 7 + 0 := hm (91, 252, [(1, 7)]) (by decide)
  simp only [h0] at m1 m14
  have qxST := hI.2.2.2.2.2.2.2.2.2.2.2.2.2.2.2.2.2.2.2.2.2.2.2.2.2.2.2.2.2.2.2.2.2.2.2.2.2.2.1
  have qxSP := hI.2.2.2.2.2.2.2.2.2.2.2.2.2.2.2.2.2.2.2.2.2.2.2.2.2.2.2.2.2.2.2.2.2.2.2.2.2.2.2.1
  obtain ⟨g1, g2, g3, g4⟩ := gx_xSE hI (by omega)
  have tb : xop 1 (M 91 252) 255 = tBy (M 4 268) 15 := by
    unfold tBy
    rw [g1, show M 91 250 = M 4 268 by omega, show M 91 251 = 0 by omega]
    rfl

  have g257 := g4
  refine ⟨fun a => cond (Nat.blt a 11) (ρ a) (([xH (sU M 92 (1 * ρ 1 + 0).toNat (1 * ρ 2 + 0))] : List Int).getD (a - 11) 0), fun a ha => ?_, fun f h => ?_, ?_⟩
  · show cond (Nat.blt a 11) (ρ a) _ = ρ a
    rw [show Nat.blt a 11 = true from Nat.ble_eq_true_of_le ha]; rfl
  · exact nomatch h
  · show sI (sU (sU (sU M 92 (1 * ρ 1 + 0 : Int).toNat (1 * ρ 2 + 0)) 91 990 (1 * (xH (sU M 92 (1 * ρ 1 + 0).toNat (1 * ρ 2 + 0))) + 0)) 4 261 (1 * ρ 0 + (1 * ρ 3 + 0)))
    obtain ⟨W, hW⟩ : ∃ W, W = (sU (sU (sU M 92 (1 * ρ 1 + 0).toNat (1 * ρ 2 + 0)) 91 990 (1 * (xH (sU M 92 (1 * ρ 1 + 0).toNat (1 * ρ 2 + 0))) + 0)) 4 261 (1 * ρ 0 + (1 * ρ 3 + 0))) := ⟨_, rfl⟩
    rw [← hW]
    have base : sI0 W := by
      rw [hW]
      exact (si_u0 (si_u0 (si_u0 hI.1 (fun r hr => by rw [xt_92 hr]; exact ⟨by show (0 : Int) ≤ _; omega, by show _ ≤ (255 : Int); omega⟩)) (fun r hr => by cases hr)) (fun r hr => by cases hr))
    have k2 : XI2 W := by
      refine xi2_congr (fun o k hz ho => ?_) hI.2.1
      have h4 : ¬ (o = 4 ∧ k = 261) := fun z => by rw [z.1, z.2] at hz; exact absurd hz (by decide +kernel)
      rw [hW, sU_ne h4, sU_ne (fun z => by omega), sU_ne (fun z => by omega)]
    have k3 : XI3 W := by
      unfold XI3
      rw [hW]
      rw [sU_ne (fun z => by omega), sU_at]
      have e : ∀ o' k' x y, ¬ (o' = 91 ∧ k' = 990) → ¬ (o' = 4 ∧ k' = 261) → sU (sU (sU M 92 (1 * ρ 1 + 0).toNat (1 * ρ 2 + 0)) 91 990 x) 4 261 y o' k' = sU M 92 (1 * ρ 1 + 0).toNat (1 * ρ 2 + 0) o' k' := fun o' k' x y h h' => by rw [sU_ne h', sU_ne h]
      rw [show ∀ z : Int, 1 * z + 0 = z from fun z => by omega]
      unfold xH
      rw [e _ _ _ _ (by omega) (by omega), e _ _ _ _ (by omega) (by omega), e _ _ _ _ (by omega) (by omega)]
    have kXA : XA W := by
      rw [hW]
      exact (uXA rfl (uXA rfl (uXA (sinc_ok rfl _) hI.2.2.2.1)))
    have k_xN1 : xN1 W := by
      rw [hW]
      exact (uxN1 rfl (uxN1 rfl (uxN1 (sinc_ok rfl _) hI.2.2.2.2.1)))
    have k_xN2 : xN2 W := by
      rw [hW]
      exact (uxN2 rfl (uxN2 rfl (uxN2 (sinc_ok rfl _) hI.2.2.2.2.2.1)))
    have k_xN3 : xN3 W := by
      rw [hW]
      exact (uxN3 rfl (uxN3 rfl (uxN3 (sinc_ok rfl _) hI.2.2.2.2.2.2.1)))
    have k_xN4 : xN4 W := by
      rw [hW]
      exact (uxN4 rfl (uxN4 rfl (uxN4 (sinc_ok rfl _) hI.2.2.2.2.2.2.2.1)))
    have k_xN5 : xN5 W := by
      rw [hW]
      exact (uxN5 rfl (uxN5 rfl (uxN5 (sinc_ok rfl _) hI.2.2.2.2.2.2.2.2.1)))
    have k_xN6 : xN6 W := by
      rw [hW]
      exact (uxN6 rfl (uxN6 rfl (uxN6 (sinc_ok rfl _) hI.2.2.2.2.2.2.2.2.2.1)))
    have k_xH1 : xH1 W := by
      rw [hW]
      exact (uxH1 rfl (uxH1 rfl (uxH1 (sinc_ok rfl _) hI.2.2.2.2.2.2.2.2.2.2.1)))
    have k_xK1 : xK1 W := by
      rw [hW]
      exact (uxK1 rfl (uxK1 rfl (uxK1 (sinc_ok rfl _) hI.2.2.2.2.2.2.2.2.2.2.2.1)))
    have k_xC1 : xC1 W := by
      rw [hW]
      exact (uxC1 rfl (uxC1 rfl (uxC1 (sinc_ok rfl _) hI.2.2.2.2.2.2.2.2.2.2.2.2.1)))
    have k_xRW : xRW W := by
      rw [hW]
      exact (uxRW rfl (uxRW rfl (uxRW (sinc_ok rfl _) hI.2.2.2.2.2.2.2.2.2.2.2.2.2.1)))
    have k_xWT : xWT W := by
      rw [hW]
      exact (uxWT rfl (uxWT rfl (uxWT (sinc_ok rfl _) hI.2.2.2.2.2.2.2.2.2.2.2.2.2.2.1)))
    have k_xCU : xCU W := by
      rw [hW]
      exact (uxCU rfl (uxCU rfl (uxCU (sinc_ok rfl _) hI.2.2.2.2.2.2.2.2.2.2.2.2.2.2.2.1)))
    have k_xG2 : xG2 W := by
      rw [hW]
      exact (uxG2 rfl (uxG2 rfl (uxG2 (sinc_ok rfl _) hI.2.2.2.2.2.2.2.2.2.2.2.2.2.2.2.2.1)))
    have k_xG3 : xG3 W := by
      rw [hW]
      exact (uxG3 rfl (uxG3 rfl (uxG3 (sinc_ok rfl _) hI.2.2.2.2.2.2.2.2.2.2.2.2.2.2.2.2.2.1)))
    have k_xG4 : xG4 W := by
      rw [hW]
      exact (uxG4 rfl (uxG4 rfl (uxG4 (sinc_ok rfl _) hI.2.2.2.2.2.2.2.2.2.2.2.2.2.2.2.2.2.2.1)))
    have k_xG5 : xG5 W := by
      rw [hW]
      exact (uxG5 rfl (uxG5 rfl (uxG5 (sinc_ok rfl _) hI.2.2.2.2.2.2.2.2.2.2.2.2.2.2.2.2.2.2.2.1)))
    have k_xG6 : xG6 W := by
      rw [hW]
      exact (uxG6 rfl (uxG6 rfl (uxG6 (sinc_ok rfl _) hI.2.2.2.2.2.2.2.2.2.2.2.2.2.2.2.2.2.2.2.2.1)))
    have k_xS1 : xS1 W := by
      have r : W 4 100 = 0 := by
        have e := m6
        rw [hW, sU_ne (fun z => by omega), sU_ne (fun z => by omega), sU_ne (fun z => by omega)]
        omega
      intro h
      rw [r] at h
      exact absurd rfl h
    have k_xS2 : xS2 W := by
      have r : W 4 100 = 0 := by
        have e := m6
        rw [hW, sU_ne (fun z => by omega), sU_ne (fun z => by omega), sU_ne (fun z => by omega)]
        omega
      intro h
      rw [r] at h
      exact absurd rfl h
    have k_xS3 : xS3 W := by
      have r : W 4 100 = 0 := by
        have e := m6
        rw [hW, sU_ne (fun z => by omega), sU_ne (fun z => by omega), sU_ne (fun z => by omega)]
        omega
      intro h
      rw [r] at h
      exact absurd rfl h
    have k_xS4 : xS4 W := by
      rw [hW]
      exact (uxS4 rfl (uxS4 rfl (uxS4 (sinc_ok rfl _) hI.2.2.2.2.2.2.2.2.2.2.2.2.2.2.2.2.2.2.2.2.2.2.2.2.1)))
    have k_xS5 : xS5 W := by
      rw [hW]
      exact (uxS5 rfl (uxS5 rfl (uxS5 (sinc_ok rfl _) hI.2.2.2.2.2.2.2.2.2.2.2.2.2.2.2.2.2.2.2.2.2.2.2.2.2.1)))
    have k_xS6 : xS6 W := by
      rw [hW]
      exact (uxS6 rfl (uxS6 rfl (uxS6 (sinc_ok rfl _) hI.2.2.2.2.2.2.2.2.2.2.2.2.2.2.2.2.2.2.2.2.2.2.2.2.2.2.1)))
    have k_xS7 : xS7 W := by
      have r : W 4 200 = 0 := by
        have e := m7
        rw [hW, sU_ne (fun z => by omega), sU_ne (fun z => by omega), sU_ne (fun z => by omega)]
        omega
      intro h
      rw [r] at h
      omega
    have k_xS8 : xS8 W := by
      have r : W 4 210 = 0 := by
        have e := m8
        rw [hW, sU_ne (fun z => by omega), sU_ne (fun z => by omega), sU_ne (fun z => by omega)]
        omega
      intro h
      rw [r] at h
      omega
    have k_xS9 : xS9 W := by
      have r : W 4 212 = 0 := by
        have e := m9
        rw [hW, sU_ne (fun z => by omega), sU_ne (fun z => by omega), sU_ne (fun z => by omega)]
        omega
      intro h
      rw [r] at h
      omega
    have k_xSA : xSA W := by
      have r : W 4 214 = 0 := by
        have e := m10
        rw [hW, sU_ne (fun z => by omega), sU_ne (fun z => by omega), sU_ne (fun z => by omega)]
        omega
      intro h
      rw [r] at h
      omega
    have k_xSG : xSG W := by
      have r : W 4 235 = 0 := by
        have e := m13
        rw [hW, sU_ne (fun z => by omega), sU_ne (fun z => by omega), sU_ne (fun z => by omega)]
        omega
      intro h
      rw [r] at h
      omega
    have k_xSF : xSF W := by
      have r : W 4 233 = 0 := by
        have e := m12
        rw [hW, sU_ne (fun z => by omega), sU_ne (fun z => by omega), sU_ne (fun z => by omega)]
        omega
      intro h
      rw [r] at h
      omega
    have k_xSB : xSB W := by
      have r : W 4 220 = 0 := by
        have e := m11
        rw [hW, sU_ne (fun z => by omega), sU_ne (fun z => by omega), sU_ne (fun z => by omega)]
        omega
      intro h
      rw [r] at h
      omega
    have k_xSC : xSC W := by
      rw [hW]
      exact (uxSC rfl (uxSC rfl (uxSC (sinc_ok rfl _) hI.2.2.2.2.2.2.2.2.2.2.2.2.2.2.2.2.2.2.2.2.2.2.2.2.2.2.2.2.2.2.2.2.2.2.1)))
    have k_xSD : xSD W := by
      rw [hW]
      exact (uxSD rfl (uxSD rfl (uxSD (sinc_ok rfl _) hI.2.2.2.2.2.2.2.2.2.2.2.2.2.2.2.2.2.2.2.2.2.2.2.2.2.2.2.2.2.2.2.2.2.2.2.1)))
    have k_xSE : xSE W := by
      rw [hW]
      exact (uxSE rfl (uxSE rfl (uxSE (sinc_ok rfl _) hI.2.2.2.2.2.2.2.2.2.2.2.2.2.2.2.2.2.2.2.2.2.2.2.2.2.2.2.2.2.2.2.2.2.2.2.2.1)))
    have k_xSW : xSW W := by
      rw [hW]
      exact (uxSW rfl (uxSW rfl (uxSW (sinc_ok rfl _) hI.2.2.2.2.2.2.2.2.2.2.2.2.2.2.2.2.2.2.2.2.2.2.2.2.2.2.2.2.2.2.2.2.2.2.2.2.2.1)))
    have k_xST : xST W := by
      have r4_261 : W 4 261 = 1 * ρ 0 + (1 * ρ 3 + 0) := by rw [hW, sU_at]
      have c1 : ∀ k, W 1 k = M 1 k := fun k => by rw [hW, sU_ne (fun z => by omega), sU_ne (fun z => by omega), sU_ne (fun z => by omega)]
      have e1 : W 1 = M 1 := funext c1
      have c92 : ∀ k : Nat, k ≠ (1 * ρ 1 + 0).toNat → W 92 k = M 92 k := fun k hk => by rw [hW, sU_ne (fun z => by omega), sU_ne (fun z => by omega), sU_ne (fun z => by omega)]
      have a92 : W 92 (1 * ρ 1 + 0).toNat = 1 * ρ 2 + 0 := by rw [hW, sU_ne (fun z => by omega), sU_ne (fun z => by omega), sU_at]
      intro i hi
      rw [r4_261, h0] at hi
      rw [e1]
      by_cases hx : i = (1 * ρ 1 + 0).toNat
      · rw [hx, a92]
        obtain ⟨p1, p2, p3⟩ := gx_xSP hI
        have := p2 15 (by omega) (by omega)
        rw [show (M 4 263).toNat + 15 = (1 * ρ 1 + 0).toNat by omega] at this
        have this : M 1 (1 * ρ 1 + 0).toNat = tSn (tBy (M 4 268) 15) := this
        rw [this, ← tb]
        congr 1
        omega
      · rw [c92 i hx]
        exact qxST i (by omega)
    have k_xSP : xSP W := by
      have r4_262 : W 4 262 = M 4 262 := by rw [hW, sU_ne (fun z => by omega), sU_ne (fun z => by omega), sU_ne (fun z => by omega)]
      have r4_263 : W 4 263 = M 4 263 := by rw [hW, sU_ne (fun z => by omega), sU_ne (fun z => by omega), sU_ne (fun z => by omega)]
      have r4_264 : W 4 264 = M 4 264 := by rw [hW, sU_ne (fun z => by omega), sU_ne (fun z => by omega), sU_ne (fun z => by omega)]
      have r4_265 : W 4 265 = M 4 265 := by rw [hW, sU_ne (fun z => by omega), sU_ne (fun z => by omega), sU_ne (fun z => by omega)]
      have r4_266 : W 4 266 = M 4 266 := by rw [hW, sU_ne (fun z => by omega), sU_ne (fun z => by omega), sU_ne (fun z => by omega)]
      have r4_267 : W 4 267 = M 4 267 := by rw [hW, sU_ne (fun z => by omega), sU_ne (fun z => by omega), sU_ne (fun z => by omega)]
      have r4_268 : W 4 268 = M 4 268 := by rw [hW, sU_ne (fun z => by omega), sU_ne (fun z => by omega), sU_ne (fun z => by omega)]
      have r4_269 : W 4 269 = M 4 269 := by rw [hW, sU_ne (fun z => by omega), sU_ne (fun z => by omega), sU_ne (fun z => by omega)]
      have c1 : ∀ k, W 1 k = M 1 k := fun k => by rw [hW, sU_ne (fun z => by omega), sU_ne (fun z => by omega), sU_ne (fun z => by omega)]
      have e1 : W 1 = M 1 := funext c1
      have c92 : ∀ k : Nat, k ≠ (1 * ρ 1 + 0).toNat → W 92 k = M 92 k := fun k hk => by rw [hW, sU_ne (fun z => by omega), sU_ne (fun z => by omega), sU_ne (fun z => by omega)]
      have a92 : W 92 (1 * ρ 1 + 0).toNat = 1 * ρ 2 + 0 := by rw [hW, sU_ne (fun z => by omega), sU_ne (fun z => by omega), sU_at]
      unfold xSP
      rw [r4_262, r4_263, r4_264, e1]
      obtain ⟨p1, p2, p3⟩ := gx_xSP hI
      refine ⟨p1, fun q hq hl => ?_, fun q hq hl => by omega⟩
      have e4 : ∀ x, x ≠ 261 → W 4 x = M 4 x := fun x hx => by rw [hW, sU_ne (fun z => by omega), sU_ne (fun z => by omega), sU_ne (fun z => by omega)]
      rw [e4 _ (by omega)]
      exact p2 q hq hl
    have k_xSL : xSL W := by
      rw [hW]
      exact (uxSL rfl (uxSL rfl (uxSL (sinc_ok rfl _) hI.2.2.2.2.2.2.2.2.2.2.2.2.2.2.2.2.2.2.2.2.2.2.2.2.2.2.2.2.2.2.2.2.2.2.2.2.2.2.2.2.1)))
    have k_xSM : xSM W := by
      rw [hW]
      exact (uxSM rfl (uxSM rfl (uxSM (sinc_ok rfl _) hI.2.2.2.2.2.2.2.2.2.2.2.2.2.2.2.2.2.2.2.2.2.2.2.2.2.2.2.2.2.2.2.2.2.2.2.2.2.2.2.2.2.1)))
    have k_xSI : xSI W := by
      rw [hW]
      exact (uxSI rfl (uxSI rfl (uxSI (sinc_ok rfl _) hI.2.2.2.2.2.2.2.2.2.2.2.2.2.2.2.2.2.2.2.2.2.2.2.2.2.2.2.2.2.2.2.2.2.2.2.2.2.2.2.2.2.2)))
    have k_XC : XC W := ⟨k_xS1, k_xS2, k_xS3, k_xS4, k_xS5, k_xS6, k_xS7, k_xS8, k_xS9, k_xSA, k_xSG, k_xSF, k_xSB, k_xSC, k_xSD, k_xSE, k_xSW, k_xST, k_xSP, k_xSL, k_xSM, k_xSI⟩
    have kXB : XB W := ⟨k_xN1, k_xN2, k_xN3, k_xN4, k_xN5, k_xN6, k_xH1, k_xK1, k_xC1, k_xRW, k_xWT, k_xCU, k_xG2, k_xG3, k_xG4, k_xG5, k_xG6, k_XC⟩
    exact ⟨base, k2, k3, kXA, kXB⟩
-- fdC16
def xr_638 : qRu := (11, [[(-16, 0), (1, 1), (-1, 4)], [(16, 0), (-1, 1), (1, 4)], [(1, 1), (-1, 3)], [(1, 4)], [(699, 0), (-1, 1)], [(1, 1)], [(-24, 0), (1, 6)], [(24, 0), (-1, 6)], [(1, 5), (-1, 8)], [(-1, 5), (1, 8)], [(-1, 2), (1, 9)], [(1, 2), (-1, 9)], [(-1, 7), (1, 10)], [(1, 7), (-1, 10)], [(128, 0), (1, 2)], [(127, 0), (-1, 2)]], [(4, 100, []), (4, 261, [(1, 3)]), (4, 262, [(16, 0)]), (4, 263, [(1, 4)]), (4, 269, [(1, 8)]), (91, 259, [(1, 0)]), (91, 248, [(1, 10)]), (91, 258, [(1, 9)]), (91, 249, [(1, 0)]), (91, 250, [(1, 5)]), (91, 251, [(1, 6)]), (91, 252, [(1, 7)])], [(1, [(1, 1)], [(1, 2)])], [(4, 262, [(17, 0)])], [])
theorem xo_638 : qRok xr_638 := by
  intro ρ M h0 hf hm hI
  have f0 := hf [(-16, 0), (1, 1), (-1, 4)] (by decide)
  have f1 := hf [(16, 0), (-1, 1), (1, 4)] (by decide)
  have f2 := hf [(1, 1), (-1, 3)] (by decide)
  have f3 := hf [(1, 4)] (by decide)
  have f4 := hf [(699, 0), (-1, 1)] (by decide)
  have f5 := hf [(1, 1)] (by decide)
  have f6 := hf [(-24, 0), (1, 6)] (by decide)
  have f7 := hf [(24, 0), (-1, 6)] (by decide)
  have f8 := hf [(1, 5), (-1, 8)] (by decide)
  have f9 := hf [(-1, 5), (1, 8)] (by decide)
  have f10 := hf [(-1, 2), (1, 9)] (by decide)
  have f11 := hf [(1, 2), (-1, 9)] (by decide)
  have f12 := hf [(-1, 7), (1, 10)] (by decide)
  have f13 := hf [(1, 7), (-1, 10)] (by decide)
  have f14 := hf [(128, 0), (1, 2)] (by decide)
  have f15 := hf [(127, 0), (-1, 2)] (by decide)
  simp only [qD, h0] at f0 f1 f2 f3 f4 f5 f6 f7 f8 f9 f10 f11 f12 f13 f14 f15
  have m0 : M 4 100 = 0 := hm (4, 100, []) (by decide)
  have m1 : M 4 261 = 1 * ρ 3 + 0 := hm (4, 261, [(1, 3)]) (by decide)
  have m2 : M 4 262 = 16 * ρ 0 + 0 := hm (4, 262, [(16, 0)]) (by decide)
  have m3 : M 4 263 = 1 * ρ 4 + 0 := hm (4, 263, [(1, 4)]) (by decide)
  have m4 : M 4 269 = 1 * ρ 8 + 0 := hm (4, 269, [(1, 8)]) (by decide)
  have m5 : M 91 259 = 1 * ρ 0 + 0 := hm (91, 259, [(1, 0)]) (by decide)
  have m6 : M 91 248 = 1 * ρ 10 + 0 := hm (91, 248, [(1, 10)]) (by decide)
  have m7 : M 91 258 = 1 * ρ 9 + 0 := hm (91, 258, [(1, 9)]) (by decide)
  have m8 : M 91 249 = 1 * ρ 0 + 0 := hm (91, 249, [(1, 0)]) (by decide)
  have m9 : M 91 250 = 1 * ρ 5 + 0 := hm (91, 250, [(1, 5)]) (by decide)
  have m10 : M 91 251 = 1 * ρ 6 + 0 := hm (91, 251, [(1, 6)]) (by decide)
  have m11 : M 91 252 = 1 * ρ 7 + 0 := hm (91, 252, [(1, 7)]) (by decide)
  simp only [h0] at m2 m5 m8
  have qxST := hI.2.2.2.2.2.2.2.2.2.2.2.2.2.2.2.2.2.2.2.2.2.2.2.2.2.2.2.2.2.2.2.2.2.2.2.2.2.2.1
  have qxSP := hI.2.2.2.2.2.2.2.2.2.2.2.2.2.2.2.2.2.2.2.2.2.2.2.2.2.2.2.2.2.2.2.2.2.2.2.2.2.2.2.1
  obtain ⟨g1, g2, g3, g4⟩ := gx_xSE hI (by omega)
  have tb : xop 1 (M 91 252) 255 = tBy (M 4 269) 16 := by
    unfold tBy
    rw [g1, show M 91 250 = M 4 269 by omega, show M 91 251 = 24 by omega]
    rfl

  have gi := gx_xSI hI (by omega)
  rw [show M 91 248 = M 91 252 by omega] at gi
  refine ⟨ρ, fun _ _ => rfl, fun f h => ?_, ?_⟩
  · exact nomatch h
  · show sI (sU (sU M 1 (1 * ρ 1 + 0 : Int).toNat (1 * ρ 2 + 0)) 4 262 (17 * ρ 0 + 0))
    obtain ⟨W, hW⟩ : ∃ W, W = (sU (sU M 1 (1 * ρ 1 + 0).toNat (1 * ρ 2 + 0)) 4 262 (17 * ρ 0 + 0)) := ⟨_, rfl⟩
    rw [← hW]
    have base : sI0 W := by
      rw [hW]
      exact (si_u0 (si_u0 hI.1 (fun r hr => by rw [xt_1 hr]; exact ⟨by show (-128 : Int) ≤ _; omega, by show _ ≤ (127 : Int); omega⟩)) (fun r hr => by cases hr))
    have k2 : XI2 W := by
      rw [hW]
      exact (xi2_u rfl (xi2_u (sinc_ok rfl _) hI.2.1))
    have k3 : XI3 W := by
      rw [hW]
      exact (xi3_u rfl (xi3_u (sinc_ok rfl _) hI.2.2.1))
    have kXA : XA W := by
      rw [hW]
      exact (uXA rfl (uXA (sinc_ok rfl _) hI.2.2.2.1))
    have k_xN1 : xN1 W := by
      rw [hW]
      exact (uxN1 rfl (uxN1 (sinc_ok rfl _) hI.2.2.2.2.1))
    have k_xN2 : xN2 W := by
      rw [hW]
      exact (uxN2 rfl (uxN2 (sinc_ok rfl _) hI.2.2.2.2.2.1))
    have k_xN3 : xN3 W := by
      rw [hW]
      exact (uxN3 rfl (uxN3 (sinc_ok rfl _) hI.2.2.2.2.2.2.1))
    have k_xN4 : xN4 W := by
      rw [hW]
      exact (uxN4 rfl (uxN4 (sinc_ok rfl _) hI.2.2.2.2.2.2.2.1))
    have k_xN5 : xN5 W := by
      rw [hW]
      exact (uxN5 rfl (uxN5 (sinc_ok rfl _) hI.2.2.2.2.2.2.2.2.1))
    have k_xN6 : xN6 W := by
      rw [hW]
      exact (uxN6 rfl (uxN6 (sinc_ok rfl _) hI.2.2.2.2.2.2.2.2.2.1))
    have k_xH1 : xH1 W := by
      rw [hW]
      exact (uxH1 rfl (uxH1 (sinc_ok rfl _) hI.2.2.2.2.2.2.2.2.2.2.1))
    have k_xK1 : xK1 W := by
      rw [hW]
      exact (uxK1 rfl (uxK1 (sinc_ok rfl _) hI.2.2.2.2.2.2.2.2.2.2.2.1))
    have k_xC1 : xC1 W := by
      rw [hW]
      exact (uxC1 rfl (uxC1 (sinc_ok rfl _) hI.2.2.2.2.2.2.2.2.2.2.2.2.1))
    have k_xRW : xRW W := by
      rw [hW]
      exact (uxRW rfl (uxRW (sinc_ok rfl _) hI.2.2.2.2.2.2.2.2.2.2.2.2.2.1))
    have k_xWT : xWT W := by
      rw [hW]
      exact (uxWT rfl (uxWT (sinc_ok rfl _) hI.2.2.2.2.2.2.2.2.2.2.2.2.2.2.1))
    have k_xCU : xCU W := by
      rw [hW]
      exact (uxCU rfl (uxCU (sinc_ok rfl _) hI.2.2.2.2.2.2.2.2.2.2.2.2.2.2.2.1))
    have k_xG2 : xG2 W := by
      rw [hW]
      exact (uxG2 rfl (uxG2 (sinc_ok rfl _) hI.2.2.2.2.2.2.2.2.2.2.2.2.2.2.2.2.1))
    have k_xG3 : xG3 W := by
      rw [hW]
      exact (uxG3 rfl (uxG3 (sinc_ok rfl _) hI.2.2.2.2.2.2.2.2.2.2.2.2.2.2.2.2.2.1))
    have k_xG4 : xG4 W := by
      rw [hW]
      exact (uxG4 rfl (uxG4 (sinc_ok rfl _) hI.2.2.2.2.2.2.2.2.2.2.2.2.2.2.2.2.2.2.1))
    have k_xG5 : xG5 W := by
      rw [hW]
      exact (uxG5 rfl (uxG5 (sinc_ok rfl _) hI.2.2.2.2.2.2.2.2.2.2.2.2.2.2.2.2.2.2.2.1))
    have k_xG6 : xG6 W := by
      rw [hW]
      exact (uxG6 rfl (uxG6 (sinc_ok rfl _) hI.2.2.2.2.2.2.2.2.2.2.2.2.2.2.2.2.2.2.2.2.1))
    have k_xS1 : xS1 W := by
      have r : W 4 100 = 0 := by
        have e := m0
        rw [hW, sU_ne (fun z => by omega), sU_ne (fun z => by omega)]
        omega
      intro h
      rw [r] at h
      exact absurd rfl h
    have k_xS2 : xS2 W := by
      rw [hW]
      exact (uxS2 rfl (uxS2 (sinc_ok rfl _) hI.2.2.2.2.2.2.2.2.2.2.2.2.2.2.2.2.2.2.2.2.2.2.1))
    have k_xS3 : xS3 W := by
      rw [hW]
      exact (uxS3 rfl (uxS3 (sinc_ok rfl _) hI.2.2.2.2.2.2.2.2.2.2.2.2.2.2.2.2.2.2.2.2.2.2.2.1))
    have k_xS4 : xS4 W := by
      rw [hW]
      exact (uxS4 rfl (uxS4 (sinc_ok rfl _) hI.2.2.2.2.2.2.2.2.2.2.2.2.2.2.2.2.2.2.2.2.2.2.2.2.1))
    have k_xS5 : xS5 W := by
      rw [hW]
      exact (uxS5 rfl (uxS5 (sinc_ok rfl _) hI.2.2.2.2.2.2.2.2.2.2.2.2.2.2.2.2.2.2.2.2.2.2.2.2.2.1))
    have k_xS6 : xS6 W := by
      rw [hW]
      exact (uxS6 rfl (uxS6 (sinc_ok rfl _) hI.2.2.2.2.2.2.2.2.2.2.2.2.2.2.2.2.2.2.2.2.2.2.2.2.2.2.1))
    have k_xS7 : xS7 W := by
      rw [hW]
      exact (uxS7 rfl (uxS7 (sinc_ok rfl _) hI.2.2.2.2.2.2.2.2.2.2.2.2.2.2.2.2.2.2.2.2.2.2.2.2.2.2.2.1))
    have k_xS8 : xS8 W := by
      rw [hW]
      exact (uxS8 rfl (uxS8 (sinc_ok rfl _) hI.2.2.2.2.2.2.2.2.2.2.2.2.2.2.2.2.2.2.2.2.2.2.2.2.2.2.2.2.1))
    have k_xS9 : xS9 W := by
      rw [hW]
      exact (uxS9 rfl (uxS9 (sinc_ok rfl _) hI.2.2.2.2.2.2.2.2.2.2.2.2.2.2.2.2.2.2.2.2.2.2.2.2.2.2.2.2.2.1))
    have k_xSA : xSA W := by
      rw [hW]
      exact (uxSA rfl (uxSA (sinc_ok rfl _) hI.2.2.2.2.2.2.2.2.2.2.2.2.2.2.2.2.2.2.2.2.2.2.2.2.2.2.2.2.2.2.1))
    have k_xSG : xSG W := by
      rw [hW]
      exact (uxSG rfl (uxSG (sinc_ok rfl _) hI.2.2.2.2.2.2.2.2.2.2.2.2.2.2.2.2.2.2.2.2.2.2.2.2.2.2.2.2.2.2.2.1))
    have k_xSF : xSF W := by
      rw [hW]
      exact (uxSF rfl (uxSF (sinc_ok rfl _) hI.2.2.2.2.2.2.2.2.2.2.2.2.2.2.2.2.2.2.2.2.2.2.2.2.2.2.2.2.2.2.2.2.1))
    have k_xSB : xSB W := by
      rw [hW]
      exact (uxSB rfl (uxSB (sinc_ok rfl _) hI.2.2.2.2.2.2.2.2.2.2.2.2.2.2.2.2.2.2.2.2.2.2.2.2.2.2.2.2.2.2.2.2.2.1))
    have k_xSC : xSC W := by
      rw [hW]
      exact (uxSC rfl (uxSC (sinc_ok rfl _) hI.2.2.2.2.2.2.2.2.2.2.2.2.2.2.2.2.2.2.2.2.2.2.2.2.2.2.2.2.2.2.2.2.2.2.1))
    have k_xSD : xSD W := by
      rw [hW]
      exact (uxSD rfl (uxSD (sinc_ok rfl _) hI.2.2.2.2.2.2.2.2.2.2.2.2.2.2.2.2.2.2.2.2.2.2.2.2.2.2.2.2.2.2.2.2.2.2.2.1))
    have k_xSE : xSE W := by
      rw [hW]
      exact (uxSE rfl (uxSE (sinc_ok rfl _) hI.2.2.2.2.2.2.2.2.2.2.2.2.2.2.2.2.2.2.2.2.2.2.2.2.2.2.2.2.2.2.2.2.2.2.2.2.1))
    have k_xSW : xSW W := by
      rw [hW]
      exact (uxSW rfl (uxSW (sinc_ok rfl _) hI.2.2.2.2.2.2.2.2.2.2.2.2.2.2.2.2.2.2.2.2.2.2.2.2.2.2.2.2.2.2.2.2.2.2.2.2.2.1))
    have k_xST : xST W := by
      have r4_261 : W 4 261 = M 4 261 := by rw [hW, sU_ne (fun z => by omega), sU_ne (fun z => by omega)]
      have c1 : ∀ k : Nat, k ≠ (1 * ρ 1 + 0).toNat → W 1 k = M 1 k := fun k hk => by rw [hW, sU_ne (fun z => by omega), sU_ne (fun z => by omega)]
      have a1 : W 1 (1 * ρ 1 + 0).toNat = 1 * ρ 2 + 0 := by rw [hW, sU_ne (fun z => by omega), sU_at]
      have c92 : ∀ k, W 92 k = M 92 k := fun k => by rw [hW, sU_ne (fun z => by omega), sU_ne (fun z => by omega)]
      have e92 : W 92 = M 92 := funext c92
      intro i hi
      rw [r4_261] at hi
      rw [c1 i (by omega), e92]
      exact qxST i hi
    have k_xSP : xSP W := by
      have r4_262 : W 4 262 = 17 * ρ 0 + 0 := by rw [hW, sU_at]
      have r4_263 : W 4 263 = M 4 263 := by rw [hW, sU_ne (fun z => by omega), sU_ne (fun z => by omega)]
      have r4_264 : W 4 264 = M 4 264 := by rw [hW, sU_ne (fun z => by omega), sU_ne (fun z => by omega)]
      have r4_265 : W 4 265 = M 4 265 := by rw [hW, sU_ne (fun z => by omega), sU_ne (fun z => by omega)]
      have r4_266 : W 4 266 = M 4 266 := by rw [hW, sU_ne (fun z => by omega), sU_ne (fun z => by omega)]
      have r4_267 : W 4 267 = M 4 267 := by rw [hW, sU_ne (fun z => by omega), sU_ne (fun z => by omega)]
      have r4_268 : W 4 268 = M 4 268 := by rw [hW, sU_ne (fun z => by omega), sU_ne (fun z => by omega)]
      have r4_269 : W 4 269 = M 4 269 := by rw [hW, sU_ne (fun z => by omega), sU_ne (fun z => by omega)]
      have c1 : ∀ k : Nat, k ≠ (1 * ρ 1 + 0).toNat → W 1 k = M 1 k := fun k hk => by rw [hW, sU_ne (fun z => by omega), sU_ne (fun z => by omega)]
      have a1 : W 1 (1 * ρ 1 + 0).toNat = 1 * ρ 2 + 0 := by rw [hW, sU_ne (fun z => by omega), sU_at]
      have c92 : ∀ k, W 92 k = M 92 k := fun k => by rw [hW, sU_ne (fun z => by omega), sU_ne (fun z => by omega)]
      have e92 : W 92 = M 92 := funext c92
      unfold xSP
      rw [r4_262, r4_263, r4_264, e92]
      obtain ⟨p1, p2, p3⟩ := qxSP
      have e4 : ∀ x, x ≠ 262 → W 4 x = M 4 x := fun x hx => by rw [hW, sU_ne (fun z => by omega), sU_ne (fun z => by omega)]
      refine ⟨p1, fun q hq hl => ?_, fun q hq hl => by rw [e4 _ (by omega)]; exact p3 q hq hl⟩
      rw [h0] at hl
      rw [e4 _ (by omega)]
      by_cases hj : q = 16
      · subst hj
        show W 1 ((M 4 263).toNat + 16) = tSn (tBy (M 4 269) 16)
        rw [show (M 4 263).toNat + 16 = (1 * ρ 1 + 0).toNat by omega, a1, ← tb]
        have := xi2b (M 91 252)
        omega
      · rw [c1 _ (by omega)]
        exact p2 q hq (by omega)
    have k_xSL : xSL W := by
      rw [hW]
      exact (uxSL rfl (uxSL (sinc_ok rfl _) hI.2.2.2.2.2.2.2.2.2.2.2.2.2.2.2.2.2.2.2.2.2.2.2.2.2.2.2.2.2.2.2.2.2.2.2.2.2.2.2.2.1))
    have k_xSM : xSM W := by
      rw [hW]
      exact (uxSM rfl (uxSM (sinc_ok rfl _) hI.2.2.2.2.2.2.2.2.2.2.2.2.2.2.2.2.2.2.2.2.2.2.2.2.2.2.2.2.2.2.2.2.2.2.2.2.2.2.2.2.2.1))
    have k_xSI : xSI W := by
      rw [hW]
      exact (uxSI rfl (uxSI (sinc_ok rfl _) hI.2.2.2.2.2.2.2.2.2.2.2.2.2.2.2.2.2.2.2.2.2.2.2.2.2.2.2.2.2.2.2.2.2.2.2.2.2.2.2.2.2.2))
    have k_XC : XC W := ⟨k_xS1, k_xS2, k_xS3, k_xS4, k_xS5, k_xS6, k_xS7, k_xS8, k_xS9, k_xSA, k_xSG, k_xSF, k_xSB, k_xSC, k_xSD, k_xSE, k_xSW, k_xST, k_xSP, k_xSL, k_xSM, k_xSI⟩
    have kXB : XB W := ⟨k_xN1, k_xN2, k_xN3, k_xN4, k_xN5, k_xN6, k_xH1, k_xK1, k_xC1, k_xRW, k_xWT, k_xCU, k_xG2, k_xG3, k_xG4, k_xG5, k_xG6, k_XC⟩
    exact ⟨base, k2, k3, kXA, kXB⟩
-- fdW16
def xr_639 : qRu := (11, [[(-16, 0), (1, 1), (-1, 4)], [(16, 0), (-1, 1), (1, 4)], [(1, 1), (-1, 3)], [(-1, 1), (1, 3)], [(1, 4)], [(699, 0), (-1, 1)], [(1, 1)], [(-24, 0), (1, 6)], [(24, 0), (-1, 6)], [(1, 5), (-1, 8)], [(-1, 5), (1, 8)], [(-1, 2), (1, 9)], [(1, 2), (-1, 9)], [(1, 2)], [(255, 0), (-1, 2)]], [(4, 261, [(1, 3)]), (4, 262, [(20, 0)]), (4, 263, [(1, 4)]), (4, 264, []), (4, 269, [(1, 8)]), (91, 257, [(1, 9)]), (4, 100, []), (4, 200, []), (4, 210, []), (4, 212, []), (4, 214, []), (4, 220, []), (4, 233, []), (4, 235, []), (91, 249, [(1, 0)]), (91, 250, [(1, 5)]), (91, 251, [(1, 6)]), (91, 252, [(1, 7)])], [(92, [(1, 1)], [(1, 2)])], [(91, 990, [(1, 11)]), (4, 261, [(1, 0), (1, 3)])], [])
theorem xo_639 : qRok xr_639 := by
  intro ρ M h0 hf hm hI
  have f0 := hf [(-16, 0), (1, 1), (-1, 4)] (by decide)
  have f1 := hf [(16, 0), (-1, 1), (1, 4)] (by decide)
  have f2 := hf [(1, 1), (-1, 3)] (by decide)
  have f3 := hf [(-1, 1), (1, 3)] (by decide)
  have f4 := hf [(1, 4)] (by decide)
  have f5 := hf [(699, 0), (-1, 1)] (by decide)
  have f6 := hf [(1, 1)] (by decide)
  have f7 := hf [(-24, 0), (1, 6)] (by decide)
  have f8 := hf [(24, 0), (-1, 6)] (by decide)
  have f9 := hf [(1, 5), (-1, 8)] (by decide)
  have f10 := hf [(-1, 5), (1, 8)] (by decide)
  have f11 := hf [(-1, 2), (1, 9)] (by decide)
  have f12 := hf [(1, 2), (-1, 9)] (by decide)
  have f13 := hf [(1, 2)] (by decide)
  have f14 := hf [(255, 0), (-1, 2)] (by decide)
  simp only [qD, h0] at f0 f1 f2 f3 f4 f5 f6 f7 f8 f9 f10 f11 f12 f13 f14
  have m0 : M 4 261 = 1 * ρ 3 + 0 := hm (4, 261, [(1, 3)]) (by decide)
  have m1 : M 4 262 = 20 * ρ 0 + 0 := hm (4, 262, [(20, 0)]) (by decide)
  have m2 : M 4 263 = 1 * ρ 4 + 0 := hm (4, 263, [(1, 4)]) (by decide)
  have m3 : M 4 264 = 0 := hm (4, 264, []) (by decide)
  have m4 : M 4 269 = 1 * ρ 8 + 0 := hm (4, 269, [(1, 8)]) (by decide)
  have m5 : M 91 257 = 1 * ρ 9 + 0 := hm (91, 257, [(1, 9)]) (by decide)
  have m6 : M 4 100 = 0 := hm (4, 100, []) (by decide)
  have m7 : M 4 200 = 0 := hm (4, 200, []) (by decide)
  have m8 : M 4 210 = 0 := hm (4, 210, []) (by decide)
  have m9 : M 4 212 = 0 := hm (4, 212, []) (by decide)
  have m10 : M 4 214 = 0 := hm (4, 214, []) (by decide)
  have m11 : M 4 220 = 0 := hm (4, 220, []) (by decide)
  have m12 : M 4 233 = 0 := hm (4, 233, []) (by decide)
  have m13 : M 4 235 = 0 := hm (4, 235, []) (by decide)
  have m14 : M 91 249 = 1 * ρ 0 + 0 := hm (91, 249, [(1, 0)]) (by decide)
  have m15 : M 91 250 = 1 * ρ 5 + 0 := hm (91, 250, [(1, 5)]) (by decide)
  have m16 : M 91 251 = 1 * ρ 6 + 0 := hm (91, 251, [(1, 6)]) (by decide)
  have m17 : M 91 252 = 1 * ρ 7 + 0 := hm (91, 252, [(1, 7)]) (by decide)
  simp only [h0] at m1 m14
  have qxST := hI.2.2.2.2.2.2.2.2.2.2.2.2.2.2.2.2.2.2.2.2.2.2.2.2.2.2.2.2.2.2.2.2.2.2.2.2.2.2.1
  have qxSP := hI.2.2.2.2.2.2.2.2.2.2.2.2.2.2.2.2.2.2.2.2.2.2.2.2.2.2.2.2.2.2.2.2.2.2.2.2.2.2.2.1
  obtain ⟨g1, g2, g3, g4⟩ := gx_xSE hI (by omega)
  have tb : xop 1 (M 91 252) 255 = tBy (M 4 269) 16 := by
    unfold tBy
    rw [g1, show M 91 250 = M 4 269 by omega, show M 91 251 = 24 by omega]
    rfl

  have g257 := g4
  refine ⟨fun a => cond (Nat.blt a 11) (ρ a) (([xH (sU M 92 (1 * ρ 1 + 0).toNat (1 * ρ 2 + 0))] : List Int).getD (a - 11) 0), fun a ha => ?_, fun f h => ?_, ?_⟩
  · show cond (Nat.blt a 11) (ρ a) _ = ρ a
    rw [show Nat.blt a 11 = true from Nat.ble_eq_true_of_le ha]; rfl
  · exact nomatch h
  · show sI (sU (sU (sU M 92 (1 * ρ 1 + 0 : Int).toNat (1 * ρ 2 + 0)) 91 990 (1 * (xH (sU M 92 (1 * ρ 1 + 0).toNat (1 * ρ 2 + 0))) + 0)) 4 261 (1 * ρ 0 + (1 * ρ 3 + 0)))
    obtain ⟨W, hW⟩ : ∃ W, W = (sU (sU (sU M 92 (1 * ρ 1 + 0).toNat (1 * ρ 2 + 0)) 91 990 (1 * (xH (sU M 92 (1 * ρ 1 + 0).toNat (1 * ρ 2 + 0))) + 0)) 4 261 (1 * ρ 0 + (1 * ρ 3 + 0))) := ⟨_, rfl⟩
    rw [← hW]
    have base : sI0 W := by
      rw [hW]
      exact (si_u0 (si_u0 (si_u0 hI.1 (fun r hr => by rw [xt_92 hr]; exact ⟨by show (0 : Int) ≤ _; omega, by show _ ≤ (255 : Int); omega⟩)) (fun r hr => by cases hr)) (fun r hr => by cases hr))
    have k2 : XI2 W := by
      refine xi2_congr (fun o k hz ho => ?_) hI.2.1
      have h4 : ¬ (o = 4 ∧ k = 261) := fun z => by rw [z.1, z.2] at hz; exact absurd hz (by decide +kernel)
      rw [hW, sU_ne h4, sU_ne (fun z => by omega), sU_ne (fun z => by omega)]
    have k3 : XI3 W := by
      unfold XI3
      rw [hW]
      rw [sU_ne (fun z => by omega), sU_at]
      have e : ∀ o' k' x y, ¬ (o' = 91 ∧ k' = 990) → ¬ (o' = 4 ∧ k' = 261) → sU (sU (sU M 92 (1 * ρ 1 + 0).toNat (1 * ρ 2 + 0)) 91 990 x) 4 261 y o' k' = sU M 92 (1 * ρ 1 + 0).toNat (1 * ρ 2 + 0) o' k' := fun o' k' x y h h' => by rw [sU_ne h', sU_ne h]
      rw [show ∀ z : Int, 1 * z + 0 = z from fun z => by omega]
      unfold xH
      rw [e _ _ _ _ (by omega) (by omega), e _ _ _ _ (by omega) (by omega), e _ _ _ _ (by omega) (by omega)]
    have kXA : XA W := by
      rw [hW]
      exact (uXA rfl (uXA rfl (uXA (sinc_ok rfl _) hI.2.2.2.1)))
    have k_xN1 : xN1 W := by
      rw [hW]
      exact (uxN1 rfl (uxN1 rfl (uxN1 (sinc_ok rfl _) hI.2.2.2.2.1)))
    have k_xN2 : xN2 W := by
      rw [hW]
      exact (uxN2 rfl (uxN2 rfl (uxN2 (sinc_ok rfl _) hI.2.2.2.2.2.1)))
    have k_xN3 : xN3 W := by
      rw [hW]
      exact (uxN3 rfl (uxN3 rfl (uxN3 (sinc_ok rfl _) hI.2.2.2.2.2.2.1)))
    have k_xN4 : xN4 W := by
      rw [hW]
      exact (uxN4 rfl (uxN4 rfl (uxN4 (sinc_ok rfl _) hI.2.2.2.2.2.2.2.1)))
    have k_xN5 : xN5 W := by
      rw [hW]
      exact (uxN5 rfl (uxN5 rfl (uxN5 (sinc_ok rfl _) hI.2.2.2.2.2.2.2.2.1)))
    have k_xN6 : xN6 W := by
      rw [hW]
      exact (uxN6 rfl (uxN6 rfl (uxN6 (sinc_ok rfl _) hI.2.2.2.2.2.2.2.2.2.1)))
    have k_xH1 : xH1 W := by
      rw [hW]
      exact (uxH1 rfl (uxH1 rfl (uxH1 (sinc_ok rfl _) hI.2.2.2.2.2.2.2.2.2.2.1)))
    have k_xK1 : xK1 W := by
      rw [hW]
      exact (uxK1 rfl (uxK1 rfl (uxK1 (sinc_ok rfl _) hI.2.2.2.2.2.2.2.2.2.2.2.1)))
    have k_xC1 : xC1 W := by
      rw [hW]
      exact (uxC1 rfl (uxC1 rfl (uxC1 (sinc_ok rfl _) hI.2.2.2.2.2.2.2.2.2.2.2.2.1)))
    have k_xRW : xRW W := by
      rw [hW]
      exact (uxRW rfl (uxRW rfl (uxRW (sinc_ok rfl _) hI.2.2.2.2.2.2.2.2.2.2.2.2.2.1)))
    have k_xWT : xWT W := by
      rw [hW]
      exact (uxWT rfl (uxWT rfl (uxWT (sinc_ok rfl _) hI.2.2.2.2.2.2.2.2.2.2.2.2.2.2.1)))
    have k_xCU : xCU W := by
      rw [hW]
      exact (uxCU rfl (uxCU rfl (uxCU (sinc_ok rfl _) hI.2.2.2.2.2.2.2.2.2.2.2.2.2.2.2.1)))
    have k_xG2 : xG2 W := by
      rw [hW]
      exact (uxG2 rfl (uxG2 rfl (uxG2 (sinc_ok rfl _) hI.2.2.2.2.2.2.2.2.2.2.2.2.2.2.2.2.1)))
    have k_xG3 : xG3 W := by
      rw [hW]
      exact (uxG3 rfl (uxG3 rfl (uxG3 (sinc_ok rfl _) hI.2.2.2.2.2.2.2.2.2.2.2.2.2.2.2.2.2.1)))
    have k_xG4 : xG4 W := by
      rw [hW]
      exact (uxG4 rfl (uxG4 rfl (uxG4 (sinc_ok rfl _) hI.2.2.2.2.2.2.2.2.2.2.2.2.2.2.2.2.2.2.1)))
    have k_xG5 : xG5 W := by
      rw [hW]
      exact (uxG5 rfl (uxG5 rfl (uxG5 (sinc_ok rfl _) hI.2.2.2.2.2.2.2.2.2.2.2.2.2.2.2.2.2.2.2.1)))
    have k_xG6 : xG6 W := by
      rw [hW]
      exact (uxG6 rfl (uxG6 rfl (uxG6 (sinc_ok rfl _) hI.2.2.2.2.2.2.2.2.2.2.2.2.2.2.2.2.2.2.2.2.1)))
    have k_xS1 : xS1 W := by
      have r : W 4 100 = 0 := by
        have e := m6
        rw [hW, sU_ne (fun z => by omega), sU_ne (fun z => by omega), sU_ne (fun z => by omega)]
        omega
      intro h
      rw [r] at h
      exact absurd rfl h
    have k_xS2 : xS2 W := by
      have r : W 4 100 = 0 := by
        have e := m6
        rw [hW, sU_ne (fun z => by omega), sU_ne (fun z => by omega), sU_ne (fun z => by omega)]
        omega
      intro h
      rw [r] at h
      exact absurd rfl h
    have k_xS3 : xS3 W := by
      have r : W 4 100 = 0 := by
        have e := m6
        rw [hW, sU_ne (fun z => by omega), sU_ne (fun z => by omega), sU_ne (fun z => by omega)]
        omega
      intro h
      rw [r] at h
      exact absurd rfl h
    have k_xS4 : xS4 W := by
      rw [hW]
      exact (uxS4 rfl (uxS4 rfl (uxS4 (sinc_ok rfl _) hI.2.2.2.2.2.2.2.2.2.2.2.2.2.2.2.2.2.2.2.2.2.2.2.2.1)))
    have k_xS5 : xS5 W := by
      rw [hW]
      exact (uxS5 rfl (uxS5 rfl (uxS5 (sinc_ok rfl _) hI.2.2.2.2.2.2.2.2.2.2.2.2.2.2.2.2.2.2.2.2.2.2.2.2.2.1)))
    have k_xS6 : xS6 W := by
      rw [hW]
      exact (uxS6 rfl (uxS6 rfl (uxS6 (sinc_ok rfl _) hI.2.2.2.2.2.2.2.2.2.2.2.2.2.2.2.2.2.2.2.2.2.2.2.2.2.2.1)))
    have k_xS7 : xS7 W := by
      have r : W 4 200 = 0 := by
        have e := m7
        rw [hW, sU_ne (fun z => by omega), sU_ne (fun z => by omega), sU_ne (fun z => by omega)]
        omega
      intro h
      rw [r] at h
      omega
    have k_xS8 : xS8 W := by
      have r : W 4 210 = 0 := by
        have e := m8
        rw [hW, sU_ne (fun z => by omega), sU_ne (fun z => by omega), sU_ne (fun z => by omega)]
        omega
      intro h
      rw [r] at h
      omega
    have k_xS9 : xS9 W := by
      have r : W 4 212 = 0 := by
        have e := m9
        rw [hW, sU_ne (fun z => by omega), sU_ne (fun z => by omega), sU_ne (fun z => by omega)]
        omega
      intro h
      rw [r] at h
      omega
    have k_xSA : xSA W := by
      have r : W 4 214 = 0 := by
        have e := m10
        rw [hW, sU_ne (fun z => by omega), sU_ne (fun z => by omega), sU_ne (fun z => by omega)]
        omega
      intro h
      rw [r] at h
      omega
    have k_xSG : xSG W := by
      have r : W 4 235 = 0 := by
        have e := m13
        rw [hW, sU_ne (fun z => by omega), sU_ne (fun z => by omega), sU_ne (fun z => by omega)]
        omega
      intro h
      rw [r] at h
      omega
    have k_xSF : xSF W := by
      have r : W 4 233 = 0 := by
        have e := m12
        rw [hW, sU_ne (fun z => by omega), sU_ne (fun z => by omega), sU_ne (fun z => by omega)]
        omega
      intro h
      rw [r] at h
      omega
    have k_xSB : xSB W := by
      have r : W 4 220 = 0 := by
        have e := m11
        rw [hW, sU_ne (fun z => by omega), sU_ne (fun z => by omega), sU_ne (fun z => by omega)]
        omega
      intro h
      rw [r] at h
      omega
    have k_xSC : xSC W := by
      rw [hW]
      exact (uxSC rfl (uxSC rfl (uxSC (sinc_ok rfl _) hI.2.2.2.2.2.2.2.2.2.2.2.2.2.2.2.2.2.2.2.2.2.2.2.2.2.2.2.2.2.2.2.2.2.2.1)))
    have k_xSD : xSD W := by
      rw [hW]
      exact (uxSD rfl (uxSD rfl (uxSD (sinc_ok rfl _) hI.2.2.2.2.2.2.2.2.2.2.2.2.2.2.2.2.2.2.2.2.2.2.2.2.2.2.2.2.2.2.2.2.2.2.2.1)))
    have k_xSE : xSE W := by
      rw [hW]
      exact (uxSE rfl (uxSE rfl (uxSE (sinc_ok rfl _) hI.2.2.2.2.2.2.2.2.2.2.2.2.2.2.2.2.2.2.2.2.2.2.2.2.2.2.2.2.2.2.2.2.2.2.2.2.1)))
    have k_xSW : xSW W := by
      rw [hW]
      exact (uxSW rfl (uxSW rfl (uxSW (sinc_ok rfl _) hI.2.2.2.2.2.2.2.2.2.2.2.2.2.2.2.2.2.2.2.2.2.2.2.2.2.2.2.2.2.2.2.2.2.2.2.2.2.1)))
    have k_xST : xST W := by
      have r4_261 : W 4 261 = 1 * ρ 0 + (1 * ρ 3 + 0) := by rw [hW, sU_at]
      have c1 : ∀ k, W 1 k = M 1 k := fun k => by rw [hW, sU_ne (fun z => by omega), sU_ne (fun z => by omega), sU_ne (fun z => by omega)]
      have e1 : W 1 = M 1 := funext c1
      have c92 : ∀ k : Nat, k ≠ (1 * ρ 1 + 0).toNat → W 92 k = M 92 k := fun k hk => by rw [hW, sU_ne (fun z => by omega), sU_ne (fun z => by omega), sU_ne (fun z => by omega)]
      have a92 : W 92 (1 * ρ 1 + 0).toNat = 1 * ρ 2 + 0 := by rw [hW, sU_ne (fun z => by omega), sU_ne (fun z => by omega), sU_at]
      intro i hi
      rw [r4_261, h0] at hi
      rw [e1]
      by_cases hx : i = (1 * ρ 1 + 0).toNat
      · rw [hx, a92]
        obtain ⟨p1, p2, p3⟩ := gx_xSP hI
        have := p2 16 (by omega) (by omega)
        rw [show (M 4 263).toNat + 16 = (1 * ρ 1 + 0).toNat by omega] at this
        have this : M 1 (1 * ρ 1 + 0).toNat = tSn (tBy (M 4 269) 16) := this
        rw [this, ← tb]
        congr 1
        omega
      · rw [c92 i hx]
        exact qxST i (by omega)
    have k_xSP : xSP W := by
      have r4_262 : W 4 262 = M 4 262 := by rw [hW, sU_ne (fun z => by omega), sU_ne (fun z => by omega), sU_ne (fun z => by omega)]
      have r4_263 : W 4 263 = M 4 263 := by rw [hW, sU_ne (fun z => by omega), sU_ne (fun z => by omega), sU_ne (fun z => by omega)]
      have r4_264 : W 4 264 = M 4 264 := by rw [hW, sU_ne (fun z => by omega), sU_ne (fun z => by omega), sU_ne (fun z => by omega)]
      have r4_265 : W 4 265 = M 4 265 := by rw [hW, sU_ne (fun z => by omega), sU_ne (fun z => by omega), sU_ne (fun z => by omega)]
      have r4_266 : W 4 266 = M 4 266 := by rw [hW, sU_ne (fun z => by omega), sU_ne (fun z => by omega), sU_ne (fun z => by omega)]
      have r4_267 : W 4 267 = M 4 267 := by rw [hW, sU_ne (fun z => by omega), sU_ne (fun z => by omega), sU_ne (fun z => by omega)]
      have r4_268 : W 4 268 = M 4 268 := by rw [hW, sU_ne (fun z => by omega), sU_ne (fun z => by omega), sU_ne (fun z => by omega)]
      have r4_269 : W 4 269 = M 4 269 := by rw [hW, sU_ne (fun z => by omega), sU_ne (fun z => by omega), sU_ne (fun z => by omega)]
      have c1 : ∀ k, W 1 k = M 1 k := fun k => by rw [hW, sU_ne (fun z => by omega), sU_ne (fun z => by omega), sU_ne (fun z => by omega)]
      have e1 : W 1 = M 1 := funext c1
      have c92 : ∀ k : Nat, k ≠ (1 * ρ 1 + 0).toNat → W 92 k = M 92 k := fun k hk => by rw [hW, sU_ne (fun z => by omega), sU_ne (fun z => by omega), sU_ne (fun z => by omega)]
      have a92 : W 92 (1 * ρ 1 + 0).toNat = 1 * ρ 2 + 0 := by rw [hW, sU_ne (fun z => by omega), sU_ne (fun z => by omega), sU_at]
      unfold xSP
      rw [r4_262, r4_263, r4_264, e1]
      obtain ⟨p1, p2, p3⟩ := gx_xSP hI
      refine ⟨p1, fun q hq hl => ?_, fun q hq hl => by omega⟩
      have e4 : ∀ x, x ≠ 261 → W 4 x = M 4 x := fun x hx => by rw [hW, sU_ne (fun z => by omega), sU_ne (fun z => by omega), sU_ne (fun z => by omega)]
      rw [e4 _ (by omega)]
      exact p2 q hq hl
    have k_xSL : xSL W := by
      rw [hW]
      exact (uxSL rfl (uxSL rfl (uxSL (sinc_ok rfl _) hI.2.2.2.2.2.2.2.2.2.2.2.2.2.2.2.2.2.2.2.2.2.2.2.2.2.2.2.2.2.2.2.2.2.2.2.2.2.2.2.2.1)))
    have k_xSM : xSM W := by
      rw [hW]
      exact (uxSM rfl (uxSM rfl (uxSM (sinc_ok rfl _) hI.2.2.2.2.2.2.2.2.2.2.2.2.2.2.2.2.2.2.2.2.2.2.2.2.2.2.2.2.2.2.2.2.2.2.2.2.2.2.2.2.2.1)))
    have k_xSI : xSI W := by
      rw [hW]
      exact (uxSI rfl (uxSI rfl (uxSI (sinc_ok rfl _) hI.2.2.2.2.2.2.2.2.2.2.2.2.2.2.2.2.2.2.2.2.2.2.2.2.2.2.2.2.2.2.2.2.2.2.2.2.2.2.2.2.2.2)))
    have k_XC : XC W := ⟨k_xS1, k_xS2, k_xS3, k_xS4, k_xS5, k_xS6, k_xS7, k_xS8, k_xS9, k_xSA, k_xSG, k_xSF, k_xSB, k_xSC, k_xSD, k_xSE, k_xSW, k_xST, k_xSP, k_xSL, k_xSM, k_xSI⟩
    have kXB : XB W := ⟨k_xN1, k_xN2, k_xN3, k_xN4, k_xN5, k_xN6, k_xH1, k_xK1, k_xC1, k_xRW, k_xWT, k_xCU, k_xG2, k_xG3, k_xG4, k_xG5, k_xG6, k_XC⟩
    exact ⟨base, k2, k3, kXA, kXB⟩
-- fdC17
def xr_640 : qRu := (11, [[(-17, 0), (1, 1), (-1, 4)], [(17, 0), (-1, 1), (1, 4)], [(1, 1), (-1, 3)], [(1, 4)], [(699, 0), (-1, 1)], [(1, 1)], [(-16, 0), (1, 6)], [(16, 0), (-1, 6)], [(1, 5), (-1, 8)], [(-1, 5), (1, 8)], [(-1, 2), (1, 9)], [(1, 2), (-1, 9)], [(-1, 7), (1, 10)], [(1, 7), (-1, 10)], [(128, 0), (1, 2)], [(127, 0), (-1, 2)]], [(4, 100, []), (4, 261, [(1, 3)]), (4, 262, [(17, 0)]), (4, 263, [(1, 4)]), (4, 269, [(1, 8)]), (91, 259, [(1, 0)]), (91, 248, [(1, 10)]), (91, 258, [(1, 9)]), (91, 249, [(1, 0)]), (91, 250, [(1, 5)]), (91, 251, [(1, 6)]), (91, 252, [(1, 7)])], [(1, [(1, 1)], [(1, 2)])], [(4, 262, [(18, 0)])], [])
theorem xo_640 : qRok xr_640 := by
  intro ρ M h0 hf hm hI
  have f0 := hf [(-17, 0), (1, 1), (-1, 4)] (by decide)
  have f1 := hf [(17, 0), (-1, 1), (1, 4)] (by decide)
  have f2 := hf [(1, 1), (-1, 3)] (by decide)
  have f3 := hf [(1, 4)] (by decide)
  have f4 := hf [(699, 0), (-1, 1)] (by decide)
  have f5 := hf [(1, 1)] (by decide)
  have f6 := hf [(-16, 0), (1, 6)] (by decide)
  have f7 := hf [(16, 0), (-1, 6)] (by decide)
  have f8 := hf [(1, 5), (-1, 8)] (by decide)
  have f9 := hf [(-1, 5), (1, 8)] (by decide)
  have f10 := hf [(-1, 2), (1, 9)] (by decide)
  have f11 := hf [(1, 2), (-1, 9)] (by decide)
  have f12 := hf [(-1, 7), (1, 10)] (by decide)
  have f13 := hf [(1, 7), (-1, 10)] (by decide)
  have f14 := hf [(128, 0), (1, 2)] (by decide)
  have f15 := hf [(127, 0), (-1, 2)] (by decide)
  simp only [qD, h0] at f0 f1 f2 f3 f4 f5 f6 f7 f8 f9 f10 f11 f12 f13 f14 f15
  have m0 : M 4 100 = 0 := hm (4, 100, []) (by decide)
  have m1 : M 4 261 = 1 * ρ 3 + 0 := hm (4, 261, [(1, 3)]) (by decide)
  have m2 : M 4 262 = 17 * ρ 0 + 0 := hm (4, 262, [(17, 0)]) (by decide)
  have m3 : M 4 263 = 1 * ρ 4 + 0 := hm (4, 263, [(1, 4)]) (by decide)
  have m4 : M 4 269 = 1 * ρ 8 + 0 := hm (4, 269, [(1, 8)]) (by decide)
  have m5 : M 91 259 = 1 * ρ 0 + 0 := hm (91, 259, [(1, 0)]) (by decide)
  have m6 : M 91 248 = 1 * ρ 10 + 0 := hm (91, 248, [(1, 10)]) (by decide)
  have m7 : M 91 258 = 1 * ρ 9 + 0 := hm (91, 258, [(1, 9)]) (by decide)
  have m8 : M 91 249 = 1 * ρ 0 + 0 := hm (91, 249, [(1, 0)]) (by decide)
  have m9 : M 91 250 = 1 * ρ 5 + 0 := hm (91, 250, [(1, 5)]) (by decide)
  have m10 : M 91 251 = 1 * ρ 6 + 0 := hm (91, 251, [(1, 6)]) (by decide)
  have m11 : M 91 252 = 1 * ρ 7 + 0 := hm (91, 252, [(1, 7)]) (by decide)
  simp only [h0] at m2 m5 m8
  have qxST := hI.2.2.2.2.2.2.2.2.2.2.2.2.2.2.2.2.2.2.2.2.2.2.2.2.2.2.2.2.2.2.2.2.2.2.2.2.2.2.1
  have qxSP := hI.2.2.2.2.2.2.2.2.2.2.2.2.2.2.2.2.2.2.2.2.2.2.2.2.2.2.2.2.2.2.2.2.2.2.2.2.2.2.2.1
  obtain ⟨g1, g2, g3, g4⟩ := gx_xSE hI (by omega)
  have tb : xop 1 (M 91 252) 255 = tBy (M 4 269) 17 := by
    unfold tBy
    rw [g1, show M 91 250 = M 4 269 by omega, show M 91 251 = 16 by omega]
    rfl

  have gi := gx_xSI hI (by omega)
  rw [show M 91 248 = M 91 252 by omega] at gi
  refine ⟨ρ, fun _ _ => rfl, fun f h => ?_, ?_⟩
  · exact nomatch h
  · show sI (sU (sU M 1 (1 * ρ 1 + 0 : Int).toNat (1 * ρ 2 + 0)) 4 262 (18 * ρ 0 + 0))
    obtain ⟨W, hW⟩ : ∃ W, W = (sU (sU M 1 (1 * ρ 1 + 0).toNat (1 * ρ 2 + 0)) 4 262 (18 * ρ 0 + 0)) := ⟨_, rfl⟩
    rw [← hW]
    have base : sI0 W := by
      rw [hW]
      exact (si_u0 (si_u0 hI.1 (fun r hr => by rw [xt_1 hr]; exact ⟨by show (-128 : Int) ≤ _; omega, by show _ ≤ (127 : Int); omega⟩)) (fun r hr => by cases hr))
    have k2 : XI2 W := by
      rw [hW]
      exact (xi2_u rfl (xi2_u (sinc_ok rfl _) hI.2.1))
    have k3 : XI3 W := by
      rw [hW]
      exact (xi3_u rfl (xi3_u (sinc_ok rfl _) hI.2.2.1))
    have kXA : XA W := by
      rw [hW]
      exact (uXA rfl (uXA (sinc_ok rfl _) hI.2.2.2.1))
    have k_xN1 : xN1 W := by
      rw [hW]
      exact (uxN1 rfl (uxN1 (sinc_ok rfl _) hI.2.2.2.2.1))
    have k_xN2 : xN2 W := by
      rw [hW]
      exact (uxN2 rfl (uxN2 (sinc_ok rfl _) hI.2.2.2.2.2.1))
    have k_xN3 : xN3 W := by
      rw [hW]
      exact (uxN3 rfl (uxN3 (sinc_ok rfl _) hI.2.2.2.2.2.2.1))
    have k_xN4 : xN4 W := by
      rw [hW]
      exact (uxN4 rfl (uxN4 (sinc_ok rfl _) hI.2.2.2.2.2.2.2.1))
    have k_xN5 : xN5 W := by
      rw [hW]
      exact (uxN5 rfl (uxN5 (sinc_ok rfl _) hI.2.2.2.2.2.2.2.2.1))
    have k_xN6 : xN6 W := by
      rw [hW]
      exact (uxN6 rfl (uxN6 (sinc_ok rfl _) hI.2.2.2.2.2.2.2.2.2.1))
    have k_xH1 : xH1 W := by
      rw [hW]
      exact (uxH1 rfl (uxH1 (sinc_ok rfl _) hI.2.2.2.2.2.2.2.2.2.2.1))
    have k_xK1 : xK1 W := by
      rw [hW]
      exact (uxK1 rfl (uxK1 (sinc_ok rfl _) hI.2.2.2.2.2.2.2.2.2.2.2.1))
    have k_xC1 : xC1 W := by
      rw [hW]
      exact (uxC1 rfl (uxC1 (sinc_ok rfl _) hI.2.2.2.2.2.2.2.2.2.2.2.2.1))
    have k_xRW : xRW W := by
      rw [hW]
      exact (uxRW rfl (uxRW (sinc_ok rfl _) hI.2.2.2.2.2.2.2.2.2.2.2.2.2.1))
    have k_xWT : xWT W := by
      rw [hW]
      exact (uxWT rfl (uxWT (sinc_ok rfl _) hI.2.2.2.2.2.2.2.2.2.2.2.2.2.2.1))
    have k_xCU : xCU W := by
      rw [hW]
      exact (uxCU rfl (uxCU (sinc_ok rfl _) hI.2.2.2.2.2.2.2.2.2.2.2.2.2.2.2.1))
    have k_xG2 : xG2 W := by
      rw [hW]
      exact (uxG2 rfl (uxG2 (sinc_ok rfl _) hI.2.2.2.2.2.2.2.2.2.2.2.2.2.2.2.2.1))
    have k_xG3 : xG3 W := by
      rw [hW]
      exact (uxG3 rfl (uxG3 (sinc_ok rfl _) hI.2.2.2.2.2.2.2.2.2.2.2.2.2.2.2.2.2.1))
    have k_xG4 : xG4 W := by
      rw [hW]
      exact (uxG4 rfl (uxG4 (sinc_ok rfl _) hI.2.2.2.2.2.2.2.2.2.2.2.2.2.2.2.2.2.2.1))
    have k_xG5 : xG5 W := by
      rw [hW]
      exact (uxG5 rfl (uxG5 (sinc_ok rfl _) hI.2.2.2.2.2.2.2.2.2.2.2.2.2.2.2.2.2.2.2.1))
    have k_xG6 : xG6 W := by
      rw [hW]
      exact (uxG6 rfl (uxG6 (sinc_ok rfl _) hI.2.2.2.2.2.2.2.2.2.2.2.2.2.2.2.2.2.2.2.2.1))
    have k_xS1 : xS1 W := by
      have r : W 4 100 = 0 := by
        have e := m0
        rw [hW, sU_ne (fun z => by omega), sU_ne (fun z => by omega)]
        omega
      intro h
      rw [r] at h
      exact absurd rfl h
    have k_xS2 : xS2 W := by
      rw [hW]
      exact (uxS2 rfl (uxS2 (sinc_ok rfl _) hI.2.2.2.2.2.2.2.2.2.2.2.2.2.2.2.2.2.2.2.2.2.2.1))
    have k_xS3 : xS3 W := by
      rw [hW]
      exact (uxS3 rfl (uxS3 (sinc_ok rfl _) hI.2.2.2.2.2.2.2.2.2.2.2.2.2.2.2.2.2.2.2.2.2.2.2.1))
    have k_xS4 : xS4 W := by
      rw [hW]
      exact (uxS4 rfl (uxS4 (sinc_ok rfl _) hI.2.2.2.2.2.2.2.2.2.2.2.2.2.2.2.2.2.2.2.2.2.2.2.2.1))
    have k_xS5 : xS5 W := by
      rw [hW]
      exact (uxS5 rfl (uxS5 (sinc_ok rfl _) hI.2.2.2.2.2.2.2.2.2.2.2.2.2.2.2.2.2.2.2.2.2.2.2.2.2.1))
    have k_xS6 : xS6 W := by
      rw [hW]
      exact (uxS6 rfl (uxS6 (sinc_ok rfl _) hI.2.2.2.2.2.2.2.2.2.2.2.2.2.2.2.2.2.2.2.2.2.2.2.2.2.2.1))
    have k_xS7 : xS7 W := by
      rw [hW]
      exact (uxS7 rfl (uxS7 (sinc_ok rfl _) hI.2.2.2.2.2.2.2.2.2.2.2.2.2.2.2.2.2.2.2.2.2.2.2.2.2.2.2.1))
    have k_xS8 : xS8 W := by
      rw [hW]
      exact (uxS8 rfl (uxS8 (sinc_ok rfl _) hI.2.2.2.2.2.2.2.2.2.2.2.2.2.2.2.2.2.2.2.2.2.2.2.2.2.2.2.2.1))
    have k_xS9 : xS9 W := by
      rw [hW]
      exact (uxS9 rfl (uxS9 (sinc_ok rfl _) hI.2.2.2.2.2.2.2.2.2.2.2.2.2.2.2.2.2.2.2.2.2.2.2.2.2.2.2.2.2.1))
    have k_xSA : xSA W := by
      rw [hW]
      exact (uxSA rfl (uxSA (sinc_ok rfl _) hI.2.2.2.2.2.2.2.2.2.2.2.2.2.2.2.2.2.2.2.2.2.2.2.2.2.2.2.2.2.2.1))
    have k_xSG : xSG W := by
      rw [hW]
      exact (uxSG rfl (uxSG (sinc_ok rfl _) hI.2.2.2.2.2.2.2.2.2.2.2.2.2.2.2.2.2.2.2.2.2.2.2.2.2.2.2.2.2.2.2.1))
    have k_xSF : xSF W := by
      rw [hW]
      exact (uxSF rfl (uxSF (sinc_ok rfl _) hI.2.2.2.2.2.2.2.2.2.2.2.2.2.2.2.2.2.2.2.2.2.2.2.2.2.2.2.2.2.2.2.2.1))
    have k_xSB : xSB W := by
      rw [hW]
      exact (uxSB rfl (uxSB (sinc_ok rfl _) hI.2.2.2.2.2.2.2.2.2.2.2.2.2.2.2.2.2.2.2.2.2.2.2.2.2.2.2.2.2.2.2.2.2.1))
    have k_xSC : xSC W := by
      rw [hW]
      exact (uxSC rfl (uxSC (sinc_ok rfl _) hI.2.2.2.2.2.2.2.2.2.2.2.2.2.2.2.2.2.2.2.2.2.2.2.2.2.2.2.2.2.2.2.2.2.2.1))
    have k_xSD : xSD W := by
      rw [hW]
      exact (uxSD rfl (uxSD (sinc_ok rfl _) hI.2.2.2.2.2.2.2.2.2.2.2.2.2.2.2.2.2.2.2.2.2.2.2.2.2.2.2.2.2.2.2.2.2.2.2.1))
    have k_xSE : xSE W := by
      rw [hW]
      exact (uxSE rfl (uxSE (sinc_ok rfl _) hI.2.2.2.2.2.2.2.2.2.2.2.2.2.2.2.2.2.2.2.2.2.2.2.2.2.2.2.2.2.2.2.2.2.2.2.2.1))
    have k_xSW : xSW W := by
      rw [hW]
      exact (uxSW rfl (uxSW (sinc_ok rfl _) hI.2.2.2.2.2.2.2.2.2.2.2.2.2.2.2.2.2.2.2.2.2.2.2.2.2.2.2.2.2.2.2.2.2.2.2.2.2.1))
    have k_xST : xST W := by
      have r4_261 : W 4 261 = M 4 261 := by rw [hW, sU_ne (fun z => by omega), sU_ne (fun z => by omega)]
      have c1 : ∀ k : Nat, k ≠ (1 * ρ 1 + 0).toNat → W 1 k = M 1 k := fun k hk => by rw [hW, sU_ne (fun z => by omega), sU_ne (fun z => by omega)]
      have a1 : W 1 (1 * ρ 1 + 0).toNat = 1 * ρ 2 + 0 := by rw [hW, sU_ne (fun z => by omega), sU_at]
      have c92 : ∀ k, W 92 k = M 92 k := fun k => by rw [hW, sU_ne (fun z => by omega), sU_ne (fun z => by omega)]
      have e92 : W 92 = M 92 := funext c92
      intro i hi
      rw [r4_261] at hi
      rw [c1 i (by omega), e92]
      exact qxST i hi
    have k_xSP : xSP W := by
      have r4_262 : W 4 262 = 18 * ρ 0 + 0 := by rw [hW, sU_at]
      have r4_263 : W 4 263 = M 4 263 := by rw [hW, sU_ne (fun z => by omega), sU_ne (fun z => by omega)]
      have r4_264 : W 4 264 = M 4 264 := by rw [hW, sU_ne (fun z => by omega), sU_ne (fun z => by omega)]
      have r4_265 : W 4 265 = M 4 265 := by rw [hW, sU_ne (fun z => by omega), sU_ne (fun z => by omega)]
      have r4_266 : W 4 266 = M 4 266 := by rw [hW, sU_ne (fun z => by omega), sU_ne (fun z => by omega)]
      have r4_267 : W 4 267 = M 4 267 := by rw [hW, sU_ne (fun z => by omega), sU_ne (fun z => by omega)]
      have r4_268 : W 4 268 = M 4 268 := by rw [hW, sU_ne (fun z => by omega), sU_ne (fun z => by omega)]
      have r4_269 : W 4 269 = M 4 269 := by rw [hW, sU_ne (fun z => by omega), sU_ne (fun z => by omega)]
      have c1 : ∀ k : Nat, k ≠ (1 * ρ 1 + 0).toNat → W 1 k = M 1 k := fun k hk => by rw [hW, sU_ne (fun z => by omega), sU_ne (fun z => by omega)]
      have a1 : W 1 (1 * ρ 1 + 0).toNat = 1 * ρ 2 + 0 := by rw [hW, sU_ne (fun z => by omega), sU_at]
      have c92 : ∀ k, W 92 k = M 92 k := fun k => by rw [hW, sU_ne (fun z => by omega), sU_ne (fun z => by omega)]
      have e92 : W 92 = M 92 := funext c92
      unfold xSP
      rw [r4_262, r4_263, r4_264, e92]
      obtain ⟨p1, p2, p3⟩ := qxSP
      have e4 : ∀ x, x ≠ 262 → W 4 x = M 4 x := fun x hx => by rw [hW, sU_ne (fun z => by omega), sU_ne (fun z => by omega)]
      refine ⟨p1, fun q hq hl => ?_, fun q hq hl => by rw [e4 _ (by omega)]; exact p3 q hq hl⟩
      rw [h0] at hl
      rw [e4 _ (by omega)]
      by_cases hj : q = 17
      · subst hj
        show W 1 ((M 4 263).toNat + 17) = tSn (tBy (M 4 269) 17)
        rw [show (M 4 263).toNat + 17 = (1 * ρ 1 + 0).toNat by omega, a1, ← tb]
        have := xi2b (M 91 252)
        omega
      · rw [c1 _ (by omega)]
        exact p2 q hq (by omega)
    have k_xSL : xSL W := by
      rw [hW]
      exact (uxSL rfl (uxSL (sinc_ok rfl _) hI.2.2.2.2.2.2.2.2.2.2.2.2.2.2.2.2.2.2.2.2.2.2.2.2.2.2.2.2.2.2.2.2.2.2.2.2.2.2.2.2.1))
    have k_xSM : xSM W := by
      rw [hW]
      exact (uxSM rfl (uxSM (sinc_ok rfl _) hI.2.2.2.2.2.2.2.2.2.2.2.2.2.2.2.2.2.2.2.2.2.2.2.2.2.2.2.2.2.2.2.2.2.2.2.2.2.2.2.2.2.1))
    have k_xSI : xSI W := by
      rw [hW]
      exact (uxSI rfl (uxSI (sinc_ok rfl _) hI.2.2.2.2.2.2.2.2.2.2.2.2.2.2.2.2.2.2.2.2.2.2.2.2.2.2.2.2.2.2.2.2.2.2.2.2.2.2.2.2.2.2))
    have k_XC : XC W := ⟨k_xS1, k_xS2, k_xS3, k_xS4, k_xS5, k_xS6, k_xS7, k_xS8, k_xS9, k_xSA, k_xSG, k_xSF, k_xSB, k_xSC, k_xSD, k_xSE, k_xSW, k_xST, k_xSP, k_xSL, k_xSM, k_xSI⟩
    have kXB : XB W := ⟨k_xN1, k_xN2, k_xN3, k_xN4, k_xN5, k_xN6, k_xH1, k_xK1, k_xC1, k_xRW, k_xWT, k_xCU, k_xG2, k_xG3, k_xG4, k_xG5, k_xG6, k_XC⟩
    exact ⟨base, k2, k3, kXA, kXB⟩
-- fdW17
def xr_641 : qRu := (11, [[(-17, 0), (1, 1), (-1, 4)], [(17, 0), (-1, 1), (1, 4)], [(1, 1), (-1, 3)], [(-1, 1), (1, 3)], [(1, 4)], [(699, 0), (-1, 1)], [(1, 1)], [(-16, 0), (1, 6)], [(16, 0), (-1, 6)], [(1, 5), (-1, 8)], [(-1, 5), (1, 8)], [(-1, 2), (1, 9)], [(1, 2), (-1, 9)], [(1, 2)], [(255, 0), (-1, 2)]], [(4, 261, [(1, 3)]), (4, 262, [(20, 0)]), (4, 263, [(1, 4)]), (4, 264, []), (4, 269, [(1, 8)]), (91, 257, [(1, 9)]), (4, 100, []), (4, 200, []), (4, 210, []), (4, 212, []), (4, 214, []), (4, 220, []), (4, 233, []), (4, 235, []), (91, 249, [(1, 0)]), (91, 250, [(1, 5)]), (91, 251, [(1, 6)]), (91, 252, [(1, 7)])], [(92, [(1, 1)], [(1, 2)])], [(91, 990, [(1, 11)]), (4, 261, [(1, 0), (1, 3)])], [])
theorem xo_641 : qRok xr_641 := by
  intro ρ M h0 hf hm hI
  have f0 := hf [(-17, 0), (1, 1), (-1, 4)] (by decide)
  have f1 := hf [(17, 0), (-1, 1), (1, 4)] (by decide)
  have f2 := hf [(1, 1), (-1, 3)] (by decide)
  have f3 := hf [(-1, 1), (1, 3)] (by decide)
  have f4 := hf [(1, 4)] (by decide)
  have f5 := hf [(699, 0), (-1, 1)] (by decide)
  have f6 := hf [(1, 1)] (by decide)
  have f7 := hf [(-16, 0), (1, 6)] (by decide)
  have f8 := hf [(16, 0), (-1, 6)] (by decide)
  have f9 := hf [(1, 5), (-1, 8)] (by decide)
  have f10 := hf [(-1, 5), (1, 8)] (by decide)
  have f11 := hf [(-1, 2), (1, 9)] (by decide)
  have f12 := hf [(1, 2), (-1, 9)] (by decide)
  have f13 := hf [(1, 2)] (by decide)
  have f14 := hf [(255, 0), (-1, 2)] (by decide)
  simp only [qD, h0] at f0 f1 f2 f3 f4 f5 f6 f7 f8 f9 f10 f11 f12 f13 f14
  have m0 : M 4 261 = 1 * ρ 3 + 0 := hm (4, 261, [(1, 3)]) (by decide)
  have m1 : M 4 262 = 20 * ρ 0 + 0 := hm (4, 262, [(20, 0)]) (by decide)
  have m2 : M 4 263 = 1 * ρ 4 + 0 := hm (4, 263, [(1, 4)]) (by decide)
  have m3 : M 4 264 = 0 := hm (4, 264, []) (by decide)
  have m4 : M 4 269 = 1 * ρ 8 + 0 := hm (4, 269, [(1, 8)]) (by decide)
  have m5 : M 91 257 = 1 * ρ 9 + 0 := hm (91, 257, [(1, 9)]) (by decide)
  have m6 : M 4 100 = 0 := hm (4, 100, []) (by decide)
  have m7 : M 4 200 = 0 := hm (4, 200, []) (by decide)
  have m8 : M 4 210 = 0 := hm (4, 210, []) (by decide)
  have m9 : M 4 212 = 0 := hm (4, 212, []) (by decide)
  have m10 : M 4 214 = 0 := hm (4, 214, []) (by decide)
  have m11 : M 4 220 = 0 := hm (4, 220, []) (by decide)
  have m12 : M 4 233 = 0 := hm (4, 233, []) (by decide)
  have m13 : M 4 235 = 0 := hm (4, 235, []) (by decide)
  have m14 : M 91 249 = 1 * ρ 0 + 0 := hm (91, 249, [(1, 0)]) (by decide)
  have m15 : M 91 250 = 1 * ρ 5 + 0 := hm (91, 250, [(1, 5)]) (by decide)
  have m16 : M 91 251 = 1 * ρ 6 + 0 := hm (91, 251, [(1, 6)]) (by decide)
  have m17 : M 91 252 = 1 * ρ 7 + 0 := hm (91, 252, [(1, 7)]) (by decide)
  simp only [h0] at m1 m14
  have qxST := hI.2.2.2.2.2.2.2.2.2.2.2.2.2.2.2.2.2.2.2.2.2.2.2.2.2.2.2.2.2.2.2.2.2.2.2.2.2.2.1
  have qxSP := hI.2.2.2.2.2.2.2.2.2.2.2.2.2.2.2.2.2.2.2.2.2.2.2.2.2.2.2.2.2.2.2.2.2.2.2.2.2.2.2.1
  obtain ⟨g1, g2, g3, g4⟩ := gx_xSE hI (by omega)
  have tb : xop 1 (M 91 252) 255 = tBy (M 4 269) 17 := by
    unfold tBy
    rw [g1, show M 91 250 = M 4 269 by omega, show M 91 251 = 16 by omega]
    rfl

  have g257 := g4
  refine ⟨fun a => cond (Nat.blt a 11) (ρ a) (([xH (sU M 92 (1 * ρ 1 + 0).toNat (1 * ρ 2 + 0))] : List Int).getD (a - 11) 0), fun a ha => ?_, fun f h => ?_, ?_⟩
  · show cond (Nat.blt a 11) (ρ a) _ = ρ a
    rw [show Nat.blt a 11 = true from Nat.ble_eq_true_of_le ha]; rfl
  · exact nomatch h
  · show sI (sU (sU (sU M 92 (1 * ρ 1 + 0 : Int).toNat (1 * ρ 2 + 0)) 91 990 (1 * (xH (sU M 92 (1 * ρ 1 + 0).toNat (1 * ρ 2 + 0))) + 0)) 4 261 (1 * ρ 0 + (1 * ρ 3 + 0)))
    obtain ⟨W, hW⟩ : ∃ W, W = (sU (sU (sU M 92 (1 * ρ 1 + 0).toNat (1 * ρ 2 + 0)) 91 990 (1 * (xH (sU M 92 (1 * ρ 1 + 0).toNat (1 * ρ 2 + 0))) + 0)) 4 261 (1 * ρ 0 + (1 * ρ 3 + 0))) := ⟨_, rfl⟩
    rw [← hW]
    have base : sI0 W := by
      rw [hW]
      exact (si_u0 (si_u0 (si_u0 hI.1 (fun r hr => by rw [xt_92 hr]; exact ⟨by show (0 : Int) ≤ _; omega, by show _ ≤ (255 : Int); omega⟩)) (fun r hr => by cases hr)) (fun r hr => by cases hr))
    have k2 : XI2 W := by
      refine xi2_congr (fun o k hz ho => ?_) hI.2.1
      have h4 : ¬ (o = 4 ∧ k = 261) := fun z => by rw [z.1, z.2] at hz; exact absurd hz (by decide +kernel)
      rw [hW, sU_ne h4, sU_ne (fun z => by omega), sU_ne (fun z => by omega)]
    have k3 : XI3 W := by
      unfold XI3
      rw [hW]
      rw [sU_ne (fun z => by omega), sU_at]
      have e : ∀ o' k' x y, ¬ (o' = 91 ∧ k' = 990) → ¬ (o' = 4 ∧ k' = 261) → sU (sU (sU M 92 (1 * ρ 1 + 0).toNat (1 * ρ 2 + 0)) 91 990 x) 4 261 y o' k' = sU M 92 (1 * ρ 1 + 0).toNat (1 * ρ 2 + 0) o' k' := fun o' k' x y h h' => by rw [sU_ne h', sU_ne h]
      rw [show ∀ z : Int, 1 * z + 0 = z from fun z => by omega]
      unfold xH
      rw [e _ _ _ _ (by omega) (by omega), e _ _ _ _ (by omega) (by omega), e _ _ _ _ (by omega) (by omega)]
    have kXA : XA W := by
      rw [hW]
      exact (uXA rfl (uXA rfl (uXA (sinc_ok rfl _) hI.2.2.2.1)))
    have k_xN1 : xN1 W := by
      rw [hW]
      exact (uxN1 rfl (uxN1 rfl (uxN1 (sinc_ok rfl _) hI.2.2.2.2.1)))
    have k_xN2 : xN2 W := by
      rw [hW]
      exact (uxN2 rfl (uxN2 rfl (uxN2 (sinc_ok rfl _) hI.2.2.2.2.2.1)))
    have k_xN3 : xN3 W := by
      rw [hW]
      exact (uxN3 rfl (uxN3 rfl (uxN3 (sinc_ok rfl _) hI.2.2.2.2.2.2.1)))
    have k_xN4 : xN4 W := by
      rw [hW]
      exact (uxN4 rfl (uxN4 rfl (uxN4 (sinc_ok rfl _) hI.2.2.2.2.2.2.2.1)))
    have k_xN5 : xN5 W := by
      rw [hW]
      exact (uxN5 rfl (uxN5 rfl (uxN5 (sinc_ok rfl _) hI.2.2.2.2.2.2.2.2.1)))
    have k_xN6 : xN6 W := by
      rw [hW]
      exact (uxN6 rfl (uxN6 rfl (uxN6 (sinc_ok rfl _) hI.2.2.2.2.2.2.2.2.2.1)))
    have k_xH1 : xH1 W := by
      rw [hW]
      exact (uxH1 rfl (uxH1 rfl (uxH1 (sinc_ok rfl _) hI.2.2.2.2.2.2.2.2.2.2.1)))
    have k_xK1 : xK1 W := by
      rw [hW]
      exact (uxK1 rfl (uxK1 rfl (uxK1 (sinc_ok rfl _) hI.2.2.2.2.2.2.2.2.2.2.2.1)))
    have k_xC1 : xC1 W := by
      rw [hW]
      exact (uxC1 rfl (uxC1 rfl (uxC1 (sinc_ok rfl _) hI.2.2.2.2.2.2.2.2.2.2.2.2.1)))
    have k_xRW : xRW W := by
      rw [hW]
      exact (uxRW rfl (uxRW rfl (uxRW (sinc_ok rfl _) hI.2.2.2.2.2.2.2.2.2.2.2.2.2.1)))
    have k_xWT : xWT W := by
      rw [hW]
      exact (uxWT rfl (uxWT rfl (uxWT (sinc_ok rfl _) hI.2.2.2.2.2.2.2.2.2.2.2.2.2.2.1)))
    have k_xCU : xCU W := by
      rw [hW]
      exact (uxCU rfl (uxCU rfl (uxCU (sinc_ok rfl _) hI.2.2.2.2.2.2.2.2.2.2.2.2.2.2.2.1)))
    have k_xG2 : xG2 W := by
      rw [hW]
      exact (uxG2 rfl (uxG2 rfl (uxG2 (sinc_ok rfl _) hI.2.2.2.2.2.2.2.2.2.2.2.2.2.2.2.2.1)))
    have k_xG3 : xG3 W := by
      rw [hW]
      exact (uxG3 rfl (uxG3 rfl (uxG3 (sinc_ok rfl _) hI.2.2.2.2.2.2.2.2.2.2.2.2.2.2.2.2.2.1)))
    have k_xG4 : xG4 W := by
      rw [hW]
      exact (uxG4 rfl (uxG4 rfl (uxG4 (sinc_ok rfl _) hI.2.2.2.2.2.2.2.2.2.2.2.2.2.2.2.2.2.2.1)))
    have k_xG5 : xG5 W := by
      rw [hW]
      exact (uxG5 rfl (uxG5 rfl (uxG5 (sinc_ok rfl _) hI.2.2.2.2.2.2.2.2.2.2.2.2.2.2.2.2.2.2.2.1)))
    have k_xG6 : xG6 W := by
      rw [hW]
      exact (uxG6 rfl (uxG6 rfl (uxG6 (sinc_ok rfl _) hI.2.2.2.2.2.2.2.2.2.2.2.2.2.2.2.2.2.2.2.2.1)))
    have k_xS1 : xS1 W := by
      have r : W 4 100 = 0 := by
        have e := m6
        rw [hW, sU_ne (fun z => by omega), sU_ne (fun z => by omega), sU_ne (fun z => by omega)]
        omega
      intro h
      rw [r] at h
      exact absurd rfl h
    have k_xS2 : xS2 W := by
      have r : W 4 100 = 0 := by
        have e := m6
        rw [hW, sU_ne (fun z => by omega), sU_ne (fun z => by omega), sU_ne (fun z => by omega)]
        omega
      intro h
      rw [r] at h
      exact absurd rfl h
    have k_xS3 : xS3 W := by
      have r : W 4 100 = 0 := by
        have e := m6
        rw [hW, sU_ne (fun z => by omega), sU_ne (fun z => by omega), sU_ne (fun z => by omega)]
        omega
      intro h
      rw [r] at h
      exact absurd rfl h
    have k_xS4 : xS4 W := by
      rw [hW]
      exact (uxS4 rfl (uxS4 rfl (uxS4 (sinc_ok rfl _) hI.2.2.2.2.2.2.2.2.2.2.2.2.2.2.2.2.2.2.2.2.2.2.2.2.1)))
    have k_xS5 : xS5 W := by
      rw [hW]
      exact (uxS5 rfl (uxS5 rfl (uxS5 (sinc_ok rfl _) hI.2.2.2.2.2.2.2.2.2.2.2.2.2.2.2.2.2.2.2.2.2.2.2.2.2.1)))
    have k_xS6 : xS6 W := by
      rw [hW]
      exact (uxS6 rfl (uxS6 rfl (uxS6 (sinc_ok rfl _) hI.2.2.2.2.2.2.2.2.2.2.2.2.2.2.2.2.2.2.2.2.2.2.2.2.2.2.1)))
    have k_xS7 : xS7 W := by
      have r : W 4 200 = 0 := by
        have e := m7
        rw [hW, sU_ne (fun z => by omega), sU_ne (fun z => by omega), sU_ne (fun z => by omega)]
        omega
      intro h
      rw [r] at h
      omega
    have k_xS8 : xS8 W := by
      have r : W 4 210 = 0 := by
        have e := m8
        rw [hW, sU_ne (fun z => by omega), sU_ne (fun z => by omega), sU_ne (fun z => by omega)]
        omega
      intro h
      rw [r] at h
      omega
    have k_xS9 : xS9 W := by
      have r : W 4 212 = 0 := by
        have e := m9
        rw [hW, sU_ne (fun z => by omega), sU_ne (fun z => by omega), sU_ne (fun z => by omega)]
        omega
      intro h
      rw [r] at h
      omega
    have k_xSA : xSA W := by
      have r : W 4 214 = 0 := by
        have e := m10
        rw [hW, sU_ne (fun z => by omega), sU_ne (fun z => by omega), sU_ne (fun z => by omega)]
        omega
      intro h
      rw [r] at h
      omega
    have k_xSG : xSG W := by
      have r : W 4 235 = 0 := by
        have e := m13
        rw [hW, sU_ne (fun z => by omega), sU_ne (fun z => by omega), sU_ne (fun z => by omega)]
        omega
      intro h
      rw [r] at h
      omega
    have k_xSF : xSF W := by
      have r : W 4 233 = 0 := by
        have e := m12
        rw [hW, sU_ne (fun z => by omega), sU_ne (fun z => by omega), sU_ne (fun z => by omega)]
        omega
      intro h
      rw [r] at h
      omega
    have k_xSB : xSB W := by
      have r : W 4 220 = 0 := by
        have e := m11
        rw [hW, sU_ne (fun z => by omega), sU_ne (fun z => by omega), sU_ne (fun z => by omega)]
        omega
      intro h
      rw [r] at h
      omega
    have k_xSC : xSC W := by
      rw [hW]
      exact (uxSC rfl (uxSC rfl (uxSC (sinc_ok rfl _) hI.2.2.2.2.2.2.2.2.2.2.2.2.2.2.2.2.2.2.2.2.2.2.2.2.2.2.2.2.2.2.2.2.2.2.1)))
    have k_xSD : xSD W := by
      rw [hW]
      exact (uxSD rfl (uxSD rfl (uxSD (sinc_ok rfl _) hI.2.2.2.2.2.2.2.2.2.2.2.2.2.2.2.2.2.2.2.2.2.2.2.2.2.2.2.2.2.2.2.2.2.2.2.1)))
    have k_xSE : xSE W := by
      rw [hW]
      exact (uxSE rfl (uxSE rfl (uxSE (sinc_ok rfl _) hI.2.2.2.2.2.2.2.2.2.2.2.2.2.2.2.2.2.2.2.2.2.2.2.2.2.2.2.2.2.2.2.2.2.2.2.2.1)))
    have k_xSW : xSW W := by
      rw [hW]
      exact (uxSW rfl (uxSW rfl (uxSW (sinc_ok rfl _) hI.2.2.2.2.2.2.2.2.2.2.2.2.2.2.2.2.2.2.2.2.2.2.2.2.2.2.2.2.2.2.2.2.2.2.2.2.2.1)))
    have k_xST : xST W := by
      have r4_261 : W 4 261 = 1 * ρ 0 + (1 * ρ 3 + 0) := by rw [hW, sU_at]
      have c1 : ∀ k, W 1 k = M 1 k := fun k => by rw [hW, sU_ne (fun z => by omega), sU_ne (fun z => by omega), sU_ne (fun z => by omega)]
      have e1 : W 1 = M 1 := funext c1
      have c92 : ∀ k : Nat, k ≠ (1 * ρ 1 + 0).toNat → W 92 k = M 92 k := fun k hk => by rw [hW, sU_ne (fun z => by omega), sU_ne (fun z => by omega), sU_ne (fun z => by omega)]
      have a92 : W 92 (1 * ρ 1 + 0).toNat = 1 * ρ 2 + 0 := by rw [hW, sU_ne (fun z => by omega), sU_ne (fun z => by omega), sU_at]
      intro i hi
      rw [r4_261, h0] at hi
      rw [e1]
      by_cases hx : i = (1 * ρ 1 + 0).toNat
      · rw [hx, a92]
        obtain ⟨p1, p2, p3⟩ := gx_xSP hI
        have := p2 17 (by omega) (by omega)
        rw [show (M 4 263).toNat + 17 = (1 * ρ 1 + 0).toNat by omega] at this
        have this : M 1 (1 * ρ 1 + 0).toNat = tSn (tBy (M 4 269) 17) := this
        rw [this, ← tb]
        congr 1
        omega
      · rw [c92 i hx]
        exact qxST i (by omega)
    have k_xSP : xSP W := by
      have r4_262 : W 4 262 = M 4 262 := by rw [hW, sU_ne (fun z => by omega), sU_ne (fun z => by omega), sU_ne (fun z => by omega)]
      have r4_263 : W 4 263 = M 4 263 := by rw [hW, sU_ne (fun z => by omega), sU_ne (fun z => by omega), sU_ne (fun z => by omega)]
      have r4_264 : W 4 264 = M 4 264 := by rw [hW, sU_ne (fun z => by omega), sU_ne (fun z => by omega), sU_ne (fun z => by omega)]
      have r4_265 : W 4 265 = M 4 265 := by rw [hW, sU_ne (fun z => by omega), sU_ne (fun z => by omega), sU_ne (fun z => by omega)]
      have r4_266 : W 4 266 = M 4 266 := by rw [hW, sU_ne (fun z => by omega), sU_ne (fun z => by omega), sU_ne (fun z => by omega)]
      have r4_267 : W 4 267 = M 4 267 := by rw [hW, sU_ne (fun z => by omega), sU_ne (fun z => by omega), sU_ne (fun z => by omega)]
      have r4_268 : W 4 268 = M 4 268 := by rw [hW, sU_ne (fun z => by omega), sU_ne (fun z => by omega), sU_ne (fun z => by omega)]
      have r4_269 : W 4 269 = M 4 269 := by rw [hW, sU_ne (fun z => by omega), sU_ne (fun z => by omega), sU_ne (fun z => by omega)]
      have c1 : ∀ k, W 1 k = M 1 k := fun k => by rw [hW, sU_ne (fun z => by omega), sU_ne (fun z => by omega), sU_ne (fun z => by omega)]
      have e1 : W 1 = M 1 := funext c1
      have c92 : ∀ k : Nat, k ≠ (1 * ρ 1 + 0).toNat → W 92 k = M 92 k := fun k hk => by rw [hW, sU_ne (fun z => by omega), sU_ne (fun z => by omega), sU_ne (fun z => by omega)]
      have a92 : W 92 (1 * ρ 1 + 0).toNat = 1 * ρ 2 + 0 := by rw [hW, sU_ne (fun z => by omega), sU_ne (fun z => by omega), sU_at]
      unfold xSP
      rw [r4_262, r4_263, r4_264, e1]
      obtain ⟨p1, p2, p3⟩ := gx_xSP hI
      refine ⟨p1, fun q hq hl => ?_, fun q hq hl => by omega⟩
      have e4 : ∀ x, x ≠ 261 → W 4 x = M 4 x := fun x hx => by rw [hW, sU_ne (fun z => by omega), sU_ne (fun z => by omega), sU_ne (fun z => by omega)]
      rw [e4 _ (by omega)]
      exact p2 q hq hl
    have k_xSL : xSL W := by
      rw [hW]
      exact (uxSL rfl (uxSL rfl (uxSL (sinc_ok rfl _) hI.2.2.2.2.2.2.2.2.2.2.2.2.2.2.2.2.2.2.2.2.2.2.2.2.2.2.2.2.2.2.2.2.2.2.2.2.2.2.2.2.1)))
    have k_xSM : xSM W := by
      rw [hW]
      exact (uxSM rfl (uxSM rfl (uxSM (sinc_ok rfl _) hI.2.2.2.2.2.2.2.2.2.2.2.2.2.2.2.2.2.2.2.2.2.2.2.2.2.2.2.2.2.2.2.2.2.2.2.2.2.2.2.2.2.1)))
    have k_xSI : xSI W := by
      rw [hW]
      exact (uxSI rfl (uxSI rfl (uxSI (sinc_ok rfl _) hI.2.2.2.2.2.2.2.2.2.2.2.2.2.2.2.2.2.2.2.2.2.2.2.2.2.2.2.2.2.2.2.2.2.2.2.2.2.2.2.2.2.2)))
    have k_XC : XC W := ⟨k_xS1, k_xS2, k_xS3, k_xS4, k_xS5, k_xS6, k_xS7, k_xS8, k_xS9, k_xSA, k_xSG, k_xSF, k_xSB, k_xSC, k_xSD, k_xSE, k_xSW, k_xST, k_xSP, k_xSL, k_xSM, k_xSI⟩
    have kXB : XB W := ⟨k_xN1, k_xN2, k_xN3, k_xN4, k_xN5, k_xN6, k_xH1, k_xK1, k_xC1, k_xRW, k_xWT, k_xCU, k_xG2, k_xG3, k_xG4, k_xG5, k_xG6, k_XC⟩
    exact ⟨base, k2, k3, kXA, kXB⟩
-- fdC18
def xr_642 : qRu := (11, [[(-18, 0), (1, 1), (-1, 4)], [(18, 0), (-1, 1), (1, 4)], [(1, 1), (-1, 3)], [(1, 4)], [(699, 0), (-1, 1)], [(1, 1)], [(-8, 0), (1, 6)], [(8, 0), (-1, 6)], [(1, 5), (-1, 8)], [(-1, 5), (1, 8)], [(-1, 2), (1, 9)], [(1, 2), (-1, 9)], [(-1, 7), (1, 10)], [(1, 7), (-1, 10)], [(128, 0), (1, 2)], [(127, 0), (-1, 2)]], [(4, 100, []), (4, 261, [(1, 3)]), (4, 262, [(18, 0)]), (4, 263, [(1, 4)]), (4, 269, [(1, 8)]), (91, 259, [(1, 0)]), (91, 248, [(1, 10)]), (91, 258, [(1, 9)]), (91, 249, [(1, 0)]), (91, 250, [(1, 5)]), (91, 251, [(1, 6)]), (91, 252, [(1, 7)])], [(1, [(1, 1)], [(1, 2)])], [(4, 262, [(19, 0)])], [])
theorem xo_642 : qRok xr_642 := by
  intro ρ M h0 hf hm hI
  have f0 := hf [(-18, 0), (1, 1), (-1, 4)] (by decide)
  have f1 := hf [(18, 0), (-1, 1), (1, 4)] (by decide)
  have f2 := hf [(1, 1), (-1, 3)] (by decide)
  have f3 := hf [(1, 4)] (by decide)
  have f4 := hf [(699, 0), (-1, 1)] (by decide)
  have f5 := hf [(1, 1)] (by decide)
  have f6 := hf [(-8, 0), (1, 6)] (by decide)
  have f7 := hf [(8, 0), (-1, 6)] (by decide)
  have f8 := hf [(1, 5), (-1, 8)] (by decide)
  have f9 := hf [(-1, 5), (1, 8)] (by decide)
  have f10 := hf [(-1, 2), (1, 9)] (by decide)
  have f11 := hf [(1, 2), (-1, 9)] (by decide)
  have f12 := hf [(-1, 7), (1, 10)] (by decide)
  have f13 := hf [(1, 7), (-1, 10)] (by decide)
  have f14 := hf [(128, 0), (1, 2)] (by decide)
  have f15 := hf [(127, 0), (-1, 2)] (by decide)
  simp only [qD, h0] at f0 f1 f2 f3 f4 f5 f6 f7 f8 f9 f10 f11 f12 f13 f14 f15
  have m0 : M 4 100 = 0 := hm (4, 100, []) (by decide)
  have m1 : M 4 261 = 1 * ρ 3 + 0 := hm (4, 261, [(1, 3)]) (by decide)
  have m2 : M 4 262 = 18 * ρ 0 + 0 := hm (4, 262, [(18, 0)]) (by decide)
  have m3 : M 4 263 = 1 * ρ 4 + 0 := hm (4, 263, [(1, 4)]) (by decide)
  have m4 : M 4 269 = 1 * ρ 8 + 0 := hm (4, 269, [(1, 8)]) (by decide)
  have m5 : M 91 259 = 1 * ρ 0 + 0 := hm (91, 259, [(1, 0)]) (by decide)
  have m6 : M 91 248 = 1 * ρ 10 + 0 := hm (91, 248, [(1, 10)]) (by decide)
  have m7 : M 91 258 = 1 * ρ 9 + 0 := hm (91, 258, [(1, 9)]) (by decide)
  have m8 : M 91 249 = 1 * ρ 0 + 0 := hm (91, 249, [(1, 0)]) (by decide)
  have m9 : M 91 250 = 1 * ρ 5 + 0 := hm (91, 250, [(1, 5)]) (by decide)
  have m10 : M 91 251 = 1 * ρ 6 + 0 := hm (91, 251, [(1, 6)]) (by decide)
  have m11 : M 91 252 = 1 * ρ 7 + 0 := hm (91, 252, [(1, 7)]) (by decide)
  simp only [h0] at m2 m5 m8
  have qxST := hI.2.2.2.2.2.2.2.2.2.2.2.2.2.2.2.2.2.2.2.2.2.2.2.2.2.2.2.2.2.2.2.2.2.2.2.2.2.2.1
  have qxSP := hI.2.2.2.2.2.2.2.2.2.2.2.2.2.2.2.2.2.2.2.2.2.2.2.2.2.2.2.2.2.2.2.2.2.2.2.2.2.2.2.1
  obtain ⟨g1, g2, g3, g4⟩ := gx_xSE hI (by omega)
  have tb : xop 1 (M 91 252) 255 = tBy (M 4 269) 18 := by
    unfold tBy
    rw [g1, show M 91 250 = M 4 269 by omega, show M 91 251 = 8 by omega]
    rfl

  have gi := gx_xSI hI (by omega)
  rw [show M 91 248 = M 91 252 by omega] at gi
  refine ⟨ρ, fun _ _ => rfl, fun f h => ?_, ?_⟩
  · exact nomatch h
  · show sI (sU (sU M 1 (1 * ρ 1 + 0 : Int).toNat (1 * ρ 2 + 0)) 4 262 (19 * ρ 0 + 0))
    obtain ⟨W, hW⟩ : ∃ W, W = (sU (sU M 1 (1 * ρ 1 + 0).toNat (1 * ρ 2 + 0)) 4 262 (19 * ρ 0 + 0)) := ⟨_, rfl⟩
    rw [← hW]
    have base : sI0 W := by
      rw [hW]
      exact (si_u0 (si_u0 hI.1 (fun r hr => by rw [xt_1 hr]; exact ⟨by show (-128 : Int) ≤ _; omega, by show _ ≤ (127 : Int); omega⟩)) (fun r hr => by cases hr))
    have k2 : XI2 W := by
      rw [hW]
      exact (xi2_u rfl (xi2_u (sinc_ok rfl _) hI.2.1))
    have k3 : XI3 W := by
      rw [hW]
      exact (xi3_u rfl (xi3_u (sinc_ok rfl _) hI.2.2.1))
    have kXA : XA W := by
      rw [hW]
      exact (uXA rfl (uXA (sinc_ok rfl _) hI.2.2.2.1))
    have k_xN1 : xN1 W := by
      rw [hW]
      exact (uxN1 rfl (uxN1 (sinc_ok rfl _) hI.2.2.2.2.1))
    have k_xN2 : xN2 W := by
      rw [hW]
      exact (uxN2 rfl (uxN2 (sinc_ok rfl _) hI.2.2.2.2.2.1))
    have k_xN3 : xN3 W := by
      rw [hW]
      exact (uxN3 rfl (uxN3 (sinc_ok rfl _) hI.2.2.2.2.2.2.1))
    have k_xN4 : xN4 W := by
      rw [hW]
      exact (uxN4 rfl (uxN4 (sinc_ok rfl _) hI.2.2.2.2.2.2.2.1))
    have k_xN5 : xN5 W := by
      rw [hW]
      exact (uxN5 rfl (uxN5 (sinc_ok rfl _) hI.2.2.2.2.2.2.2.2.1))
    have k_xN6 : xN6 W := by
      rw [hW]
      exact (uxN6 rfl (uxN6 (sinc_ok rfl _) hI.2.2.2.2.2.2.2.2.2.1))
    have k_xH1 : xH1 W := by
      rw [hW]
      exact (uxH1 rfl (uxH1 (sinc_ok rfl _) hI.2.2.2.2.2.2.2.2.2.2.1))
    have k_xK1 : xK1 W := by
      rw [hW]
      exact (uxK1 rfl (uxK1 (sinc_ok rfl _) hI.2.2.2.2.2.2.2.2.2.2.2.1))
    have k_xC1 : xC1 W := by
      rw [hW]
      exact (uxC1 rfl (uxC1 (sinc_ok rfl _) hI.2.2.2.2.2.2.2.2.2.2.2.2.1))
    have k_xRW : xRW W := by
      rw [hW]
      exact (uxRW rfl (uxRW (sinc_ok rfl _) hI.2.2.2.2.2.2.2.2.2.2.2.2.2.1))
    have k_xWT : xWT W := by
      rw [hW]
      exact (uxWT rfl (uxWT (sinc_ok rfl _) hI.2.2.2.2.2.2.2.2.2.2.2.2.2.2.1))
    have k_xCU : xCU W := by
      rw [hW]
      exact (uxCU rfl (uxCU (sinc_ok rfl _) hI.2.2.2.2.2.2.2.2.2.2.2.2.2.2.2.1))
    have k_xG2 : xG2 W := by
      rw [hW]
      exact (uxG2 rfl (uxG2 (sinc_ok rfl _) hI.2.2.2.2.2.2.2.2.2.2.2.2.2.2.2.2.1))
    have k_xG3 : xG3 W := by
      rw [hW]
      exact (uxG3 rfl (uxG3 (sinc_ok rfl _) hI.2.2.2.2.2.2.2.2.2.2.2.2.2.2.2.2.2.1))
    have k_xG4 : xG4 W := by
      rw [hW]
      exact (uxG4 rfl (uxG4 (sinc_ok rfl _) hI.2.2.2.2.2.2.2.2.2.2.2.2.2.2.2.2.2.2.1))
    have k_xG5 : xG5 W := by
      rw [hW]
      exact (uxG5 rfl (uxG5 (sinc_ok rfl _) hI.2.2.2.2.2.2.2.2.2.2.2.2.2.2.2.2.2.2.2.1))
    have k_xG6 : xG6 W := by
      rw [hW]
      exact (uxG6 rfl (uxG6 (sinc_ok rfl _) hI.2.2.2.2.2.2.2.2.2.2.2.2.2.2.2.2.2.2.2.2.1))
    have k_xS1 : xS1 W := by
      have r : W 4 100 = 0 := by
        have e := m0
        rw [hW, sU_ne (fun z => by omega), sU_ne (fun z => by omega)]
        omega
      intro h
      rw [r] at h
      exact absurd rfl h
    have k_xS2 : xS2 W := by
      rw [hW]
      exact (uxS2 rfl (uxS2 (sinc_ok rfl _) hI.2.2.2.2.2.2.2.2.2.2.2.2.2.2.2.2.2.2.2.2.2.2.1))
    have k_xS3 : xS3 W := by
      rw [hW]
      exact (uxS3 rfl (uxS3 (sinc_ok rfl _) hI.2.2.2.2.2.2.2.2.2.2.2.2.2.2.2.2.2.2.2.2.2.2.2.1))
    have k_xS4 : xS4 W := by
      rw [hW]
      exact (uxS4 rfl (uxS4 (sinc_ok rfl _) hI.2.2.2.2.2.2.2.2.2.2.2.2.2.2.2.2.2.2.2.2.2.2.2.2.1))
    have k_xS5 : xS5 W := by
      rw [hW]
      exact (uxS5 rfl (uxS5 (sinc_ok rfl _) hI.2.2.2.2.2.2.2.2.2.2.2.2.2.2.2.2.2.2.2.2.2.2.2.2.2.1))
    have k_xS6 : xS6 W := by
      rw [hW]
      exact (uxS6 rfl (uxS6 (sinc_ok rfl _) hI.2.2.2.2.2.2.2.2.2.2.2.2.2.2.2.2.2.2.2.2.2.2.2.2.2.2.1))
    have k_xS7 : xS7 W := by
      rw [hW]
      exact (uxS7 rfl (uxS7 (sinc_ok rfl _) hI.2.2.2.2.2.2.2.2.2.2.2.2.2.2.2.2.2.2.2.2.2.2.2.2.2.2.2.1))
    have k_xS8 : xS8 W := by
      rw [hW]
      exact (uxS8 rfl (uxS8 (sinc_ok rfl _) hI.2.2.2.2.2.2.2.2.2.2.2.2.2.2.2.2.2.2.2.2.2.2.2.2.2.2.2.2.1))
    have k_xS9 : xS9 W := by
      rw [hW]
      exact (uxS9 rfl (uxS9 (sinc_ok rfl _) hI.2.2.2.2.2.2.2.2.2.2.2.2.2.2.2.2.2.2.2.2.2.2.2.2.2.2.2.2.2.1))
    have k_xSA : xSA W := by
      rw [hW]
      exact (uxSA rfl (uxSA (sinc_ok rfl _) hI.2.2.2.2.2.2.2.2.2.2.2.2.2.2.2.2.2.2.2.2.2.2.2.2.2.2.2.2.2.2.1))
    have k_xSG : xSG W := by
      rw [hW]
      exact (uxSG rfl (uxSG (sinc_ok rfl _) hI.2.2.2.2.2.2.2.2.2.2.2.2.2.2.2.2.2.2.2.2.2.2.2.2.2.2.2.2.2.2.2.1))
    have k_xSF : xSF W := by
      rw [hW]
      exact (uxSF rfl (uxSF (sinc_ok rfl _) hI.2.2.2.2.2.2.2.2.2.2.2.2.2.2.2.2.2.2.2.2.2.2.2.2.2.2.2.2.2.2.2.2.1))
    have k_xSB : xSB W := by
      rw [hW]
      exact (uxSB rfl (uxSB (sinc_ok rfl _) hI.2.2.2.2.2.2.2.2.2.2.2.2.2.2.2.2.2.2.2.2.2.2.2.2.2.2.2.2.2.2.2.2.2.1))
    have k_xSC : xSC W := by
      rw [hW]
      exact (uxSC rfl (uxSC (sinc_ok rfl _) hI.2.2.2.2.2.2.2.2.2.2.2.2.2.2.2.2.2.2.2.2.2.2.2.2.2.2.2.2.2.2.2.2.2.2.1))
    have k_xSD : xSD W := by
      rw [hW]
      exact (uxSD rfl (uxSD (sinc_ok rfl _) hI.2.2.2.2.2.2.2.2.2.2.2.2.2.2.2.2.2.2.2.2.2.2.2.2.2.2.2.2.2.2.2.2.2.2.2.1))
    have k_xSE : xSE W := by
      rw [hW]
      exact (uxSE rfl (uxSE (sinc_ok rfl _) hI.2.2.2.2.2.2.2.2.2.2.2.2.2.2.2.2.2.2.2.2.2.2.2.2.2.2.2.2.2.2.2.2.2.2.2.2.1))
    have k_xSW : xSW W := by
      rw [hW]
      exact (uxSW rfl (uxSW (sinc_ok rfl _) hI.2.2.2.2.2.2.2.2.2.2.2.2.2.2.2.2.2.2.2.2.2.2.2.2.2.2.2.2.2.2.2.2.2.2.2.2.2.1))
    have k_xST : xST W := by
      have r4_261 : W 4 261 = M 4 261 := by rw [hW, sU_ne (fun z => by omega), sU_ne (fun z => by omega)]
      have c1 : ∀ k : Nat, k ≠ (1 * ρ 1 + 0).toNat → W 1 k = M 1 k := fun k hk => by rw [hW, sU_ne (fun z => by omega), sU_ne (fun z => by omega)]
      have a1 : W 1 (1 * ρ 1 + 0).toNat = 1 * ρ 2 + 0 := by rw [hW, sU_ne (fun z => by omega), sU_at]
      have c92 : ∀ k, W 92 k = M 92 k := fun k => by rw [hW, sU_ne (fun z => by omega), sU_ne (fun z => by omega)]
      have e92 : W 92 = M 92 := funext c92
      intro i hi
      rw [r4_261] at hi
      rw [c1 i (by omega), e92]
      exact qxST i hi
    have k_xSP : xSP W := by
      have r4_262 : W 4 262 = 19 * ρ 0 + 0 := by rw [hW, sU_at]
      have r4_263 : W 4 263 = M 4 263 := by rw [hW, sU_ne (fun z => by omega), sU_ne (fun z => by omega)]
      have r4_264 : W 4 264 = M 4 264 := by rw [hW, sU_ne (fun z => by omega), sU_ne (fun z => by omega)]
      have r4_265 : W 4 265 = M 4 265 := by rw [hW, sU_ne (fun z => by omega), sU_ne (fun z => by omega)]
      have r4_266 : W 4 266 = M 4 266 := by rw [hW, sU_ne (fun z => by omega), sU_ne (fun z => by omega)]
      have r4_267 : W 4 267 = M 4 267 := by rw [hW, sU_ne (fun z => by omega), sU_ne (fun z => by omega)]
      have r4_268 : W 4 268 = M 4 268 := by rw [hW, sU_ne (fun z => by omega), sU_ne (fun z => by omega)]
      have r4_269 : W 4 269 = M 4 269 := by rw [hW, sU_ne (fun z => by omega), sU_ne (fun z => by omega)]
      have c1 : ∀ k : Nat, k ≠ (1 * ρ 1 + 0).toNat → W 1 k = M 1 k := fun k hk => by rw [hW, sU_ne (fun z => by omega), sU_ne (fun z => by omega)]
      have a1 : W 1 (1 * ρ 1 + 0).toNat = 1 * ρ 2 + 0 := by rw [hW, sU_ne (fun z => by omega), sU_at]
      have c92 : ∀ k, W 92 k = M 92 k := fun k => by rw [hW, sU_ne (fun z => by omega), sU_ne (fun z => by omega)]
      have e92 : W 92 = M 92 := funext c92
      unfold xSP
      rw [r4_262, r4_263, r4_264, e92]
      obtain ⟨p1, p2, p3⟩ := qxSP
      have e4 : ∀ x, x ≠ 262 → W 4 x = M 4 x := fun x hx => by rw [hW, sU_ne (fun z => by omega), sU_ne (fun z => by omega)]
      refine ⟨p1, fun q hq hl => ?_, fun q hq hl => by rw [e4 _ (by omega)]; exact p3 q hq hl⟩
      rw [h0] at hl
      rw [e4 _ (by omega)]
      by_cases hj : q = 18
      · subst hj
        show W 1 ((M 4 263).toNat + 18) = tSn (tBy (M 4 269) 18)
        rw [show (M 4 263).toNat + 18 = (1 * ρ 1 + 0).toNat by omega, a1, ← tb]
        have := xi2b (M 91 252)
        omega
      · rw [c1 _ (by omega)]
        exact p2 q hq (by omega)
    have k_xSL : xSL W := by
      rw [hW]
      exact (uxSL rfl (uxSL (sinc_ok rfl _) hI.2.2.2.2.2.2.2.2.2.2.2.2.2.2.2.2.2.2.2.2.2.2.2.2.2.2.2.2.2.2.2.2.2.2.2.2.2.2.2.2.1))
    have k_xSM : xSM W := by
      rw [hW]
      exact (uxSM rfl (uxSM (sinc_ok rfl _) hI.2.2.2.2.2.2.2.2.2.2.2.2.2.2.2.2.2.2.2.2.2.2.2.2.2.2.2.2.2.2.2.2.2.2.2.2.2.2.2.2.2.1))
    have k_xSI : xSI W := by
      rw [hW]
      exact (uxSI rfl (uxSI (sinc_ok rfl _) hI.2.2.2.2.2.2.2.2.2.2.2.2.2.2.2.2.2.2.2.2.2.2.2.2.2.2.2.2.2.2.2.2.2.2.2.2.2.2.2.2.2.2))
    have k_XC : XC W := ⟨k_xS1, k_xS2, k_xS3, k_xS4, k_xS5, k_xS6, k_xS7, k_xS8, k_xS9, k_xSA, k_xSG, k_xSF, k_xSB, k_xSC, k_xSD, k_xSE, k_xSW, k_xST, k_xSP, k_xSL, k_xSM, k_xSI⟩
    have kXB : XB W := ⟨k_xN1, k_xN2, k_xN3, k_xN4, k_xN5, k_xN6, k_xH1, k_xK1, k_xC1, k_xRW, k_xWT, k_xCU, k_xG2, k_xG3, k_xG4, k_xG5, k_xG6, k_XC⟩
    exact ⟨base, k2, k3, kXA, kXB⟩
-- fdW18
def xr_643 : qRu := (11, [[(-18, 0), (1, 1), (-1, 4)], [(18, 0), (-1, 1), (1, 4)], [(1, 1), (-1, 3)], [(-1, 1), (1, 3)], [(1, 4)], [(699, 0), (-1, 1)], [(1, 1)], [(-8, 0), (1, 6)], [(8, 0), (-1, 6)], [(1, 5), (-1, 8)], [(-1, 5), (1, 8)], [(-1, 2), (1, 9)], [(1, 2), (-1, 9)], [(1, 2)], [(255, 0), (-1, 2)]], [(4, 261, [(1, 3)]), (4, 262, [(20, 0)]), (4, 263, [(1, 4)]), (4, 264, []), (4, 269, [(1, 8)]), (91, 257, [(1, 9)]), (4, 100, []), (4, 200, []), (4, 210, []), (4, 212, []), (4, 214, []), (4, 220, []), (4, 233, []), (4, 235, []), (91, 249, [(1, 0)]), (91, 250, [(1, 5)]), (91, 251, [(1, 6)]), (91, 252, [(1, 7)])], [(92, [(1, 1)], [(1, 2)])], [(91, 990, [(1, 11)]), (4, 261, [(1, 0), (1, 3)])], [])
theorem xo_643 : qRok xr_643 := by
  intro ρ M h0 hf hm hI
  have f0 := hf [(-18, 0), (1, 1), (-1, 4)] (by decide)
  have f1 := hf [(18, 0), (-1, 1), (1, 4)] (by decide)
  have f2 := hf [(1, 1), (-1, 3)] (by decide)
  have f3 := hf [(-1, 1), (1, 3)] (by decide)
  have f4 := hf [(1, 4)] (by decide)
  have f5 := hf [(699, 0), (-1, 1)] (by decide)
  have f6 := hf [(1, 1)] (by decide)
  have f7 := hf [(-8, 0), (1, 6)] (by decide)
  have f8 := hf [(8, 0), (-1, 6)] (by decide)
  have f9 := hf [(1, 5), (-1, 8)] (by decide)
  have f10 := hf [(-1, 5), (1, 8)] (by decide)
  have f11 := hf [(-1, 2), (1, 9)] (by decide)
  have f12 := hf [(1, 2), (-1, 9)] (by decide)
  have f13 := hf [(1, 2)] (by decide)
  have f14 := hf [(255, 0), (-1, 2)] (by decide)
  simp only [qD, h0] at f0 f1 f2 f3 f4 f5 f6 f7 f8 f9 f10 f11 f12 f13 f14
  have m0 : M 4 261 = 1 * ρ 3 + 0 := hm (4, 261, [(1, 3)]) (by decide)
  have m1 : M 4 262 = 20 * ρ 0 + 0 := hm (4, 262, [(20, 0)]) (by decide)
  have m2 : M 4 263 = 1 * ρ 4 + 0 := hm (4, 263, [(1, 4)]) (by decide)
  have m3 : M 4 264 = 0 := hm (4, 264, []) (by decide)
  have m4 : M 4 269 = 1 * ρ 8 + 0 := hm (4, 269, [(1, 8)]) (by decide)
  have m5 : M 91 257 = 1 * ρ 9 + 0 := hm (91, 257, [(1, 9)]) (by decide)
  have m6 : M 4 100 = 0 := hm (4, 100, []) (by decide)
  have m7 : M 4 200 = 0 := hm (4, 200, []) (by decide)
  have m8 : M 4 210 = 0 := hm (4, 210, []) (by decide)
  have m9 : M 4 212 = 0 := hm (4, 212, []) (by decide)
  have m10 : M 4 214 = 0 := hm (4, 214, []) (by decide)
  have m11 : M 4 220 = 0 := hm (4, 220, []) (by decide)
  have m12 : M 4 233 = 0 := hm (4, 233, []) (by decide)
  have m13 : M 4 235 = 0 := hm (4, 235, []) (by decide)
  have m14 : M 91 249 = 1 * ρ 0 + 0 := hm (91, 249, [(1, 0)]) (by decide)
  have m15 : M 91 250 = 1 * ρ 5 + 0 := hm (91, 250, [(1, 5)]) (by decide)
  have m16 : M 91 251 = 1 * ρ 6 + 0 := hm (91, 251, [(1, 6)]) (by decide)
  have m17 : M 91 252 = 1 * ρ 7 + 0 := hm (91, 252, [(1, 7)]) (by decide)
  simp only [h0] at m1 m14
  have qxST := hI.2.2.2.2.2.2.2.2.2.2.2.2.2.2.2.2.2.2.2.2.2.2.2.2.2.2.2.2.2.2.2.2.2.2.2.2.2.2.1
  have qxSP := hI.2.2.2.2.2.2.2.2.2.2.2.2.2.2.2.2.2.2.2.2.2.2.2.2.2.2.2.2.2.2.2.2.2.2.2.2.2.2.2.1
  obtain ⟨g1, g2, g3, g4⟩ := gx_xSE hI (by omega)
  have tb : xop 1 (M 91 252) 255 = tBy (M 4 269) 18 := by
    unfold tBy
    rw [g1, show M 91 250 = M 4 269 by omega, show M 91 251 = 8 by omega]
    rfl

  have g257 := g4
  refine ⟨fun a => cond (Nat.blt a 11) (ρ a) (([xH (sU M 92 (1 * ρ 1 + 0).toNat (1 * ρ 2 + 0))] : List Int).getD (a - 11) 0), fun a ha => ?_, fun f h => ?_, ?_⟩
  · show cond (Nat.blt a 11) (ρ a) _ = ρ a
    rw [show Nat.blt a 11 = true from Nat.ble_eq_true_of_le ha]; rfl
  · exact nomatch h
  · show sI (sU (sU (sU M 92 (1 * ρ 1 + 0 : Int).toNat (1 * ρ 2 + 0)) 91 990 (1 * (xH (sU M 92 (1 * ρ 1 + 0).toNat (1 * ρ 2 + 0))) + 0)) 4 261 (1 * ρ 0 + (1 * ρ 3 + 0)))
    obtain ⟨W, hW⟩ : ∃ W, W = (sU (sU (sU M 92 (1 * ρ 1 + 0).toNat (1 * ρ 2 + 0)) 91 990 (1 * (xH (sU M 92 (1 * ρ 1 + 0).toNat (1 * ρ 2 + 0))) + 0)) 4 261 (1 * ρ 0 + (1 * ρ 3 + 0))) := ⟨_, rfl⟩
    rw [← hW]
    have base : sI0 W := by
      rw [hW]
      exact (si_u0 (si_u0 (si_u0 hI.1 (fun r hr => by rw [xt_92 hr]; exact ⟨by show (0 : Int) ≤ _; omega, by show _ ≤ (255 : Int); omega⟩)) (fun r hr => by cases hr)) (fun r hr => by cases hr))
    have k2 : XI2 W := by
      refine xi2_congr (fun o k hz ho => ?_) hI.2.1
      have h4 : ¬ (o = 4 ∧ k = 261) := fun z => by rw [z.1, z.2] at hz; exact absurd hz (by decide +kernel)
      rw [hW, sU_ne h4, sU_ne (fun z => by omega), sU_ne (fun z => by omega)]
    have k3 : XI3 W := by
      unfold XI3
      rw [hW]
      rw [sU_ne (fun z => by omega), sU_at]
      have e : ∀ o' k' x y, ¬ (o' = 91 ∧ k' = 990) → ¬ (o' = 4 ∧ k' = 261) → sU (sU (sU M 92 (1 * ρ 1 + 0).toNat (1 * ρ 2 + 0)) 91 990 x) 4 261 y o' k' = sU M 92 (1 * ρ 1 + 0).toNat (1 * ρ 2 + 0) o' k' := fun o' k' x y h h' => by rw [sU_ne h', sU_ne h]
      rw [show ∀ z : Int, 1 * z + 0 = z from fun z => by omega]
      unfold xH
      rw [e _ _ _ _ (by omega) (by omega), e _ _ _ _ (by omega) (by omega), e _ _ _ _ (by omega) (by omega)]
    have kXA : XA W := by
      rw [hW]
      exact (uXA rfl (uXA rfl (uXA (sinc_ok rfl _) hI.2.2.2.1)))
    have k_xN1 : xN1 W := by
      rw [hW]
      exact (uxN1 rfl (uxN1 rfl (uxN1 (sinc_ok rfl _) hI.2.2.2.2.1)))
    have k_xN2 : xN2 W := by
      rw [hW]
      exact (uxN2 rfl (uxN2 rfl (uxN2 (sinc_ok rfl _) hI.2.2.2.2.2.1)))
    have k_xN3 : xN3 W := by
      rw [hW]
      exact (uxN3 rfl (uxN3 rfl (uxN3 (sinc_ok rfl _) hI.2.2.2.2.2.2.1)))
    have k_xN4 : xN4 W := by
      rw [hW]
      exact (uxN4 rfl (uxN4 rfl (uxN4 (sinc_ok rfl _) hI.2.2.2.2.2.2.2.1)))
    have k_xN5 : xN5 W := by
      rw [hW]
      exact (uxN5 rfl (uxN5 rfl (uxN5 (sinc_ok rfl _) hI.2.2.2.2.2.2.2.2.1)))
    have k_xN6 : xN6 W := by
      rw [hW]
      exact (uxN6 rfl (uxN6 rfl (uxN6 (sinc_ok rfl _) hI.2.2.2.2.2.2.2.2.2.1)))
    have k_xH1 : xH1 W := by
      rw [hW]
      exact (uxH1 rfl (uxH1 rfl (uxH1 (sinc_ok rfl _) hI.2.2.2.2.2.2.2.2.2.2.1)))
    have k_xK1 : xK1 W := by
      rw [hW]
      exact (uxK1 rfl (uxK1 rfl (uxK1 (sinc_ok rfl _) hI.2.2.2.2.2.2.2.2.2.2.2.1)))
    have k_xC1 : xC1 W := by
      rw [hW]
      exact (uxC1 rfl (uxC1 rfl (uxC1 (sinc_ok rfl _) hI.2.2.2.2.2.2.2.2.2.2.2.2.1)))
    have k_xRW : xRW W := by
      rw [hW]
      exact (uxRW rfl (uxRW rfl (uxRW (sinc_ok rfl _) hI.2.2.2.2.2.2.2.2.2.2.2.2.2.1)))
    have k_xWT : xWT W := by
      rw [hW]
      exact (uxWT rfl (uxWT rfl (uxWT (sinc_ok rfl _) hI.2.2.2.2.2.2.2.2.2.2.2.2.2.2.1)))
    have k_xCU : xCU W := by
      rw [hW]
      exact (uxCU rfl (uxCU rfl (uxCU (sinc_ok rfl _) hI.2.2.2.2.2.2.2.2.2.2.2.2.2.2.2.1)))
    have k_xG2 : xG2 W := by
      rw [hW]
      exact (uxG2 rfl (uxG2 rfl (uxG2 (sinc_ok rfl _) hI.2.2.2.2.2.2.2.2.2.2.2.2.2.2.2.2.1)))
    have k_xG3 : xG3 W := by
      rw [hW]
      exact (uxG3 rfl (uxG3 rfl (uxG3 (sinc_ok rfl _) hI.2.2.2.2.2.2.2.2.2.2.2.2.2.2.2.2.2.1)))
    have k_xG4 : xG4 W := by
      rw [hW]
      exact (uxG4 rfl (uxG4 rfl (uxG4 (sinc_ok rfl _) hI.2.2.2.2.2.2.2.2.2.2.2.2.2.2.2.2.2.2.1)))
    have k_xG5 : xG5 W := by
      rw [hW]
      exact (uxG5 rfl (uxG5 rfl (uxG5 (sinc_ok rfl _) hI.2.2.2.2.2.2.2.2.2.2.2.2.2.2.2.2.2.2.2.1)))
    have k_xG6 : xG6 W := by
      rw [hW]
      exact (uxG6 rfl (uxG6 rfl (uxG6 (sinc_ok rfl _) hI.2.2.2.2.2.2.2.2.2.2.2.2.2.2.2.2.2.2.2.2.1)))
    have k_xS1 : xS1 W := by
      have r : W 4 100 = 0 := by
        have e := m6
        rw [hW, sU_ne (fun z => by omega), sU_ne (fun z => by omega), sU_ne (fun z => by omega)]
        omega
      intro h
      rw [r] at h
      exact absurd rfl h
    have k_xS2 : xS2 W := by
      have r : W 4 100 = 0 := by
        have e := m6
        rw [hW, sU_ne (fun z => by omega), sU_ne (fun z => by omega), sU_ne (fun z => by omega)]
        omega
      intro h
      rw [r] at h
      exact absurd rfl h
    have k_xS3 : xS3 W := by
      have r : W 4 100 = 0 := by
        have e := m6
        rw [hW, sU_ne (fun z => by omega), sU_ne (fun z => by omega), sU_ne (fun z => by omega)]
        omega
      intro h
      rw [r] at h
      exact absurd rfl h
    have k_xS4 : xS4 W := by
      rw [hW]
      exact (uxS4 rfl (uxS4 rfl (uxS4 (sinc_ok rfl _) hI.2.2.2.2.2.2.2.2.2.2.2.2.2.2.2.2.2.2.2.2.2.2.2.2.1)))
    have k_xS5 : xS5 W := by
      rw [hW]
      exact (uxS5 rfl (uxS5 rfl (uxS5 (sinc_ok rfl _) hI.2.2.2.2.2.2.2.2.2.2.2.2.2.2.2.2.2.2.2.2.2.2.2.2.2.1)))
    have k_xS6 : xS6 W := by
      rw [hW]
      exact (uxS6 rfl (uxS6 rfl (uxS6 (sinc_ok rfl _) hI.2.2.2.2.2.2.2.2.2.2.2.2.2.2.2.2.2.2.2.2.2.2.2.2.2.2.1)))
    have k_xS7 : xS7 W := by
      have r : W 4 200 = 0 := by
        have e := m7
        rw [hW, sU_ne (fun z => by omega), sU_ne (fun z => by omega), sU_ne (fun z => by omega)]
        omega
      intro h
      rw [r] at h
      omega
    have k_xS8 : xS8 W := by
      have r : W 4 210 = 0 := by
        have e := m8
        rw [hW, sU_ne (fun z => by omega), sU_ne (fun z => by omega), sU_ne (fun z => by omega)]
        omega
      intro h
      rw [r] at h
      omega
    have k_xS9 : xS9 W := by
      have r : W 4 212 = 0 := by
        have e := m9
        rw [hW, sU_ne (fun z => by omega), sU_ne (fun z => by omega), sU_ne (fun z => by omega)]
        omega
      intro h
      rw [r] at h
      omega
    have k_xSA : xSA W := by
      have r : W 4 214 = 0 := by
        have e := m10
        rw [hW, sU_ne (fun z => by omega), sU_ne (fun z => by omega), sU_ne (fun z => by omega)]
        omega
      intro h
      rw [r] at h
      omega
    have k_xSG : xSG W := by
      have r : W 4 235 = 0 := by
        have e := m13
        rw [hW, sU_ne (fun z => by omega), sU_ne (fun z => by omega), sU_ne (fun z => by omega)]
        omega
      intro h
      rw [r] at h
      omega
    have k_xSF : xSF W := by
      have r : W 4 233 = 0 := by
        have e := m12
        rw [hW, sU_ne (fun z => by omega), sU_ne (fun z => by omega), sU_ne (fun z => by omega)]
        omega
      intro h
      rw [r] at h
      omega
    have k_xSB : xSB W := by
      have r : W 4 220 = 0 := by
        have e := m11
        rw [hW, sU_ne (fun z => by omega), sU_ne (fun z => by omega), sU_ne (fun z => by omega)]
        omega
      intro h
      rw [r] at h
      omega
    have k_xSC : xSC W := by
      rw [hW]
      exact (uxSC rfl (uxSC rfl (uxSC (sinc_ok rfl _) hI.2.2.2.2.2.2.2.2.2.2.2.2.2.2.2.2.2.2.2.2.2.2.2.2.2.2.2.2.2.2.2.2.2.2.1)))
    have k_xSD : xSD W := by
      rw [hW]
      exact (uxSD rfl (uxSD rfl (uxSD (sinc_ok rfl _) hI.2.2.2.2.2.2.2.2.2.2.2.2.2.2.2.2.2.2.2.2.2.2.2.2.2.2.2.2.2.2.2.2.2.2.2.1)))
    have k_xSE : xSE W := by
      rw [hW]
      exact (uxSE rfl (uxSE rfl (uxSE (sinc_ok rfl _) hI.2.2.2.2.2.2.2.2.2.2.2.2.2.2.2.2.2.2.2.2.2.2.2.2.2.2.2.2.2.2.2.2.2.2.2.2.1)))
    have k_xSW : xSW W := by
      rw [hW]
      exact (uxSW rfl (uxSW rfl (uxSW (sinc_ok rfl _) hI.2.2.2.2.2.2.2.2.2.2.2.2.2.2.2.2.2.2.2.2.2.2.2.2.2.2.2.2.2.2.2.2.2.2.2.2.2.1)))
    have k_xST : xST W := by
      have r4_261 : W 4 261 = 1 * ρ 0 + (1 * ρ 3 + 0) := by rw [hW, sU_at]
      have c1 : ∀ k, W 1 k = M 1 k := fun k => by rw [hW, sU_ne (fun z => by omega), sU_ne (fun z => by omega), sU_ne (fun z => by omega)]
      have e1 : W 1 = M 1 := funext c1
      have c92 : ∀ k : Nat, k ≠ (1 * ρ 1 + 0).toNat → W 92 k = M 92 k := fun k hk => by rw [hW, sU_ne (fun z => by omega), sU_ne (fun z => by omega), sU_ne (fun z => by omega)]
      have a92 : W 92 (1 * ρ 1 + 0).toNat = 1 * ρ 2 + 0 := by rw [hW, sU_ne (fun z => by omega), sU_ne (fun z => by omega), sU_at]
      intro i hi
      rw [r4_261, h0] at hi
      rw [e1]
      by_cases hx : i = (1 * ρ 1 + 0).toNat
      · rw [hx, a92]
        obtain ⟨p1, p2, p3⟩ := gx_xSP hI
        have := p2 18 (by omega) (by omega)
        rw [show (M 4 263).toNat + 18 = (1 * ρ 1 + 0).toNat by omega] at this
        have this : M 1 (1 * ρ 1 + 0).toNat = tSn (tBy (M 4 269) 18) := this
        rw [this, ← tb]
        congr 1
        omega
      · rw [c92 i hx]
        exact qxST i (by omega)
    have k_xSP : xSP W := by
      have r4_262 : W 4 262 = M 4 262 := by rw [hW, sU_ne (fun z => by omega), sU_ne (fun z => by omega), sU_ne (fun z => by omega)]
      have r4_263 : W 4 263 = M 4 263 := by rw [hW, sU_ne (fun z => by omega), sU_ne (fun z => by omega), sU_ne (fun z => by omega)]
      have r4_264 : W 4 264 = M 4 264 := by rw [hW, sU_ne (fun z => by omega), sU_ne (fun z => by omega), sU_ne (fun z => by omega)]
      have r4_265 : W 4 265 = M 4 265 := by rw [hW, sU_ne (fun z => by omega), sU_ne (fun z => by omega), sU_ne (fun z => by omega)]
      have r4_266 : W 4 266 = M 4 266 := by rw [hW, sU_ne (fun z => by omega), sU_ne (fun z => by omega), sU_ne (fun z => by omega)]
      have r4_267 : W 4 267 = M 4 267 := by rw [hW, sU_ne (fun z => by omega), sU_ne (fun z => by omega), sU_ne (fun z => by omega)]
      have r4_268 : W 4 268 = M 4 268 := by rw [hW, sU_ne (fun z => by omega), sU_ne (fun z => by omega), sU_ne (fun z => by omega)]
      have r4_269 : W 4 269 = M 4 269 := by rw [hW, sU_ne (fun z => by omega), sU_ne (fun z => by omega), sU_ne (fun z => by omega)]
      have c1 : ∀ k, W 1 k = M 1 k := fun k => by rw [hW, sU_ne (fun z => by omega), sU_ne (fun z => by omega), sU_ne (fun z => by omega)]
      have e1 : W 1 = M 1 := funext c1
      have c92 : ∀ k : Nat, k ≠ (1 * ρ 1 + 0).toNat → W 92 k = M 92 k := fun k hk => by rw [hW, sU_ne (fun z => by omega), sU_ne (fun z => by omega), sU_ne (fun z => by omega)]
      have a92 : W 92 (1 * ρ 1 + 0).toNat = 1 * ρ 2 + 0 := by rw [hW, sU_ne (fun z => by omega), sU_ne (fun z => by omega), sU_at]
      unfold xSP
      rw [r4_262, r4_263, r4_264, e1]
      obtain ⟨p1, p2, p3⟩ := gx_xSP hI
      refine ⟨p1, fun q hq hl => ?_, fun q hq hl => by omega⟩
      have e4 : ∀ x, x ≠ 261 → W 4 x = M 4 x := fun x hx => by rw [hW, sU_ne (fun z => by omega), sU_ne (fun z => by omega), sU_ne (fun z => by omega)]
      rw [e4 _ (by omega)]
      exact p2 q hq hl
    have k_xSL : xSL W := by
      rw [hW]
      exact (uxSL rfl (uxSL rfl (uxSL (sinc_ok rfl _) hI.2.2.2.2.2.2.2.2.2.2.2.2.2.2.2.2.2.2.2.2.2.2.2.2.2.2.2.2.2.2.2.2.2.2.2.2.2.2.2.2.1)))
    have k_xSM : xSM W := by
      rw [hW]
      exact (uxSM rfl (uxSM rfl (uxSM (sinc_ok rfl _) hI.2.2.2.2.2.2.2.2.2.2.2.2.2.2.2.2.2.2.2.2.2.2.2.2.2.2.2.2.2.2.2.2.2.2.2.2.2.2.2.2.2.1)))
    have k_xSI : xSI W := by
      rw [hW]
      exact (uxSI rfl (uxSI rfl (uxSI (sinc_ok rfl _) hI.2.2.2.2.2.2.2.2.2.2.2.2.2.2.2.2.2.2.2.2.2.2.2.2.2.2.2.2.2.2.2.2.2.2.2.2.2.2.2.2.2.2)))
    have k_XC : XC W := ⟨k_xS1, k_xS2, k_xS3, k_xS4, k_xS5, k_xS6, k_xS7, k_xS8, k_xS9, k_xSA, k_xSG, k_xSF, k_xSB, k_xSC, k_xSD, k_xSE, k_xSW, k_xST, k_xSP, k_xSL, k_xSM, k_xSI⟩
    have kXB : XB W := ⟨k_xN1, k_xN2, k_xN3, k_xN4, k_xN5, k_xN6, k_xH1, k_xK1, k_xC1, k_xRW, k_xWT, k_xCU, k_xG2, k_xG3, k_xG4, k_xG5, k_xG6, k_XC⟩
    exact ⟨base, k2, k3, kXA, kXB⟩
-- fdC19
def xr_644 : qRu := (11, [[(-19, 0), (1, 1), (-1, 4)], [(19, 0), (-1, 1), (1, 4)], [(1, 1), (-1, 3)], [(1, 4)], [(699, 0), (-1, 1)], [(1, 1)], [(1, 6)], [(-1, 6)], [(1, 5), (-1, 8)], [(-1, 5), (1, 8)], [(-1, 2), (1, 9)], [(1, 2), (-1, 9)], [(-1, 7), (1, 10)], [(1, 7), (-1, 10)], [(128, 0), (1, 2)], [(127, 0), (-1, 2)]], [(4, 100, []), (4, 261, [(1, 3)]), (4, 262, [(19, 0)]), (4, 263, [(1, 4)]), (4, 269, [(1, 8)]), (91, 259, [(1, 0)]), (91, 248, [(1, 10)]), (91, 258, [(1, 9)]), (91, 249, [(1, 0)]), (91, 250, [(1, 5)]), (91, 251, [(1, 6)]), (91, 252, [(1, 7)])], [(1, [(1, 1)], [(1, 2)])], [(4, 262, [(20, 0)])], [])
theorem xo_644 : qRok xr_644 := by
  intro ρ M h0 hf hm hI
  have f0 := hf [(-19, 0), (1, 1), (-1, 4)] (by decide)
  have f1 := hf [(19, 0), (-1, 1), (1, 4)] (by decide)
  have f2 := hf [(1, 1), (-1, 3)] (by decide)
  have f3 := hf [(1, 4)] (by decide)
  have f4 := hf [(699, 0), (-1, 1)] (by decide)
  have f5 := hf [(1, 1)] (by decide)
  have f6 := hf [(1, 6)] (by decide)
  have f7 := hf [(-1, 6)] (by decide)
  have f8 := hf [(1, 5), (-1, 8)] (by decide)
  have f9 := hf [(-1, 5), (1, 8)] (by decide)
  have f10 := hf [(-1, 2), (1, 9)] (by decide)
  have f11 := hf [(1, 2), (-1, 9)] (by decide)
  have f12 := hf [(-1, 7), (1, 10)] (by decide)
  have f13 := hf [(1, 7), (-1, 10)] (by decide)
  have f14 := hf [(128, 0), (1, 2)] (by decide)
  have f15 := hf [(127, 0), (-1, 2)] (by decide)
  simp only [qD, h0] at f0 f1 f2 f3 f4 f5 f6 f7 f8 f9 f10 f11 f12 f13 f14 f15
  have m0 : M 4 100 = 0 := hm (4, 100, []) (by decide)
  have m1 : M 4 261 = 1 * ρ 3 + 0 := hm (4, 261, [(1, 3)]) (by decide)
  have m2 : M 4 262 = 19 * ρ 0 + 0 := hm (4, 262, [(19, 0)]) (by decide)
  have m3 : M 4 263 = 1 * ρ 4 + 0 := hm (4, 263, [(1, 4)]) (by decide)
  have m4 : M 4 269 = 1 * ρ 8 + 0 := hm (4, 269, [(1, 8)]) (by decide)
  have m5 : M 91 259 = 1 * ρ 0 + 0 := hm (91, 259, [(1, 0)]) (by decide)
  have m6 : M 91 248 = 1 * ρ 10 + 0 := hm (91, 248, [(1, 10)]) (by decide)
  have m7 : M 91 258 = 1 * ρ 9 + 0 := hm (91, 258, [(1, 9)]) (by decide)
  have m8 : M 91 249 = 1 * ρ 0 + 0 := hm (91, 249, [(1, 0)]) (by decide)
  have m9 : M 91 250 = 1 * ρ 5 + 0 := hm (91, 250, [(1, 5)]) (by decide)
  have m10 : M 91 251 = 1 * ρ 6 + 0 := hm (91, 251, [(1, 6)]) (by decide)
  have m11 : M 91 252 = 1 * ρ 7 + 0 := hm (91, 252, [(1, 7)]) (by decide)
  simp only [h0] at m2 m5 m8
  have qxST := hI.2.2.2.2.2.2.2.2.2.2.2.2.2.2.2.2.2.2.2.2.2.2.2.2.2.2.2.2.2.2.2.2.2.2.2.2.2.2.1
  have qxSP := hI.2.2.2.2.2.2.2.2.2.2.2.2.2.2.2.2.2.2.2.2.2.2.2.2.2.2.2.2.2.2.2.2.2.2.2.2.2.2.2.1
  obtain ⟨g1, g2, g3, g4⟩ := gx_xSE hI (by omega)
  have tb : xop 1 (M 91 252) 255 = tBy (M 4 269) 19 := by
    unfold tBy
    rw [g1, show M 91 250 = M 4 269 by omega, show M 91 251 = 0 by omega]
    rfl

  have gi := gx_xSI hI (by omega)
  rw [show M 91 248 = M 91 252 by omega] at gi
  refine ⟨ρ, fun _ _ => rfl, fun f h => ?_, ?_⟩
  · exact nomatch h
  · show sI (sU (sU M 1 (1 * ρ 1 + 0 : Int).toNat (1 * ρ 2 + 0)) 4 262 (20 * ρ 0 + 0))
    obtain ⟨W, hW⟩ : ∃ W, W = (sU (sU M 1 (1 * ρ 1 + 0).toNat (1 * ρ 2 + 0)) 4 262 (20 * ρ 0 + 0)) := ⟨_, rfl⟩
    rw [← hW]
    have base : sI0 W := by
      rw [hW]
      exact (si_u0 (si_u0 hI.1 (fun r hr => by rw [xt_1 hr]; exact ⟨by show (-128 : Int) ≤ _; omega, by show _ ≤ (127 : Int); omega⟩)) (fun r hr => by cases hr))
    have k2 : XI2 W := by
      rw [hW]
      exact (xi2_u rfl (xi2_u (sinc_ok rfl _) hI.2.1))
    have k3 : XI3 W := by
      rw [hW]
      exact (xi3_u rfl (xi3_u (sinc_ok rfl _) hI.2.2.1))
    have kXA : XA W := by
      rw [hW]
      exact (uXA rfl (uXA (sinc_ok rfl _) hI.2.2.2.1))
    have k_xN1 : xN1 W := by
      rw [hW]
      exact (uxN1 rfl (uxN1 (sinc_ok rfl _) hI.2.2.2.2.1))
    have k_xN2 : xN2 W := by
      rw [hW]
      exact (uxN2 rfl (uxN2 (sinc_ok rfl _) hI.2.2.2.2.2.1))
    have k_xN3 : xN3 W := by
      rw [hW]
      exact (uxN3 rfl (uxN3 (sinc_ok rfl _) hI.2.2.2.2.2.2.1))
    have k_xN4 : xN4 W := by
      rw [hW]
      exact (uxN4 rfl (uxN4 (sinc_ok rfl _) hI.2.2.2.2.2.2.2.1))
    have k_xN5 : xN5 W := by
      rw [hW]
      exact (uxN5 rfl (uxN5 (sinc_ok rfl _) hI.2.2.2.2.2.2.2.2.1))
    have k_xN6 : xN6 W := by
      rw [hW]
      exact (uxN6 rfl (uxN6 (sinc_ok rfl _) hI.2.2.2.2.2.2.2.2.2.1))
    have k_xH1 : xH1 W := by
      rw [hW]
      exact (uxH1 rfl (uxH1 (sinc_ok rfl _) hI.2.2.2.2.2.2.2.2.2.2.1))
    have k_xK1 : xK1 W := by
      rw [hW]
      exact (uxK1 rfl (uxK1 (sinc_ok rfl _) hI.2.2.2.2.2.2.2.2.2.2.2.1))
    have k_xC1 : xC1 W := by
      rw [hW]
      exact (uxC1 rfl (uxC1 (sinc_ok rfl _) hI.2.2.2.2.2.2.2.2.2.2.2.2.1))
    have k_xRW : xRW W := by
      rw [hW]
      exact (uxRW rfl (uxRW (sinc_ok rfl _) hI.2.2.2.2.2.2.2.2.2.2.2.2.2.1))
    have k_xWT : xWT W := by
      rw [hW]
      exact (uxWT rfl (uxWT (sinc_ok rfl _) hI.2.2.2.2.2.2.2.2.2.2.2.2.2.2.1))
    have k_xCU : xCU W := by
      rw [hW]
      exact (uxCU rfl (uxCU (sinc_ok rfl _) hI.2.2.2.2.2.2.2.2.2.2.2.2.2.2.2.1))
    have k_xG2 : xG2 W := by
      rw [hW]
      exact (uxG2 rfl (uxG2 (sinc_ok rfl _) hI.2.2.2.2.2.2.2.2.2.2.2.2.2.2.2.2.1))
    have k_xG3 : xG3 W := by
      rw [hW]
      exact (uxG3 rfl (uxG3 (sinc_ok rfl _) hI.2.2.2.2.2.2.2.2.2.2.2.2.2.2.2.2.2.1))
    have k_xG4 : xG4 W := by
      rw [hW]
      exact (uxG4 rfl (uxG4 (sinc_ok rfl _) hI.2.2.2.2.2.2.2.2.2.2.2.2.2.2.2.2.2.2.1))
    have k_xG5 : xG5 W := by
      rw [hW]
      exact (uxG5 rfl (uxG5 (sinc_ok rfl _) hI.2.2.2.2.2.2.2.2.2.2.2.2.2.2.2.2.2.2.2.1))
    have k_xG6 : xG6 W := by
      rw [hW]
      exact (uxG6 rfl (uxG6 (sinc_ok rfl _) hI.2.2.2.2.2.2.2.2.2.2.2.2.2.2.2.2.2.2.2.2.1))
    have k_xS1 : xS1 W := by
      have r : W 4 100 = 0 := by
        have e := m0
        rw [hW, sU_ne (fun z => by omega), sU_ne (fun z => by omega)]
        omega
      intro h
      rw [r] at h
      exact absurd rfl h
    have k_xS2 : xS2 W := by
      rw [hW]
      exact (uxS2 rfl (uxS2 (sinc_ok rfl _) hI.2.2.2.2.2.2.2.2.2.2.2.2.2.2.2.2.2.2.2.2.2.2.1))
    have k_xS3 : xS3 W := by
      rw [hW]
      exact (uxS3 rfl (uxS3 (sinc_ok rfl _) hI.2.2.2.2.2.2.2.2.2.2.2.2.2.2.2.2.2.2.2.2.2.2.2.1))
    have k_xS4 : xS4 W := by
      rw [hW]
      exact (uxS4 rfl (uxS4 (sinc_ok rfl _) hI.2.2.2.2.2.2.2.2.2.2.2.2.2.2.2.2.2.2.2.2.2.2.2.2.1))
    have k_xS5 : xS5 W := by
      rw [hW]
      exact (uxS5 rfl (uxS5 (sinc_ok rfl _) hI.2.2.2.2.2.2.2.2.2.2.2.2.2.2.2.2.2.2.2.2.2.2.2.2.2.1))
    have k_xS6 : xS6 W := by
      rw [hW]
      exact (uxS6 rfl (uxS6 (sinc_ok rfl _) hI.2.2.2.2.2.2.2.2.2.2.2.2.2.2.2.2.2.2.2.2.2.2.2.2.2.2.1))
    have k_xS7 : xS7 W := by
      rw [hW]
      exact (uxS7 rfl (uxS7 (sinc_ok rfl _) hI.2.2.2.2.2.2.2.2.2.2.2.2.2.2.2.2.2.2.2.2.2.2.2.2.2.2.2.1))
    have k_xS8 : xS8 W := by
      rw [hW]
      exact (uxS8 rfl (uxS8 (sinc_ok rfl _) hI.2.2.2.2.2.2.2.2.2.2.2.2.2.2.2.2.2.2.2.2.2.2.2.2.2.2.2.2.1))
    have k_xS9 : xS9 W := by
      rw [hW]
      exact (uxS9 rfl (uxS9 (sinc_ok rfl _) hI.2.2.2.2.2.2.2.2.2.2.2.2.2.2.2.2.2.2.2.2.2.2.2.2.2.2.2.2.2.1))
    have k_xSA : xSA W := by
      rw [hW]
      exact (uxSA rfl (uxSA (sinc_ok rfl _) hI.2.2.2.2.2.2.2.2.2.2.2.2.2.2.2.2.2.2.2.2.2.2.2.2.2.2.2.2.2.2.1))
    have k_xSG : xSG W := by
      rw [hW]
      exact (uxSG rfl (uxSG (sinc_ok rfl _) hI.2.2.2.2.2.2.2.2.2.2.2.2.2.2.2.2.2.2.2.2.2.2.2.2.2.2.2.2.2.2.2.1))
    have k_xSF : xSF W := by
      rw [hW]
      exact (uxSF rfl (uxSF (sinc_ok rfl _) hI.2.2.2.2.2.2.2.2.2.2.2.2.2.2.2.2.2.2.2.2.2.2.2.2.2.2.2.2.2.2.2.2.1))
    have k_xSB : xSB W := by
      rw [hW]
      exact (uxSB rfl (uxSB (sinc_ok rfl _) hI.2.2.2.2.2.2.2.2.2.2.2.2.2.2.2.2.2.2.2.2.2.2.2.2.2.2.2.2.2.2.2.2.2.1))
    have k_xSC : xSC W := by
      rw [hW]
      exact (uxSC rfl (uxSC (sinc_ok rfl _) hI.2.2.2.2.2.2.2.2.2.2.2.2.2.2.2.2.2.2.2.2.2.2.2.2.2.2.2.2.2.2.2.2.2.2.1))
    have k_xSD : xSD W := by
      rw [hW]
      exact (uxSD rfl (uxSD (sinc_ok rfl _) hI.2.2.2.2.2.2.2.2.2.2.2.2.2.2.2.2.2.2.2.2.2.2.2.2.2.2.2.2.2.2.2.2.2.2.2.1))
    have k_xSE : xSE W := by
      rw [hW]
      exact (uxSE rfl (uxSE (sinc_ok rfl _) hI.2.2.2.2.2.2.2.2.2.2.2.2.2.2.2.2.2.2.2.2.2.2.2.2.2.2.2.2.2.2.2.2.2.2.2.2.1))
    have k_xSW : xSW W := by
      rw [hW]
      exact (uxSW rfl (uxSW (sinc_ok rfl _) hI.2.2.2.2.2.2.2.2.2.2.2.2.2.2.2.2.2.2.2.2.2.2.2.2.2.2.2.2.2.2.2.2.2.2.2.2.2.1))
    have k_xST : xST W := by
      have r4_261 : W 4 261 = M 4 261 := by rw [hW, sU_ne (fun z => by omega), sU_ne (fun z => by omega)]
      have c1 : ∀ k : Nat, k ≠ (1 * ρ 1 + 0).toNat → W 1 k = M 1 k := fun k hk => by rw [hW, sU_ne (fun z => by omega), sU_ne (fun z => by omega)]
      have a1 : W 1 (1 * ρ 1 + 0).toNat = 1 * ρ 2 + 0 := by rw [hW, sU_ne (fun z => by omega), sU_at]
      have c92 : ∀ k, W 92 k = M 92 k := fun k => by rw [hW, sU_ne (fun z => by omega), sU_ne (fun z => by omega)]
      have e92 : W 92 = M 92 := funext c92
      intro i hi
      rw [r4_261] at hi
      rw [c1 i (by omega), e92]
      exact qxST i hi
    have k_xSP : xSP W := by
      have r4_262 : W 4 262 = 20 * ρ 0 + 0 := by rw [hW, sU_at]
      have r4_263 : W 4 263 = M 4 263 := by rw [hW, sU_ne (fun z => by omega), sU_ne (fun z => by omega)]
      have r4_264 : W 4 264 = M 4 264 := by rw [hW, sU_ne (fun z => by omega), sU_ne (fun z => by omega)]
      have r4_265 : W 4 265 = M 4 265 := by rw [hW, sU_ne (fun z => by omega), sU_ne (fun z => by omega)]
      have r4_266 : W 4 266 = M 4 266 := by rw [hW, sU_ne (fun z => by omega), sU_ne (fun z => by omega)]
      have r4_267 : W 4 267 = M 4 267 := by rw [hW, sU_ne (fun z => by omega), sU_ne (fun z => by omega)]
      have r4_268 : W 4 268 = M 4 268 := by rw [hW, sU_ne (fun z => by omega), sU_ne (fun z => by omega)]
      have r4_269 : W 4 269 = M 4 269 := by rw [hW, sU_ne (fun z => by omega), sU_ne (fun z => by omega)]
      have c1 : ∀ k : Nat, k ≠ (1 * ρ 1 + 0).toNat → W 1 k = M 1 k := fun k hk => by rw [hW, sU_ne (fun z => by omega), sU_ne (fun z => by omega)]
      have a1 : W 1 (1 * ρ 1 + 0).toNat = 1 * ρ 2 + 0 := by rw [hW, sU_ne (fun z => by omega), sU_at]
      have c92 : ∀ k, W 92 k = M 92 k := fun k => by rw [hW, sU_ne (fun z => by omega), sU_ne (fun z => by omega)]
      have e92 : W 92 = M 92 := funext c92
      unfold xSP
      rw [r4_262, r4_263, r4_264, e92]
      obtain ⟨p1, p2, p3⟩ := qxSP
      have e4 : ∀ x, x ≠ 262 → W 4 x = M 4 x := fun x hx => by rw [hW, sU_ne (fun z => by omega), sU_ne (fun z => by omega)]
      refine ⟨p1, fun q hq hl => ?_, fun q hq hl => by rw [e4 _ (by omega)]; exact p3 q hq hl⟩
      rw [h0] at hl
      rw [e4 _ (by omega)]
      by_cases hj : q = 19
      · subst hj
        show W 1 ((M 4 263).toNat + 19) = tSn (tBy (M 4 269) 19)
        rw [show (M 4 263).toNat + 19 = (1 * ρ 1 + 0).toNat by omega, a1, ← tb]
        have := xi2b (M 91 252)
        omega
      · rw [c1 _ (by omega)]
        exact p2 q hq (by omega)
    have k_xSL : xSL W := by
      rw [hW]
      exact (uxSL rfl (uxSL (sinc_ok rfl _) hI.2.2.2.2.2.2.2.2.2.2.2.2.2.2.2.2.2.2.2.2.2.2.2.2.2.2.2.2.2.2.2.2.2.2.2.2.2.2.2.2.1))
    have k_xSM : xSM W := by
      rw [hW]
      exact (uxSM rfl (uxSM (sinc_ok rfl _) hI.2.2.2.2.2.2.2.2.2.2.2.2.2.2.2.2.2.2.2.2.2.2.2.2.2.2.2.2.2.2.2.2.2.2.2.2.2.2.2.2.2.1))
    have k_xSI : xSI W := by
      rw [hW]
      exact (uxSI rfl (uxSI (sinc_ok rfl _) hI.2.2.2.2.2.2.2.2.2.2.2.2.2.2.2.2.2.2.2.2.2.2.2.2.2.2.2.2.2.2.2.2.2.2.2.2.2.2.2.2.2.2))
    have k_XC : XC W := ⟨k_xS1, k_xS2, k_xS3, k_xS4, k_xS5, k_xS6, k_xS7, k_xS8, k_xS9, k_xSA, k_xSG, k_xSF, k_xSB, k_xSC, k_xSD, k_xSE, k_xSW, k_xST, k_xSP, k_xSL, k_xSM, k_xSI⟩
    have kXB : XB W := ⟨k_xN1, k_xN2, k_xN3, k_xN4, k_xN5, k_xN6, k_xH1, k_xK1, k_xC1, k_xRW, k_xWT, k_xCU, k_xG2, k_xG3, k_xG4, k_xG5, k_xG6, k_XC⟩
    exact ⟨base, k2, k3, kXA, kXB⟩
-- fdW19
def xr_645 : qRu := (11, [[(-19, 0), (1, 1), (-1, 4)], [(19, 0), (-1, 1), (1, 4)], [(1, 1), (-1, 3)], [(-1, 1), (1, 3)], [(1, 4)], [(699, 0), (-1, 1)], [(1, 1)], [(1, 6)], [(-1, 6)], [(1, 5), (-1, 8)], [(-1, 5), (1, 8)], [(-1, 2), (1, 9)], [(1, 2), (-1, 9)], [(1, 2)], [(255, 0), (-1, 2)]], [(4, 261, [(1, 3)]), (4, 262, [(20, 0)]), (4, 263, [(1, 4)]), (4, 264, []), (4, 269, [(1, 8)]), (91, 257, [(1, 9)]), (4, 100, []), (4, 200, []), (4, 210, []), (4, 212, []), (4, 214, []), (4, 220, []), (4, 233, []), (4, 235, []), (91, 249, [(1, 0)]), (91, 250, [(1, 5)]), (91, 251, [(1, 6)]), (91, 252, [(1, 7)])], [(92, [(1, 1)], [(1, 2)])], [(91, 990, [(1, 11)]), (4, 261, [(1, 0), (1, 3)])], [])
theorem xo_645 : qRok xr_645 := by
  intro ρ M h0 hf hm hI
  have f0 := hf [(-19, 0), (1, 1), (-1, 4)] (by decide)
  have f1 := hf [(19, 0), (-1, 1), (1, 4)] (by decide)
  have f2 := hf [(1, 1), (-1, 3)] (by decide)
  have f3 := hf [(-1, 1), (1, 3)] (by decide)
  have f4 := hf [(1, 4)] (by decide)
  have f5 := hf [(699, 0), (-1, 1)] (by decide)
  have f6 := hf [(1, 1)] (by decide)
  have f7 := hf [(1, 6)] (by decide)
  have f8 := hf [(-1, 6)] (by decide)
  have f9 := hf [(1, 5), (-1, 8)] (by decide)
  have f10 := hf [(-1, 5), (1, 8)] (by decide)
  have f11 := hf [(-1, 2), (1, 9)] (by decide)
  have f12 := hf [(1, 2), (-1, 9)] (by decide)
  have f13 := hf [(1, 2)] (by decide)
  have f14 := hf [(255, 0), (-1, 2)] (by decide)
  simp only [qD, h0] at f0 f1 f2 f3 f4 f5 f6 f7 f8 f9 f10 f11 f12 f13 f14
  have m0 : M 4 261 = 1 * ρ 3 + 0 := hm (4, 261, [(1, 3)]) (by decide)
  have m1 : M 4 262 = 20 * ρ 0 + 0 := hm (4, 262, [(20, 0)]) (by decide)
  have m2 : M 4 263 = 1 * ρ 4 + 0 := hm (4, 263, [(1, 4)]) (by decide)
  have m3 : M 4 264 = 0 := hm (4, 264, []) (by decide)
  have m4 : M 4 269 = 1 * ρ 8 + 0 := hm (4, 269, [(1, 8)]) (by decide)
  have m5 : M 91 257 = 1 * ρ 9 + 0 := hm (91, 257, [(1, 9)]) (by decide)
  have m6 : M 4 100 = 0 := hm (4, 100, []) (by decide)
  have m7 : M 4 200 = 0 := hm (4, 200, []) (by decide)
  have m8 : M 4 210 = 0 := hm (4, 210, []) (by decide)
  have m9 : M 4 212 = 0 := hm (4, 212, []) (by decide)
  have m10 : M 4 214 = 0 := hm (4, 214, []) (by decide)
  have m11 : M 4 220 = 0 := hm (4, 220, []) (by decide)
  have m12 : M 4 233 = 0 := hm (4, 233, []) (by decide)
  have m13 : M 4 235 = 0 := hm (4, 235, []) (by decide)
  have m14 : M 91 249 = 1 * ρ 0 + 0 := hm (91, 249, [(1, 0)]) (by decide)
  have m15 : M 91 250 = 1 * ρ 5 + 0 := hm (91, 250, [(1, 5)]) (by decide)
  have m16 : M 91 251 = 1 * ρ 6 + 0 := hm (91, 251, [(1, 6)]) (by decide)
  have m17 : M 91 252 = 1 * ρ 7 + 0 := hm (91, 252, [(1, 7)]) (by decide)
  simp only [h0] at m1 m14
  have qxST := hI.2.2.2.2.2.2.2.2.2.2.2.2.2.2.2.2.2.2.2.2.2.2.2.2.2.2.2.2.2.2.2.2.2.2.2.2.2.2.1
  have qxSP := hI.2.2.2.2.2.2.2.2.2.2.2.2.2.2.2.2.2.2.2.2.2.2.2.2.2.2.2.2.2.2.2.2.2.2.2.2.2.2.2.1
  obtain ⟨g1, g2, g3, g4⟩ := gx_xSE hI (by omega)
  have tb : xop 1 (M 91 252) 255 = tBy (M 4 269) 19 := by
    unfold tBy
    rw [g1, show M 91 250 = M 4 269 by omega, show M 91 251 = 0 by omega]
    rfl

  have g257 := g4
  refine ⟨fun a => cond (Nat.blt a 11) (ρ a) (([xH (sU M 92 (1 * ρ 1 + 0).toNat (1 * ρ 2 + 0))] : List Int).getD (a - 11) 0), fun a ha => ?_, fun f h => ?_, ?_⟩
  · show cond (Nat.blt a 11) (ρ a) _ = ρ a
    rw [show Nat.blt a 11 = true from Nat.ble_eq_true_of_le ha]; rfl
  · exact nomatch h
  · show sI (sU (sU (sU M 92 (1 * ρ 1 + 0 : Int).toNat (1 * ρ 2 + 0)) 91 990 (1 * (xH (sU M 92 (1 * ρ 1 + 0).toNat (1 * ρ 2 + 0))) + 0)) 4 261 (1 * ρ 0 + (1 * ρ 3 + 0)))
    obtain ⟨W, hW⟩ : ∃ W, W = (sU (sU (sU M 92 (1 * ρ 1 + 0).toNat (1 * ρ 2 + 0)) 91 990 (1 * (xH (sU M 92 (1 * ρ 1 + 0).toNat (1 * ρ 2 + 0))) + 0)) 4 261 (1 * ρ 0 + (1 * ρ 3 + 0))) := ⟨_, rfl⟩
    rw [← hW]
    have base : sI0 W := by
      rw [hW]
      exact (si_u0 (si_u0 (si_u0 hI.1 (fun r hr => by rw [xt_92 hr]; exact ⟨by show (0 : Int) ≤ _; omega, by show _ ≤ (255 : Int); omega⟩)) (fun r hr => by cases hr)) (fun r hr => by cases hr))
    have k2 : XI2 W := by
      refine xi2_congr (fun o k hz ho => ?_) hI.2.1
      have h4 : ¬ (o = 4 ∧ k = 261) := fun z => by rw [z.1, z.2] at hz; exact absurd hz (by decide +kernel)
      rw [hW, sU_ne h4, sU_ne (fun z => by omega), sU_ne (fun z => by omega)]
    have k3 : XI3 W := by
      unfold XI3
      rw [hW]
      rw [sU_ne (fun z => by omega), sU_at]
      have e : ∀ o' k' x y, ¬ (o' = 91 ∧ k' = 990) → ¬ (o' = 4 ∧ k' = 261) → sU (sU (sU M 92 (1 * ρ 1 + 0).toNat (1 * ρ 2 + 0)) 91 990 x) 4 261 y o' k' = sU M 92 (1 * ρ 1 + 0).toNat (1 * ρ 2 + 0) o' k' := fun o' k' x y h h' => by rw [sU_ne h', sU_ne h]
      rw [show ∀ z : Int, 1 * z + 0 = z from fun z => by omega]
      unfold xH
      rw [e _ _ _ _ (by omega) (by omega), e _ _ _ _ (by omega) (by omega), e _ _ _ _ (by omega) (by omega)]
    have kXA : XA W := by
      rw [hW]
      exact (uXA rfl (uXA rfl (uXA (sinc_ok rfl _) hI.2.2.2.1)))
    have k_xN1 : xN1 W := by
      rw [hW]
      exact (uxN1 rfl (uxN1 rfl (uxN1 (sinc_ok rfl _) hI.2.2.2.2.1)))
    have k_xN2 : xN2 W := by
      rw [hW]
      exact (uxN2 rfl (uxN2 rfl (uxN2 (sinc_ok rfl _) hI.2.2.2.2.2.1)))
    have k_xN3 : xN3 W := by
      rw [hW]
      exact (uxN3 rfl (uxN3 rfl (uxN3 (sinc_ok rfl _) hI.2.2.2.2.2.2.1)))
    have k_xN4 : xN4 W := by
      rw [hW]
      exact (uxN4 rfl (uxN4 rfl (uxN4 (sinc_ok rfl _) hI.2.2.2.2.2.2.2.1)))
    have k_xN5 : xN5 W := by
      rw [hW]
      exact (uxN5 rfl (uxN5 rfl (uxN5 (sinc_ok rfl _) hI.2.2.2.2.2.2.2.2.1)))
    have k_xN6 : xN6 W := by
      rw [hW]
      exact (uxN6 rfl (uxN6 rfl (uxN6 (sinc_ok rfl _) hI.2.2.2.2.2.2.2.2.2.1)))
    have k_xH1 : xH1 W := by
      rw [hW]
      exact (uxH1 rfl (uxH1 rfl (uxH1 (sinc_ok rfl _) hI.2.2.2.2.2.2.2.2.2.2.1)))
    have k_xK1 : xK1 W := by
      rw [hW]
      exact (uxK1 rfl (uxK1 rfl (uxK1 (sinc_ok rfl _) hI.2.2.2.2.2.2.2.2.2.2.2.1)))
    have k_xC1 : xC1 W := by
      rw [hW]
      exact (uxC1 rfl (uxC1 rfl (uxC1 (sinc_ok rfl _) hI.2.2.2.2.2.2.2.2.2.2.2.2.1)))
    have k_xRW : xRW W := by
      rw [hW]
      exact (uxRW rfl (uxRW rfl (uxRW (sinc_ok rfl _) hI.2.2.2.2.2.2.2.2.2.2.2.2.2.1)))
    have k_xWT : xWT W := by
      rw [hW]
      exact (uxWT rfl (uxWT rfl (uxWT (sinc_ok rfl _) hI.2.2.2.2.2.2.2.2.2.2.2.2.2.2.1)))
    have k_xCU : xCU W := by
      rw [hW]
      exact (uxCU rfl (uxCU rfl (uxCU (sinc_ok rfl _) hI.2.2.2.2.2.2.2.2.2.2.2.2.2.2.2.1)))
    have k_xG2 : xG2 W := by
      rw [hW]
      exact (uxG2 rfl (uxG2 rfl (uxG2 (sinc_ok rfl _) hI.2.2.2.2.2.2.2.2.2.2.2.2.2.2.2.2.1)))
    have k_xG3 : xG3 W := by
      rw [hW]
      exact (uxG3 rfl (uxG3 rfl (uxG3 (sinc_ok rfl _) hI.2.2.2.2.2.2.2.2.2.2.2.2.2.2.2.2.2.1)))
    have k_xG4 : xG4 W := by
      rw [hW]
      exact (uxG4 rfl (uxG4 rfl (uxG4 (sinc_ok rfl _) hI.2.2.2.2.2.2.2.2.2.2.2.2.2.2.2.2.2.2.1)))
    have k_xG5 : xG5 W := by
      rw [hW]
      exact (uxG5 rfl (uxG5 rfl (uxG5 (sinc_ok rfl _) hI.2.2.2.2.2.2.2.2.2.2.2.2.2.2.2.2.2.2.2.1)))
    have k_xG6 : xG6 W := by
      rw [hW]
      exact (uxG6 rfl (uxG6 rfl (uxG6 (sinc_ok rfl _) hI.2.2.2.2.2.2.2.2.2.2.2.2.2.2.2.2.2.2.2.2.1)))
    have k_xS1 : xS1 W := by
      have r : W 4 100 = 0 := by
        have e := m6
        rw [hW, sU_ne (fun z => by omega), sU_ne (fun z => by omega), sU_ne (fun z => by omega)]
        omega
      intro h
      rw [r] at h
      exact absurd rfl h
    have k_xS2 : xS2 W := by
      have r : W 4 100 = 0 := by
        have e := m6
        rw [hW, sU_ne (fun z => by omega), sU_ne (fun z => by omega), sU_ne (fun z => by omega)]
        omega
      intro h
      rw [r] at h
      exact absurd rfl h
    have k_xS3 : xS3 W := by
      have r : W 4 100 = 0 := by
        have e := m6
        rw [hW, sU_ne (fun z => by omega), sU_ne (fun z => by omega), sU_ne (fun z => by omega)]
        omega
      intro h
      rw [r] at h
      exact absurd rfl h
    have k_xS4 : xS4 W := by
      rw [hW]
      exact (uxS4 rfl (uxS4 rfl (uxS4 (sinc_ok rfl _) hI.2.2.2.2.2.2.2.2.2.2.2.2.2.2.2.2.2.2.2.2.2.2.2.2.1)))
    have k_xS5 : xS5 W := by
      rw [hW]
      exact (uxS5 rfl (uxS5 rfl (uxS5 (sinc_ok rfl _) hI.2.2.2.2.2.2.2.2.2.2.2.2.2.2.2.2.2.2.2.2.2.2.2.2.2.1)))
    have k_xS6 : xS6 W := by
      rw [hW]
      exact (uxS6 rfl (uxS6 rfl (uxS6 (sinc_ok rfl _) hI.2.2.2.2.2.2.2.2.2.2.2.2.2.2.2.2.2.2.2.2.2.2.2.2.2.2.1)))
    have k_xS7 : xS7 W := by
      have r : W 4 200 = 0 := by
        have e := m7
        rw [hW, sU_ne (fun z => by omega), sU_ne (fun z => by omega), sU_ne (fun z => by omega)]
        omega
      intro h
      rw [r] at h
      omega
    have k_xS8 : xS8 W := by
      have r : W 4 210 = 0 := by
        have e := m8
        rw [hW, sU_ne (fun z => by omega), sU_ne (fun z => by omega), sU_ne (fun z => by omega)]
        omega
      intro h
      rw [r] at h
      omega
    have k_xS9 : xS9 W := by
      have r : W 4 212 = 0 := by
        have e := m9
        rw [hW, sU_ne (fun z => by omega), sU_ne (fun z => by omega), sU_ne (fun z => by omega)]
        omega
      intro h
      rw [r] at h
      omega
    have k_xSA : xSA W := by
      have r : W 4 214 = 0 := by
        have e := m10
        rw [hW, sU_ne (fun z => by omega), sU_ne (fun z => by omega), sU_ne (fun z => by omega)]
        omega
      intro h
      rw [r] at h
      omega
    have k_xSG : xSG W := by
      have r : W 4 235 = 0 := by
        have e := m13
        rw [hW, sU_ne (fun z => by omega), sU_ne (fun z => by omega), sU_ne (fun z => by omega)]
        omega
      intro h
      rw [r] at h
      omega
    have k_xSF : xSF W := by
      have r : W 4 233 = 0 := by
        have e := m12
        rw [hW, sU_ne (fun z => by omega), sU_ne (fun z => by omega), sU_ne (fun z => by omega)]
        omega
      intro h
      rw [r] at h
      omega
    have k_xSB : xSB W := by
      have r : W 4 220 = 0 := by
        have e := m11
        rw [hW, sU_ne (fun z => by omega), sU_ne (fun z => by omega), sU_ne (fun z => by omega)]
        omega
      intro h
      rw [r] at h
      omega
    have k_xSC : xSC W := by
      rw [hW]
      exact (uxSC rfl (uxSC rfl (uxSC (sinc_ok rfl _) hI.2.2.2.2.2.2.2.2.2.2.2.2.2.2.2.2.2.2.2.2.2.2.2.2.2.2.2.2.2.2.2.2.2.2.1)))
    have k_xSD : xSD W := by
      rw [hW]
      exact (uxSD rfl (uxSD rfl (uxSD (sinc_ok rfl _) hI.2.2.2.2.2.2.2.2.2.2.2.2.2.2.2.2.2.2.2.2.2.2.2.2.2.2.2.2.2.2.2.2.2.2.2.1)))
    have k_xSE : xSE W := by
      rw [hW]
      exact (uxSE rfl (uxSE rfl (uxSE (sinc_ok rfl _) hI.2.2.2.2.2.2.2.2.2.2.2.2.2.2.2.2.2.2.2.2.2.2.2.2.2.2.2.2.2.2.2.2.2.2.2.2.1)))
    have k_xSW : xSW W := by
      rw [hW]
      exact (uxSW rfl (uxSW rfl (uxSW (sinc_ok rfl _) hI.2.2.2.2.2.2.2.2.2.2.2.2.2.2.2.2.2.2.2.2.2.2.2.2.2.2.2.2.2.2.2.2.2.2.2.2.2.1)))
    have k_xST : xST W := by
      have r4_261 : W 4 261 = 1 * ρ 0 + (1 * ρ 3 + 0) := by rw [hW, sU_at]
      have c1 : ∀ k, W 1 k = M 1 k := fun k => by rw [hW, sU_ne (fun z => by omega), sU_ne (fun z => by omega), sU_ne (fun z => by omega)]
      have e1 : W 1 = M 1 := funext c1
      have c92 : ∀ k : Nat, k ≠ (1 * ρ 1 + 0).toNat → W 92 k = M 92 k := fun k hk => by rw [hW, sU_ne (fun z => by omega), sU_ne (fun z => by omega), sU_ne (fun z => by omega)]
      have a92 : W 92 (1 * ρ 1 + 0).toNat = 1 * ρ 2 + 0 := by rw [hW, sU_ne (fun z => by omega), sU_ne (fun z => by omega), sU_at]
      intro i hi
      rw [r4_261, h0] at hi
      rw [e1]
      by_cases hx : i = (1 * ρ 1 + 0).toNat
      · rw [hx, a92]
        obtain ⟨p1, p2, p3⟩ := gx_xSP hI
        have := p2 19 (by omega) (by omega)
        rw [show (M 4 263).toNat + 19 = (1 * ρ 1 + 0).toNat by omega] at this
        have this : M 1 (1 * ρ 1 + 0).toNat = tSn (tBy (M 4 269) 19) := this
        rw [this, ← tb]
        congr 1
        omega
      · rw [c92 i hx]
        exact qxST i (by omega)
    have k_xSP : xSP W := by
      have r4_262 : W 4 262 = M 4 262 := by rw [hW, sU_ne (fun z => by omega), sU_ne (fun z => by omega), sU_ne (fun z => by omega)]
      have r4_263 : W 4 263 = M 4 263 := by rw [hW, sU_ne (fun z => by omega), sU_ne (fun z => by omega), sU_ne (fun z => by omega)]
      have r4_264 : W 4 264 = M 4 264 := by rw [hW, sU_ne (fun z => by omega), sU_ne (fun z => by omega), sU_ne (fun z => by omega)]
      have r4_265 : W 4 265 = M 4 265 := by rw [hW, sU_ne (fun z => by omega), sU_ne (fun z => by omega), sU_ne (fun z => by omega)]
      have r4_266 : W 4 266 = M 4 266 := by rw [hW, sU_ne (fun z => by omega), sU_ne (fun z => by omega), sU_ne (fun z => by omega)]
      have r4_267 : W 4 267 = M 4 267 := by rw [hW, sU_ne (fun z => by omega), sU_ne (fun z => by omega), sU_ne (fun z => by omega)]
      have r4_268 : W 4 268 = M 4 268 := by rw [hW, sU_ne (fun z => by omega), sU_ne (fun z => by omega), sU_ne (fun z => by omega)]
      have r4_269 : W 4 269 = M 4 269 := by rw [hW, sU_ne (fun z => by omega), sU_ne (fun z => by omega), sU_ne (fun z => by omega)]
      have c1 : ∀ k, W 1 k = M 1 k := fun k => by rw [hW, sU_ne (fun z => by omega), sU_ne (fun z => by omega), sU_ne (fun z => by omega)]
      have e1 : W 1 = M 1 := funext c1
      have c92 : ∀ k : Nat, k ≠ (1 * ρ 1 + 0).toNat → W 92 k = M 92 k := fun k hk => by rw [hW, sU_ne (fun z => by omega), sU_ne (fun z => by omega), sU_ne (fun z => by omega)]
      have a92 : W 92 (1 * ρ 1 + 0).toNat = 1 * ρ 2 + 0 := by rw [hW, sU_ne (fun z => by omega), sU_ne (fun z => by omega), sU_at]
      unfold xSP
      rw [r4_262, r4_263, r4_264, e1]
      obtain ⟨p1, p2, p3⟩ := gx_xSP hI
      refine ⟨p1, fun q hq hl => ?_, fun q hq hl => by omega⟩
      have e4 : ∀ x, x ≠ 261 → W 4 x = M 4 x := fun x hx => by rw [hW, sU_ne (fun z => by omega), sU_ne (fun z => by omega), sU_ne (fun z => by omega)]
      rw [e4 _ (by omega)]
      exact p2 q hq hl
    have k_xSL : xSL W := by
      rw [hW]
      exact (uxSL rfl (uxSL rfl (uxSL (sinc_ok rfl _) hI.2.2.2.2.2.2.2.2.2.2.2.2.2.2.2.2.2.2.2.2.2.2.2.2.2.2.2.2.2.2.2.2.2.2.2.2.2.2.2.2.1)))
    have k_xSM : xSM W := by
      rw [hW]
      exact (uxSM rfl (uxSM rfl (uxSM (sinc_ok rfl _) hI.2.2.2.2.2.2.2.2.2.2.2.2.2.2.2.2.2.2.2.2.2.2.2.2.2.2.2.2.2.2.2.2.2.2.2.2.2.2.2.2.2.1)))
    have k_xSI : xSI W := by
      rw [hW]
      exact (uxSI rfl (uxSI rfl (uxSI (sinc_ok rfl _) hI.2.2.2.2.2.2.2.2.2.2.2.2.2.2.2.2.2.2.2.2.2.2.2.2.2.2.2.2.2.2.2.2.2.2.2.2.2.2.2.2.2.2)))
    have k_XC : XC W := ⟨k_xS1, k_xS2, k_xS3, k_xS4, k_xS5, k_xS6, k_xS7, k_xS8, k_xS9, k_xSA, k_xSG, k_xSF, k_xSB, k_xSC, k_xSD, k_xSE, k_xSW, k_xST, k_xSP, k_xSL, k_xSM, k_xSI⟩
    have kXB : XB W := ⟨k_xN1, k_xN2, k_xN3, k_xN4, k_xN5, k_xN6, k_xH1, k_xK1, k_xC1, k_xRW, k_xWT, k_xCU, k_xG2, k_xG3, k_xG4, k_xG5, k_xG6, k_XC⟩
    exact ⟨base, k2, k3, kXA, kXB⟩
